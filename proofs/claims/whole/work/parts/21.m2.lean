/-! TrafficMatrixModel: routes, demands, measurements -/
theorem isP_i {n p : Nat} (h : isP n p = true) : ¬ p / 5 = p % 5 ∧ p / 5 < n ∧ p % 5 < n := by simpa [isP] using h
theorem bitF_t {d met src tgt : Nat → Nat} {n m p : Nat} (h : isP n p = true) (hd : d p < 1000000) : bitF d met src tgt n m p = bitsN (nxW d met src tgt m (p % 5)) tgt (p % 5) (d p % 10) (p / 5) 0 := by
  obtain ⟨h1, h2, h3⟩ := isP_i h
  unfold bitF
  rw [if_pos (by simp [h1, h2, h3, hd])]
theorem bitF_1 {d met src tgt : Nat → Nat} {n m p : Nat} (h : isP n p = false) : bitF d met src tgt n m p = 0 := by
  unfold bitF
  refine if_neg (fun q => ?_)
  have q2 : ¬ p / 5 = p % 5 ∧ p / 5 < n ∧ p % 5 < n ∧ d p < 1000000 := by simpa using q
  rw [isP_t q2.1 q2.2.1 q2.2.2.1] at h
  cases h
theorem bitF_2 {d met src tgt : Nat → Nat} {n m p : Nat} (h : 1000000 ≤ d p) : bitF d met src tgt n m p = 0 := by
  unfold bitF
  refine if_neg (fun q => ?_)
  have q2 : ¬ p / 5 = p % 5 ∧ p / 5 < n ∧ p % 5 < n ∧ d p < 1000000 := by simpa using q
  omega
theorem path_ok {met src tgt : Nat → Nat} {m t : Nat} {c : Nat → Nat} (ht : ∀ l, tgt l < 5) (hc : rest (wM met) src tgt m t c) : ∀ (i v : Nat), v < 5 → c v < 1000000 → i < c v % 10 → ∃ l, pathL (nxtX c (wM met) src tgt m) tgt i v = some l ∧ l < m ∧ c (tgt l) < 1000000 ∧ c (tgt l) % 10 + (i + 1) = c v % 10
  | 0, v, hv, hlt, hi => by
    have hvt : ¬ v = t := fun e => by rw [e, hc.1] at hi; omega
    obtain ⟨l, h1, h2, h3, h4⟩ := next_some hc hv hvt hlt
    unfold wM at h4
    have hz1 := hops4 ht hc (ht l) (by omega)
    have hz2 := hops4 ht hc hv hlt
    exact ⟨l, h1, h2, by omega, by omega⟩
  | i + 1, v, hv, hlt, hi => by
    have hvt : ¬ v = t := fun e => by rw [e, hc.1] at hi; omega
    obtain ⟨l, h1, h2, h3, h4⟩ := next_some hc hv hvt hlt
    unfold wM at h4
    have hz1 := hops4 ht hc (ht l) (by omega)
    have hz2 := hops4 ht hc hv hlt
    obtain ⟨q, q1, q2, q3, q4⟩ := path_ok ht hc i (tgt l) (ht l) (by omega) (by omega)
    refine ⟨q, ?_, q2, q3, by omega⟩
    show (match nxtX c (wM met) src tgt m v with | none => none | some l => pathL _ tgt i (tgt l)) = some q
    rw [h1]
    exact q1
def bRR (u : MS) (s t : Int32) : Int32 × MS := if pairE (w_n u) s t = 0 then ((if wHas (wBit u) (slot s t) then 0 else -6), wFind u) else (pairE (w_n u) s t, u)
theorem bRR_0 {u : MS} {s t : Int32} (h : (bRR u s t).1 = 0) : pairE (w_n u) s t = 0 ∧ wHas (wBit u) (slot s t) = true ∧ (bRR u s t).2 = wFind u := by
  unfold bRR at h ⊢
  by_cases e : pairE (w_n u) s t = 0
  · rw [if_pos e] at h ⊢
    refine ⟨e, ?_, rfl⟩
    cases hz : wHas (wBit u) (slot s t) with
    | true => rfl
    | false => rw [hz] at h; exact absurd h (show ¬ (-6 : Int32) = 0 by decide)
  · rw [if_neg e] at h
    exact absurd h e
abbrev wReset (u : MS) (k : Nat) : MS := ws_inn (ws_out (ws_gue (ws_ism (ws_dem (ws_m (ws_n u k) 0) (mixN (w_dem u) (fun _ => 0) 25)) (mixN (w_ism u) (fun _ => false) 25)) (mixN (w_gue u) (fun _ => 0) 25)) (mixN (w_out u) (fun _ => 0) 5)) (mixN (w_inn u) (fun _ => 0) 5)
def bReset (u : MS) (k : Int32) : Int32 × MS := if isIn 2 5 k then (nI (w_m u), wReset u (ndx k)) else (-4, u)
abbrev wAdd (u : MS) (s t k : Nat) : MS := ws_m (ws_load (ws_met (ws_tgt (ws_src u (va_up (w_src u) (w_m u) s)) (va_up (w_tgt u) (w_m u) t)) (va_up (w_met u) (w_m u) k)) (va_up (w_load u) (w_m u) 0)) (w_m u + 1)
def bAdd (u : MS) (s t k : Int32) : Int32 × MS := if pairE (w_n u) s t = 0 then (if isIn 1 99 k then (if w_m u = 12 then (-5, u) else (nI (w_m u), wAdd u (ndx s) (ndx t) (ndx k))) else (-4, u)) else (pairE (w_n u) s t, u)
def bSetMet (u : MS) (j k : Int32) : Int32 × MS := if inB j (w_m u) then (if isIn 1 99 k then (nI (w_met u (ndx j)), ws_met u (va_up (w_met u) (ndx j) (ndx k))) else (-4, u)) else (-3, u)
def bRLen (u : MS) (s t : Int32) : Int32 := if (bRR u s t).1 = 0 then nI (wDst u (slot s t) % 10) else (bRR u s t).1
abbrev wNx (u : MS) (t : Nat) : Nat → Option Nat := nxtX (vw (wDst u) t) (wM (w_met u)) (w_src u) (w_tgt u) (w_m u)
def bRLink (u : MS) (s t k : Int32) : Int32 := if (bRR u s t).1 = 0 then (if inB k (wDst u (slot s t) % 10) then nI ((pathL (wNx u (ndx t)) (w_tgt u) (ndx k) (ndx s)).getD 0) else -4) else (bRR u s t).1
def bOnL (u : MS) (k : Int32) : Int32 × MS := if inB k (w_m u) then (nI (cntN (fun s => wUses (wBit u) s (ndx k)) 25), wFind u) else (-3, u)
def bSetDem (u : MS) (s t v : Int32) : Int32 × MS := if pairE (w_n u) s t = 0 then (if isIn 0 9999 v then (w_dem u (slot s t), ws_dem u (va_up (w_dem u) (slot s t) v)) else (-4, u)) else (pairE (w_n u) s t, u)
def bCarr (u : MS) (k : Int32) : Int32 × MS := if inB k (w_m u) then (ldOf (wUses (wBit u)) (w_dem u) (ndx k), wFind u) else (-3, u)
def accO (has : Nat → Bool) (dem b : Nat → Int32) : Nat → Nat → Int32
  | 0 => b
  | i + 1 => if has i then va_up (accO has dem b i) (i / 5) (accO has dem b i (i / 5) + dem i) else accO has dem b i
def accI (has : Nat → Bool) (dem b : Nat → Int32) : Nat → Nat → Int32
  | 0 => b
  | i + 1 => if has i then va_up (accI has dem b i) (i % 5) (accI has dem b i (i % 5) + dem i) else accI has dem b i
abbrev wMeas (u : MS) : MS := ws_load (ws_inn (ws_out (wFind u) (accO (wHas (wBit u)) (w_dem u) (mixN (w_out u) (fun _ => 0) 5) 25)) (accI (wHas (wBit u)) (w_dem u) (mixN (w_inn u) (fun _ => 0) 5) 25)) (mixN (w_load u) (ldOf (wUses (wBit u)) (w_dem u)) (w_m u))
def bSetLoad (u : MS) (k v : Int32) : Int32 × MS := if inB k (w_m u) then (if isIn 0 199980 v then (w_load u (ndx k), ws_load u (va_up (w_load u) (ndx k) v)) else (-4, u)) else (-3, u)
def bLoad (u : MS) (k : Int32) : Int32 := if inB k (w_m u) then w_load u (ndx k) else -3
def bOut (u : MS) (k : Int32) : Int32 := if inB k (w_n u) then w_out u (ndx k) else -1
def bIn (u : MS) (k : Int32) : Int32 := if inB k (w_n u) then w_inn u (ndx k) else -1
def bMPair (u : MS) (s t : Int32) : Int32 × MS := if (bRR u s t).1 = 0 then (w_dem u (slot s t), ws_mea (ws_ism (wFind u) (va_up (w_ism u) (slot s t) true)) (va_up (w_mea u) (slot s t) (w_dem u (slot s t)))) else bRR u s t
def bFPair (u : MS) (s t : Int32) : Int32 × MS := if pairE (w_n u) s t = 0 then (if w_ism u (slot s t) then (w_mea u (slot s t), ws_ism u (va_up (w_ism u) (slot s t) false)) else (-7, u)) else (pairE (w_n u) s t, u)
theorem wIn_isIn (lo hi : Nat) (k : Int32) : wIn k (nI lo) (nI hi) = isIn lo hi k := rfl
set_option maxRecDepth 100000 in
set_option maxHeartbeats 4000000 in
theorem kX5_findRoutes (l : Launch) (Y : yG) (u : MS)  (hok : okM u) : mV l (gM Y) yX5_findRoutes wsX5_findRoutes ({ frames := 3, cells := 0, slots := 0, locals := 68 }) [.ref (yA Y 0)] u (wFind u) := by
  obtain ⟨hn2, hn, hm, hsrc, htgt, hmet⟩ := id hok
  refine mV_of (cc := cX5_findRoutes) (nL := 6) (own := RX5) (by decide) rfl rfl (fun v => cM_geo Y _ v) (Nat.le_of_ble_eq_true rfl) ?_
  intro K hKl hE hret
  have f_0 : ∀ w ∈ u_ws RX5 TX5 20, w ∈ wsX5_findRoutes := by decide +kernel
  have f_1 : Cond.fieldLink RX5 45 "TrafficMatrixModel" "bitsOf" "[I" ∈ wsX5_findRoutes := by decide +kernel
  have f_2 : Cond.fieldLink RX5 42 "TrafficMatrixModel" "distance" "[I" ∈ wsX5_findRoutes := by decide +kernel
  have f_3 : Jvm.Cond.constant RX5 82 1000000 ∈ wsX5_findRoutes := by decide +kernel
  have f_4 : Cond.fieldLink RX5 68 "TrafficMatrixModel" "links" "I" ∈ wsX5_findRoutes := by decide +kernel
  have f_5 : Cond.fieldLink RX5 60 "TrafficMatrixModel" "nodes" "I" ∈ wsX5_findRoutes := by decide +kernel
  have f_6 : Cond.fieldLink RX5 13 "TrafficMatrixModel" "targetOf" "[I" ∈ wsX5_findRoutes := by decide +kernel
  have f_7 : Cond.fieldLink RX5 7 "TrafficMatrixModel" "sourceOf" "[I" ∈ wsX5_findRoutes := by decide +kernel
  show vV K (gM Y) u [(0, .ref (yA Y 0))] [] 0
  refine v_iconst 1 hE (v := nI 0) dX5_findRoutes_0 (by decide) rfl ?_
  refine v_istore_n 2 hE [_, _] dX5_findRoutes_1 rfl (by decide) rfl rfl ?_
  refine vV.sub [1, 0] rfl ?_
  have L2 : ∀ (n2 : Nat) (i : Nat) (d : Nat → Nat), (i ≤ 25) → (d = mixN (w_dist u) d0F i) → 25 + 1 ≤ i + n2 → vV K (gM Y) (ws_dist u d) [(0, .ref (yA Y 0)), (1, .int (nI i))] [] 2 := by
    intro n2
    induction n2 with
    | zero => intro i d hi hd hfu2; exact absurd hfu2 (by omega)
    | succ n2 ih2 =>
      intro i d hi hd hfu2
      refine v_iload_n 3 hE dX5_findRoutes_2 rfl rfl ?_
      refine v_bipush 5 hE (v := nI 25) dX5_findRoutes_3 (by decide) rfl ?_
      refine v_ic_geN 8 hE 35 dX5_findRoutes_5 (by decide) (by omega) (by omega) rfl (fun c5 => ?_) (fun c5 => ?_)
      · refine v_iconst 36 hE (v := nI 0) dX5_findRoutes_35 (by decide) rfl ?_
        refine v_istore_n 37 hE [_, _] dX5_findRoutes_36 rfl (by decide) rfl rfl ?_
        refine vV.sub [1, 0] rfl ?_
        have L37 : ∀ (n37 : Nat) (r : Nat) (e : Nat → Nat), (r ≤ 5) → (e = rlxR (w_met u) (w_src u) (w_tgt u) (w_n u) (w_m u) r (mixN (w_dist u) d0F 25)) → 5 + 1 ≤ r + n37 → vV K (gM Y) (ws_dist u e) [(0, .ref (yA Y 0)), (1, .int (nI r))] [] 37 := by
          intro n37
          induction n37 with
          | zero => intro r e hr he hfu37; exact absurd hfu37 (by omega)
          | succ n37 ih37 =>
            intro r e hr he hfu37
            refine v_iload_n 38 hE dX5_findRoutes_37 rfl rfl ?_
            refine v_iconst 39 hE (v := nI 5) dX5_findRoutes_38 (by decide) rfl ?_
            refine v_ic_geN 42 hE 146 dX5_findRoutes_39 (by decide) (by omega) (by omega) rfl (fun c39 => ?_) (fun c39 => ?_)
            · have hee : e = wDst u := by rw [he, show r = 5 by omega]; rfl
              subst hee
              have hdb : ∀ p, p < 25 → wDst u p ≤ 1000000 := rlxR_le (d0_le _) hsrc hn 5
              refine v_iconst 147 hE (v := nI 0) dX5_findRoutes_146 (by decide) rfl ?_
              refine v_istore_n 148 hE [_, _] dX5_findRoutes_147 rfl (by decide) rfl rfl ?_
              refine vV.sub [1, 0] rfl ?_
              have L148 : ∀ (n148 : Nat) (p : Nat) (b : Nat → Nat), (p ≤ 25) → (b = mixN (w_bits u) (bitF (wDst u) (w_met u) (w_src u) (w_tgt u) (w_n u) (w_m u)) p) → 25 + 1 ≤ p + n148 → vV K (gM Y) (ws_bits (ws_dist u (wDst u)) b) [(0, .ref (yA Y 0)), (1, .int (nI p))] [] 148 := by
                intro n148
                induction n148 with
                | zero => intro p b hp hb hfu148; exact absurd hfu148 (by omega)
                | succ n148 ih148 =>
                  intro p b hp hb hfu148
                  refine v_iload_n 149 hE dX5_findRoutes_148 rfl rfl ?_
                  refine v_bipush 151 hE (v := nI 25) dX5_findRoutes_149 (by decide) rfl ?_
                  refine v_ic_geN 154 hE 194 dX5_findRoutes_151 (by decide) (by omega) (by omega) rfl (fun c151 => ?_) (fun c151 => ?_)
                  · exact (hret _ _ dX5_findRoutes_194).cast (by rw [hb, show p = 25 by omega]) rfl
                  · refine v_aload_n 155 hE dX5_findRoutes_154 rfl rfl ?_
                    refine gM_bitsOf 158 hE f_0 f_1 dX5_findRoutes_155 rfl ?_
                    refine v_iload_n 159 hE dX5_findRoutes_158 rfl rfl ?_
                    refine v_aload_n 160 hE dX5_findRoutes_159 rfl rfl ?_
                    refine v_iload_n 161 hE dX5_findRoutes_160 rfl rfl ?_
                    refine v_ciE 164 hE (v_runV 1 hE (vSub.self hE) (kX5_isPair _ Y (ws_bits (ws_dist u (wDst u)) b) _ hok (by omega)) gX5_findRoutes_X5_isPair rfl (by decide +kernel) rfl (q0 := 0) rfl rfl ⟨rfl, rfl, by decide, by decide⟩ rfl (Nat.le_of_ble_eq_true rfl) dX5_findRoutes_161) rfl ?_
                    show vV K (gM Y) _ _ (.int (bI (isP (w_n u) _)) :: _) _
                    refine v_if_eqB 167 hE 186 dX5_findRoutes_164 (by decide) rfl (fun c164 => ?_) (fun c164 => ?_)
                    · refine v_iconst 187 hE (v := nI 0) dX5_findRoutes_186 (by decide) rfl ?_
                      refine sM_bits 188 hE (by omega) dX5_findRoutes_187 rfl ?_
                      refine v_iincN 191 hE [_, _] dX5_findRoutes_188 rfl (by decide) rfl rfl ?_
                      refine v_goto hE 148 dX5_findRoutes_191 (by decide) ?_
                      refine vV.sub [1, 0] rfl ?_
                      exact ih148 _ _ (by omega) (by rw [hb, ← mixN_s]; congr 1; first | exact (bitF_t c164 c175).symm | exact (bitF_1 c164).symm | exact (bitF_2 c175).symm) (by omega)
                    · refine v_aload_n 168 hE dX5_findRoutes_167 rfl rfl ?_
                      refine gM_distance 171 hE f_0 f_2 dX5_findRoutes_168 rfl ?_
                      refine v_iload_n 172 hE dX5_findRoutes_171 rfl rfl ?_
                      refine lM_dist 173 hE (by omega) dX5_findRoutes_172 rfl ?_
                      show vV K (gM Y) _ _ (.int (nI ((wDst u) _)) :: _) _
                      refine v_ldc 175 hE (v := nI 1000000) f_3 dX5_findRoutes_173 rfl ?_
                      have hdp := hdb p (by omega)
                      refine v_ic_geN 178 hE 186 dX5_findRoutes_175 (by decide) (by omega) (by omega) rfl (fun c175 => ?_) (fun c175 => ?_)
                      · refine v_iconst 187 hE (v := nI 0) dX5_findRoutes_186 (by decide) rfl ?_
                        refine sM_bits 188 hE (by omega) dX5_findRoutes_187 rfl ?_
                        refine v_iincN 191 hE [_, _] dX5_findRoutes_188 rfl (by decide) rfl rfl ?_
                        refine v_goto hE 148 dX5_findRoutes_191 (by decide) ?_
                        refine vV.sub [1, 0] rfl ?_
                        exact ih148 _ _ (by omega) (by rw [hb, ← mixN_s]; congr 1; first | exact (bitF_t c164 c175).symm | exact (bitF_1 c164).symm | exact (bitF_2 c175).symm) (by omega)
                      · obtain ⟨hp1, hp2, hp3⟩ := isP_i c164
                        refine v_aload_n 179 hE dX5_findRoutes_178 rfl rfl ?_
                        refine v_iload_n 180 hE dX5_findRoutes_179 rfl rfl ?_
                        refine v_ciE 183 hE (v_runV 1 hE (vSub.self hE) (kX5_routeBits _ Y (ws_bits (ws_dist u (wDst u)) b) _ hok (by omega) hdb (dst_rest (w_dist u) hp3 hn hsrc htgt) c175) gX5_findRoutes_X5_routeBits rfl (by decide +kernel) rfl (q0 := 0) rfl rfl ⟨rfl, rfl, by decide, by decide⟩ rfl (Nat.le_of_ble_eq_true rfl) dX5_findRoutes_180) rfl ?_
                        refine v_goto hE 187 dX5_findRoutes_183 (by decide) ?_
                        refine sM_bits 188 hE (by omega) dX5_findRoutes_187 rfl ?_
                        refine v_iincN 191 hE [_, _] dX5_findRoutes_188 rfl (by decide) rfl rfl ?_
                        refine v_goto hE 148 dX5_findRoutes_191 (by decide) ?_
                        refine vV.sub [1, 0] rfl ?_
                        exact ih148 _ _ (by omega) (by rw [hb, ← mixN_s]; congr 1; first | exact (bitF_t c164 c175).symm | exact (bitF_1 c164).symm | exact (bitF_2 c175).symm) (by omega)
              exact L148 (25 + 1) 0 (w_bits u) (by omega) (mixN_0 _ _).symm (by omega)
            · refine v_iconst 43 hE (v := nI 0) dX5_findRoutes_42 (by decide) rfl ?_
              refine v_istore_n 44 hE [_, _, _] dX5_findRoutes_43 rfl (by decide) rfl rfl ?_
              refine vV.sub [1, 2, 0] rfl ?_
              have L44 : ∀ (n44 : Nat) (k : Nat) (f : Nat → Nat), (k ≤ w_m u) → (f = rlxL (w_met u) (w_src u) (w_tgt u) (w_n u) k e) → w_m u + 1 ≤ k + n44 → vV K (gM Y) (ws_dist u f) [(0, .ref (yA Y 0)), (1, .int (nI r)), (2, .int (nI k))] [] 44 := by
                intro n44
                induction n44 with
                | zero => intro k f hk hf hfu44; exact absurd hfu44 (by omega)
                | succ n44 ih44 =>
                  intro k f hk hf hfu44
                  refine v_iload_n 45 hE dX5_findRoutes_44 rfl rfl ?_
                  refine v_aload_n 46 hE dX5_findRoutes_45 rfl rfl ?_
                  refine gM_links 49 hE f_0 f_4 dX5_findRoutes_46 rfl ?_
                  show vV K (gM Y) _ _ (.int (nI (w_m u)) :: _) _
                  refine v_ic_geN 52 hE 140 dX5_findRoutes_49 (by decide) (by omega) (by omega) rfl (fun c49 => ?_) (fun c49 => ?_)
                  · refine v_iincN 143 hE [_, _, _] dX5_findRoutes_140 rfl (by decide) rfl rfl ?_
                    refine v_goto hE 37 dX5_findRoutes_143 (by decide) ?_
                    refine vV.sub [1, 0] rfl ?_
                    exact ih37 _ _ (by omega) (by rw [hf, he, show k = w_m u by omega]; rfl) (by omega)
                  · refine v_iconst 53 hE (v := nI 0) dX5_findRoutes_52 (by decide) rfl ?_
                    refine v_istore_n 54 hE [_, _, _, _] dX5_findRoutes_53 rfl (by decide) rfl rfl ?_
                    refine vV.sub [1, 2, 3, 0] rfl ?_
                    have L54 : ∀ (n54 : Nat) (t : Nat) (g : Nat → Nat), (t ≤ w_n u) → (g = rlxT (w_met u) (w_src u) (w_tgt u) k t f) → w_n u + 1 ≤ t + n54 → vV K (gM Y) (ws_dist u g) [(0, .ref (yA Y 0)), (1, .int (nI r)), (2, .int (nI k)), (3, .int (nI t))] [] 54 := by
                      intro n54
                      induction n54 with
                      | zero => intro t g ht hg hfu54; exact absurd hfu54 (by omega)
                      | succ n54 ih54 =>
                        intro t g ht hg hfu54
                        refine v_iload_n 55 hE dX5_findRoutes_54 rfl rfl ?_
                        refine v_aload_n 56 hE dX5_findRoutes_55 rfl rfl ?_
                        refine gM_nodes 59 hE f_0 f_5 dX5_findRoutes_56 rfl ?_
                        show vV K (gM Y) _ _ (.int (nI (w_n u)) :: _) _
                        refine v_ic_geN 62 hE 134 dX5_findRoutes_59 (by decide) (by omega) (by omega) rfl (fun c59 => ?_) (fun c59 => ?_)
                        · refine v_iincN 137 hE [_, _, _, _] dX5_findRoutes_134 rfl (by decide) rfl rfl ?_
                          refine v_goto hE 44 dX5_findRoutes_137 (by decide) ?_
                          refine vV.sub [1, 2, 0] rfl ?_
                          exact ih44 _ _ (by omega) (by rw [hg, hf, show t = w_n u by omega]; rfl) (by omega)
                        · have hgb : ∀ p, p < 25 → g p ≤ 1000000 := by rw [hg, hf, he]; exact rlxT_le (rlxL_le (rlxR_le (d0_le _) hsrc hn r) hsrc hn k) (hsrc k) t (by omega)
                          have hs := hsrc k
                          have htk := htgt k
                          have hmk := hmet k
                          have hb1 := hgb (5 * w_tgt u k + t) (by omega)
                          have hb2 := hgb (5 * w_src u k + t) (by omega)
                          have hwm : wM (w_met u) k = 10 * w_met u k + 1 := rfl
                          refine v_aload_n 63 hE dX5_findRoutes_62 rfl rfl ?_
                          refine v_iload_n 64 hE dX5_findRoutes_63 rfl rfl ?_
                          refine v_ciE 67 hE (v_runV 1 hE (vSub.self hE) (kX5_costOf _ Y _ _ (by omega)) gX5_findRoutes_X5_costOf rfl (by decide +kernel) rfl (q0 := 0) rfl rfl ⟨rfl, rfl, by decide, by decide⟩ rfl (Nat.le_of_ble_eq_true rfl) dX5_findRoutes_64) rfl ?_
                          show vV K (gM Y) _ _ (.int (nI (wM (w_met u) _)) :: _) _
                          refine v_aload_n 68 hE dX5_findRoutes_67 rfl rfl ?_
                          refine gM_distance 71 hE f_0 f_2 dX5_findRoutes_68 rfl ?_
                          refine v_iconst 72 hE (v := nI 5) dX5_findRoutes_71 (by decide) rfl ?_
                          refine v_aload_n 73 hE dX5_findRoutes_72 rfl rfl ?_
                          refine gM_targetOf 76 hE f_0 f_6 dX5_findRoutes_73 rfl ?_
                          refine v_iload_n 77 hE dX5_findRoutes_76 rfl rfl ?_
                          refine lM_tgt 78 hE (by omega) dX5_findRoutes_77 rfl ?_
                          show vV K (gM Y) _ _ (.int (nI ((w_tgt u) _)) :: _) _
                          refine v_imulN 79 hE dX5_findRoutes_78 rfl ?_
                          refine v_iload_n 80 hE dX5_findRoutes_79 rfl rfl ?_
                          refine v_iaddN 81 hE dX5_findRoutes_80 rfl ?_
                          refine lM_dist 82 hE (by omega) dX5_findRoutes_81 rfl ?_
                          show vV K (gM Y) _ _ (.int (nI ((g) _)) :: _) _
                          refine v_iaddN 83 hE dX5_findRoutes_82 rfl ?_
                          refine v_istore 85 hE [_, _, _, _, _] dX5_findRoutes_83 (by decide) rfl rfl ?_
                          refine v_iconst 86 hE (v := nI 5) dX5_findRoutes_85 (by decide) rfl ?_
                          refine v_aload_n 87 hE dX5_findRoutes_86 rfl rfl ?_
                          refine gM_sourceOf 90 hE f_0 f_7 dX5_findRoutes_87 rfl ?_
                          refine v_iload_n 91 hE dX5_findRoutes_90 rfl rfl ?_
                          refine lM_src 92 hE (by omega) dX5_findRoutes_91 rfl ?_
                          show vV K (gM Y) _ _ (.int (nI ((w_src u) _)) :: _) _
                          refine v_imulN 93 hE dX5_findRoutes_92 rfl ?_
                          refine v_iload_n 94 hE dX5_findRoutes_93 rfl rfl ?_
                          refine v_iaddN 95 hE dX5_findRoutes_94 rfl ?_
                          refine v_istore 97 hE [_, _, _, _, _, _] dX5_findRoutes_95 (by decide) rfl rfl ?_
                          refine v_aload_n 98 hE dX5_findRoutes_97 rfl rfl ?_
                          refine gM_distance 101 hE f_0 f_2 dX5_findRoutes_98 rfl ?_
                          refine v_iload 103 hE dX5_findRoutes_101 rfl rfl ?_
                          refine v_iload 105 hE dX5_findRoutes_103 rfl rfl ?_
                          refine v_aload_n 106 hE dX5_findRoutes_105 rfl rfl ?_
                          refine gM_distance 109 hE f_0 f_2 dX5_findRoutes_106 rfl ?_
                          refine v_iload 111 hE dX5_findRoutes_109 rfl rfl ?_
                          refine lM_dist 112 hE (by omega) dX5_findRoutes_111 rfl ?_
                          show vV K (gM Y) _ _ (.int (nI ((g) _)) :: _) _
                          refine v_ic_geN 115 hE 120 dX5_findRoutes_112 (by decide) (by omega) (by omega) rfl (fun c112 => ?_) (fun c112 => ?_)
                          · refine v_aload_n 121 hE dX5_findRoutes_120 rfl rfl ?_
                            refine gM_distance 124 hE f_0 f_2 dX5_findRoutes_121 rfl ?_
                            refine v_iload 126 hE dX5_findRoutes_124 rfl rfl ?_
                            refine lM_dist 127 hE (by omega) dX5_findRoutes_126 rfl ?_
                            show vV K (gM Y) _ _ (.int (nI ((g) _)) :: _) _
                            refine sM_dist 128 hE (by omega) dX5_findRoutes_127 rfl ?_
                            refine v_iincN 131 hE [_, _, _, _, _, _] dX5_findRoutes_128 rfl (by decide) rfl rfl ?_
                            refine v_goto hE 54 dX5_findRoutes_131 (by decide) ?_
                            refine vV.sub [3, 4, 5, 0] rfl ?_
                            exact ih54 _ _ (by omega) (by subst hg; show _ = rlx _ _ _ _ _ _; unfold rlx; first | (rw [if_neg (Nat.not_lt.mpr c112)]; done) | (rw [if_pos c112]; done)) (by omega)
                          · refine v_iload 117 hE dX5_findRoutes_115 rfl rfl ?_
                            refine v_goto hE 127 dX5_findRoutes_117 (by decide) ?_
                            refine sM_dist 128 hE (by omega) dX5_findRoutes_127 rfl ?_
                            refine v_iincN 131 hE [_, _, _, _, _, _] dX5_findRoutes_128 rfl (by decide) rfl rfl ?_
                            refine v_goto hE 54 dX5_findRoutes_131 (by decide) ?_
                            refine vV.sub [3, 4, 5, 0] rfl ?_
                            exact ih54 _ _ (by omega) (by subst hg; show _ = rlx _ _ _ _ _ _; unfold rlx; first | (rw [if_neg (Nat.not_lt.mpr c112)]; done) | (rw [if_pos c112]; done)) (by omega)
                    exact L54 (w_n u + 1) 0 f (by omega) rfl (by omega)
              exact L44 (w_m u + 1) 0 e (by omega) rfl (by omega)
        exact L37 (5 + 1) 0 d (by omega) (by rw [hd, show i = 25 by omega]; rfl) (by omega)
      · refine v_aload_n 9 hE dX5_findRoutes_8 rfl rfl ?_
        refine gM_distance 12 hE f_0 f_2 dX5_findRoutes_9 rfl ?_
        refine v_iload_n 13 hE dX5_findRoutes_12 rfl rfl ?_
        refine v_iload_n 14 hE dX5_findRoutes_13 rfl rfl ?_
        refine v_iconst 15 hE (v := nI 5) dX5_findRoutes_14 (by decide) rfl ?_
        refine v_idivN 16 hE dX5_findRoutes_15 (by omega) (by omega) (by omega) rfl ?_
        refine v_iload_n 17 hE dX5_findRoutes_16 rfl rfl ?_
        refine v_iconst 18 hE (v := nI 5) dX5_findRoutes_17 (by decide) rfl ?_
        refine v_iremN 19 hE dX5_findRoutes_18 (by omega) (by omega) (by omega) rfl ?_
        refine v_ic_neN 22 hE 26 dX5_findRoutes_19 (by decide) (by omega) (by omega) rfl (fun c19 => ?_) (fun c19 => ?_)
        · refine v_ldc 28 hE (v := nI 1000000) f_3 dX5_findRoutes_26 rfl ?_
          refine sM_dist 29 hE (by omega) dX5_findRoutes_28 rfl ?_
          refine v_iincN 32 hE [_, _] dX5_findRoutes_29 rfl (by decide) rfl rfl ?_
          refine v_goto hE 2 dX5_findRoutes_32 (by decide) ?_
          refine vV.sub [1, 0] rfl ?_
          exact ih2 _ _ (by omega) (by rw [hd, ← mixN_s]; congr 1; unfold d0F; simp [c19]) (by omega)
        · refine v_iconst 23 hE (v := nI 0) dX5_findRoutes_22 (by decide) rfl ?_
          refine v_goto hE 28 dX5_findRoutes_23 (by decide) ?_
          refine sM_dist 29 hE (by omega) dX5_findRoutes_28 rfl ?_
          refine v_iincN 32 hE [_, _] dX5_findRoutes_29 rfl (by decide) rfl rfl ?_
          refine v_goto hE 2 dX5_findRoutes_32 (by decide) ?_
          refine vV.sub [1, 0] rfl ?_
          exact ih2 _ _ (by omega) (by rw [hd, ← mixN_s]; congr 1; unfold d0F; simp [c19]) (by omega)
  exact L2 (25 + 1) 0 (w_dist u) (by omega) (mixN_0 _ _).symm (by omega)
set_option maxRecDepth 100000 in
set_option maxHeartbeats 4000000 in
theorem kX5_refusedRoute (l : Launch) (Y : yG) (u : MS) (s t : Int32) (hok : okM u) : mI l (gM Y) yX5_refusedRoute wsX5_refusedRoute ({ frames := 4, cells := 0, slots := 0, locals := 93 }) [.ref (yA Y 0), .int s, .int t] u ((bRR u s t).1) (bRR u s t).2 := by
  obtain ⟨hn2, hn, hm, hsrc, htgt, hmet⟩ := id hok
  refine mI_of (cc := cX5_refusedRoute) (nL := 4) (own := RX5) (by decide) rfl rfl (fun v => cM_geo Y _ v) (Nat.le_of_ble_eq_true rfl) ?_
  intro K hKl hE hret
  show vV K (gM Y) u [(0, .ref (yA Y 0)), (1, .int s), (2, .int t)] [] 0
  refine v_aload_n 1 hE dX5_refusedRoute_0 rfl rfl ?_
  refine v_iload_n 2 hE dX5_refusedRoute_1 rfl rfl ?_
  refine v_iload_n 3 hE dX5_refusedRoute_2 rfl rfl ?_
  refine v_ciE 6 hE (v_runV 2 hE (vSub.self hE) (kX5_refused _ Y _ _ _ hok) gX5_refusedRoute_X5_refused rfl (by decide +kernel) rfl (q0 := 0) rfl rfl ⟨rfl, rfl, by decide, by decide⟩ rfl (Nat.le_of_ble_eq_true rfl) dX5_refusedRoute_3) rfl ?_
  refine v_istore_n 7 hE [_, _, _, _] dX5_refusedRoute_6 rfl (by decide) rfl rfl ?_
  refine v_iload_n 8 hE dX5_refusedRoute_7 rfl rfl ?_
  refine v_if_eq 11 hE 13 dX5_refusedRoute_8 (by decide) rfl (fun c8 => ?_) (fun c8 => ?_)
  · obtain ⟨a, b, ha, hb, rfl, rfl, hab⟩ := pairE_0 hn c8
    have hsl : slot (nI a) (nI b) = 5 * a + b := by rw [slot_nI (by omega) (by omega)]; omega
    refine v_aload_n 14 hE dX5_refusedRoute_13 rfl rfl ?_
    refine v_cvE 17 hE (v_runV 0 hE (vSub.self hE) (kX5_findRoutes _ Y _ hok) gX5_refusedRoute_X5_findRoutes rfl (by decide +kernel) rfl (q0 := 0) rfl rfl ⟨rfl, rfl, by decide, by decide⟩ rfl (Nat.le_of_ble_eq_true rfl) dX5_refusedRoute_14) rfl ?_
    refine v_aload_n 18 hE dX5_refusedRoute_17 rfl rfl ?_
    refine v_iconst 19 hE (v := nI 5) dX5_refusedRoute_18 (by decide) rfl ?_
    refine v_iload_n 20 hE dX5_refusedRoute_19 rfl rfl ?_
    refine v_imulN 21 hE dX5_refusedRoute_20 rfl ?_
    refine v_iload_n 22 hE dX5_refusedRoute_21 rfl rfl ?_
    refine v_iaddN 23 hE dX5_refusedRoute_22 rfl ?_
    refine v_ciE 26 hE (v_runV 1 hE (vSub.self hE) (kX5_hasRoute _ Y (wFind u) _ (by omega) (wBit_lt hok (by omega))) gX5_refusedRoute_X5_hasRoute rfl (by decide +kernel) rfl (q0 := 0) rfl rfl ⟨rfl, rfl, by decide, by decide⟩ rfl (Nat.le_of_ble_eq_true rfl) dX5_refusedRoute_23) rfl ?_
    refine v_if_eqB 29 hE 33 dX5_refusedRoute_26 (by decide) rfl (fun c26 => ?_) (fun c26 => ?_)
    · refine v_bipush 35 hE (v := -6) dX5_refusedRoute_33 (by decide) rfl ?_
      exact (hret _ _ dX5_refusedRoute_35).cast (by unfold bRR; rw [if_pos c8]) (rI (by unfold bRR; rw [if_pos c8, hsl]; show _ = (if _ then _ else _); rw [show wHas (wBit u) (5 * a + b) = _ from c26]; rfl))
    · refine v_iconst 30 hE (v := 0) dX5_refusedRoute_29 (by decide) rfl ?_
      refine v_goto hE 35 dX5_refusedRoute_30 (by decide) ?_
      exact (hret _ _ dX5_refusedRoute_35).cast (by unfold bRR; rw [if_pos c8]) (rI (by unfold bRR; rw [if_pos c8, hsl]; show _ = (if _ then _ else _); rw [show wHas (wBit u) (5 * a + b) = _ from c26]; rfl))
  · refine v_iload_n 12 hE dX5_refusedRoute_11 rfl rfl ?_
    exact (hret _ _ dX5_refusedRoute_12).cast (by unfold bRR; rw [if_neg c8]) (rI (by unfold bRR; rw [if_neg c8]))
set_option maxRecDepth 100000 in
set_option maxHeartbeats 4000000 in
theorem kX5_reset (l : Launch) (Y : yG) (u : MS) (k : Int32) (hok : okM u) : mI l (gM Y) yX5_reset wsX5_reset ({ frames := 1, cells := 0, slots := 0, locals := 22 }) [.ref (yA Y 0), .int k] u ((bReset u k).1) (bReset u k).2 := by
  obtain ⟨hn2, hn, hm, hsrc, htgt, hmet⟩ := id hok
  refine mI_of (cc := cX5_reset) (nL := 4) (own := RX5) (by decide) rfl rfl (fun v => cM_geo Y _ v) (Nat.le_of_ble_eq_true rfl) ?_
  intro K hKl hE hret
  have f_0 : ∀ w ∈ u_ws RX5 TX5 20, w ∈ wsX5_reset := by decide +kernel
  have f_1 : Cond.fieldLink RX5 68 "TrafficMatrixModel" "links" "I" ∈ wsX5_reset := by decide +kernel
  have f_2 : Cond.fieldLink RX5 60 "TrafficMatrixModel" "nodes" "I" ∈ wsX5_reset := by decide +kernel
  have f_3 : Cond.fieldLink RX5 25 "TrafficMatrixModel" "outOf" "[I" ∈ wsX5_reset := by decide +kernel
  have f_4 : Cond.fieldLink RX5 28 "TrafficMatrixModel" "inOf" "[I" ∈ wsX5_reset := by decide +kernel
  have f_5 : Cond.fieldLink RX5 19 "TrafficMatrixModel" "demand" "[I" ∈ wsX5_reset := by decide +kernel
  have f_6 : Cond.fieldLink RX5 31 "TrafficMatrixModel" "isMeasured" "[Z" ∈ wsX5_reset := by decide +kernel
  have f_7 : Cond.fieldLink RX5 38 "TrafficMatrixModel" "guess" "[J" ∈ wsX5_reset := by decide +kernel
  show vV K (gM Y) u [(0, .ref (yA Y 0)), (1, .int k)] [] 0
  refine v_iload_n 1 hE dX5_reset_0 rfl rfl ?_
  refine v_iconst 2 hE (v := nI 2) dX5_reset_1 (by decide) rfl ?_
  refine v_iconst 3 hE (v := nI 5) dX5_reset_2 (by decide) rfl ?_
  refine v_ciE 6 hE (v_runS 3 hE (vSub.self hE) (kX5_within _ Y _ _ _ _) gX5_reset_X5_within rfl (by decide +kernel) rfl ⟨rfl, rfl, by decide, by decide⟩ rfl (Nat.le_of_ble_eq_true rfl) dX5_reset_3) rfl ?_
  refine v_if_neB 9 hE 12 dX5_reset_6 (by decide) rfl (fun c6 => ?_) (fun c6 => ?_)
  · have c6b : isIn 2 5 k = true := c6
    obtain ⟨j, hj2, hj5, rfl⟩ := isIn_t (by decide) (by decide) c6b
    have hjx := ndx_nI (k := j) (by omega)
    refine v_aload_n 13 hE dX5_reset_12 rfl rfl ?_
    refine gM_links 16 hE f_0 f_1 dX5_reset_13 rfl ?_
    refine v_istore_n 17 hE [_, _, _] dX5_reset_16 rfl (by decide) rfl rfl ?_
    refine v_aload_n 18 hE dX5_reset_17 rfl rfl ?_
    refine v_iload_n 19 hE dX5_reset_18 rfl rfl ?_
    refine pM_nodes 22 hE f_0 f_2 dX5_reset_19 rfl ?_
    refine v_aload_n 23 hE dX5_reset_22 rfl rfl ?_
    refine v_iconst 24 hE (v := nI 0) dX5_reset_23 (by decide) rfl ?_
    refine pM_links 27 hE f_0 f_1 dX5_reset_24 rfl ?_
    refine v_iconst 28 hE (v := nI 0) dX5_reset_27 (by decide) rfl ?_
    refine v_istore_n 29 hE [_, _, _, _] dX5_reset_28 rfl (by decide) rfl rfl ?_
    refine vV.sub [2, 3, 1, 0] rfl ?_
    have L29 : ∀ (n29 : Nat) (i : Nat) (f1 : Nat → Int32) (f2 : Nat → Bool) (f3 : Nat → Int64), (i ≤ 25) → (f1 = mixN (w_dem u) (fun _ => 0) i) → (f2 = mixN (w_ism u) (fun _ => false) i) → (f3 = mixN (w_gue u) (fun _ => 0) i) → 25 + 1 ≤ i + n29 → vV K (gM Y) (ws_gue (ws_ism (ws_dem (ws_m (ws_n u j) 0) f1) f2) f3) [(0, .ref (yA Y 0)), (1, .int (nI j)), (2, .int (nI (w_m u))), (3, .int (nI i))] [] 29 := by
      intro n29
      induction n29 with
      | zero => intro i f1 f2 f3 hi h1 h2 h3 hfu29; exact absurd hfu29 (by omega)
      | succ n29 ih29 =>
        intro i f1 f2 f3 hi h1 h2 h3 hfu29
        refine v_iload_n 30 hE dX5_reset_29 rfl rfl ?_
        refine v_bipush 32 hE (v := nI 25) dX5_reset_30 (by decide) rfl ?_
        refine v_ic_geN 35 hE 62 dX5_reset_32 (by decide) (by omega) (by omega) rfl (fun c32 => ?_) (fun c32 => ?_)
        · refine v_iconst 63 hE (v := nI 0) dX5_reset_62 (by decide) rfl ?_
          refine v_istore_n 64 hE [_, _, _, _] dX5_reset_63 rfl (by decide) rfl rfl ?_
          refine vV.sub [1, 2, 3, 0] rfl ?_
          have L64 : ∀ (n64 : Nat) (v : Nat) (f4 : Nat → Int32) (f5 : Nat → Int32), (v ≤ 5) → (f4 = mixN (w_out u) (fun _ => 0) v) → (f5 = mixN (w_inn u) (fun _ => 0) v) → 5 + 1 ≤ v + n64 → vV K (gM Y) (ws_inn (ws_out (ws_gue (ws_ism (ws_dem (ws_m (ws_n u j) 0) f1) f2) f3) f4) f5) [(0, .ref (yA Y 0)), (1, .int (nI j)), (2, .int (nI (w_m u))), (3, .int (nI v))] [] 64 := by
            intro n64
            induction n64 with
            | zero => intro v f4 f5 hv h4 h5 hfu64; exact absurd hfu64 (by omega)
            | succ n64 ih64 =>
              intro v f4 f5 hv h4 h5 hfu64
              refine v_iload_n 65 hE dX5_reset_64 rfl rfl ?_
              refine v_iconst 66 hE (v := nI 5) dX5_reset_65 (by decide) rfl ?_
              refine v_ic_geN 69 hE 89 dX5_reset_66 (by decide) (by omega) (by omega) rfl (fun c66 => ?_) (fun c66 => ?_)
              · refine v_iload_n 90 hE dX5_reset_89 rfl rfl ?_
                exact (hret _ _ dX5_reset_90).cast (by unfold bReset; rw [if_pos c6b, hjx, h1, h2, h3, h4, h5, show i = 25 by omega, show v = 5 by omega]) (rI (by unfold bReset; rw [if_pos c6b]))
              · refine v_aload_n 70 hE dX5_reset_69 rfl rfl ?_
                refine gM_outOf 73 hE f_0 f_3 dX5_reset_70 rfl ?_
                refine v_iload_n 74 hE dX5_reset_73 rfl rfl ?_
                refine v_iconst 75 hE (v := 0) dX5_reset_74 (by decide) rfl ?_
                refine sM_out 76 hE (by omega) dX5_reset_75 rfl ?_
                refine v_aload_n 77 hE dX5_reset_76 rfl rfl ?_
                refine gM_inOf 80 hE f_0 f_4 dX5_reset_77 rfl ?_
                refine v_iload_n 81 hE dX5_reset_80 rfl rfl ?_
                refine v_iconst 82 hE (v := 0) dX5_reset_81 (by decide) rfl ?_
                refine sM_inn 83 hE (by omega) dX5_reset_82 rfl ?_
                refine v_iincN 86 hE [_, _, _, _] dX5_reset_83 rfl (by decide) rfl rfl ?_
                refine v_goto hE 64 dX5_reset_86 (by decide) ?_
                refine vV.sub [1, 2, 3, 0] rfl ?_
                exact ih64 _ _ _ (by omega) (by rw [h4]; exact mixN_s _ _ _) (by rw [h5]; exact mixN_s _ _ _) (by omega)
          exact L64 (5 + 1) 0 (w_out u) (w_inn u) (by omega) (mixN_0 _ _).symm (mixN_0 _ _).symm (by omega)
        · refine v_aload_n 36 hE dX5_reset_35 rfl rfl ?_
          refine gM_demand 39 hE f_0 f_5 dX5_reset_36 rfl ?_
          refine v_iload_n 40 hE dX5_reset_39 rfl rfl ?_
          refine v_iconst 41 hE (v := 0) dX5_reset_40 (by decide) rfl ?_
          refine sM_dem 42 hE (by omega) dX5_reset_41 rfl ?_
          refine v_aload_n 43 hE dX5_reset_42 rfl rfl ?_
          refine gM_isMeasured 46 hE f_0 f_6 dX5_reset_43 rfl ?_
          refine v_iload_n 47 hE dX5_reset_46 rfl rfl ?_
          refine v_iconst 48 hE (v := bI false) dX5_reset_47 (by decide) rfl ?_
          refine sM_ism 49 hE (by omega) dX5_reset_48 rfl ?_
          refine v_aload_n 50 hE dX5_reset_49 rfl rfl ?_
          refine gM_guess 53 hE f_0 f_7 dX5_reset_50 rfl ?_
          refine v_iload_n 54 hE dX5_reset_53 rfl rfl ?_
          refine v_lconst 55 hE (v := 0) dX5_reset_54 (by decide) rfl ?_
          refine sM_gue 56 hE (by omega) dX5_reset_55 rfl ?_
          refine v_iincN 59 hE [_, _, _, _] dX5_reset_56 rfl (by decide) rfl rfl ?_
          refine v_goto hE 29 dX5_reset_59 (by decide) ?_
          refine vV.sub [1, 2, 3, 0] rfl ?_
          exact ih29 _ _ _ _ (by omega) (by rw [h1]; exact mixN_s _ _ _) (by rw [h2]; exact mixN_s _ _ _) (by rw [h3]; exact mixN_s _ _ _) (by omega)
    exact L29 (25 + 1) 0 (w_dem u) (w_ism u) (w_gue u) (by omega) (mixN_0 _ _).symm (mixN_0 _ _).symm (mixN_0 _ _).symm (by omega)
  · refine v_bipush 11 hE (v := -4) dX5_reset_9 (by decide) rfl ?_
    exact (hret _ _ dX5_reset_11).cast (by unfold bReset; rw [show isIn 2 5 k = _ from c6]; rfl) (rI (by unfold bReset; rw [show isIn 2 5 k = _ from c6]; rfl))
set_option maxRecDepth 100000 in
set_option maxHeartbeats 4000000 in
theorem kX5_addLink (l : Launch) (Y : yG) (u : MS) (s t k : Int32) (hok : okM u) : mI l (gM Y) yX5_addLink wsX5_addLink ({ frames := 3, cells := 0, slots := 0, locals := 65 }) [.ref (yA Y 0), .int s, .int t, .int k] u ((bAdd u s t k).1) (bAdd u s t k).2 := by
  obtain ⟨hn2, hn, hm, hsrc, htgt, hmet⟩ := id hok
  refine mI_of (cc := cX5_addLink) (nL := 5) (own := RX5) (by decide) rfl rfl (fun v => cM_geo Y _ v) (Nat.le_of_ble_eq_true rfl) ?_
  intro K hKl hE hret
  have f_0 : ∀ w ∈ u_ws RX5 TX5 20, w ∈ wsX5_addLink := by decide +kernel
  have f_1 : Cond.fieldLink RX5 68 "TrafficMatrixModel" "links" "I" ∈ wsX5_addLink := by decide +kernel
  have f_2 : Cond.fieldLink RX5 7 "TrafficMatrixModel" "sourceOf" "[I" ∈ wsX5_addLink := by decide +kernel
  have f_3 : Cond.fieldLink RX5 13 "TrafficMatrixModel" "targetOf" "[I" ∈ wsX5_addLink := by decide +kernel
  have f_4 : Cond.fieldLink RX5 16 "TrafficMatrixModel" "metricOf" "[I" ∈ wsX5_addLink := by decide +kernel
  have f_5 : Cond.fieldLink RX5 22 "TrafficMatrixModel" "load" "[I" ∈ wsX5_addLink := by decide +kernel
  show vV K (gM Y) u [(0, .ref (yA Y 0)), (1, .int s), (2, .int t), (3, .int k)] [] 0
  refine v_aload_n 1 hE dX5_addLink_0 rfl rfl ?_
  refine v_iload_n 2 hE dX5_addLink_1 rfl rfl ?_
  refine v_iload_n 3 hE dX5_addLink_2 rfl rfl ?_
  refine v_ciE 6 hE (v_runV 2 hE (vSub.self hE) (kX5_refused _ Y _ _ _ hok) gX5_addLink_X5_refused rfl (by decide +kernel) rfl (q0 := 0) rfl rfl ⟨rfl, rfl, by decide, by decide⟩ rfl (Nat.le_of_ble_eq_true rfl) dX5_addLink_3) rfl ?_
  refine v_istore 8 hE [_, _, _, _, _] dX5_addLink_6 (by decide) rfl rfl ?_
  refine v_iload 10 hE dX5_addLink_8 rfl rfl ?_
  refine v_if_eq 13 hE 16 dX5_addLink_10 (by decide) rfl (fun c10 => ?_) (fun c10 => ?_)
  · obtain ⟨a, b, ha, hb, rfl, rfl, hab⟩ := pairE_0 hn c10
    have hsl : slot (nI a) (nI b) = 5 * a + b := by rw [slot_nI (by omega) (by omega)]; omega
    refine v_iload_n 17 hE dX5_addLink_16 rfl rfl ?_
    refine v_iconst 18 hE (v := nI 1) dX5_addLink_17 (by decide) rfl ?_
    refine v_bipush 20 hE (v := nI 99) dX5_addLink_18 (by decide) rfl ?_
    refine v_ciE 23 hE (v_runS 3 hE (vSub.self hE) (kX5_within _ Y _ _ _ _) gX5_addLink_X5_within rfl (by decide +kernel) rfl ⟨rfl, rfl, by decide, by decide⟩ rfl (Nat.le_of_ble_eq_true rfl) dX5_addLink_20) rfl ?_
    refine v_if_neB 26 hE 29 dX5_addLink_23 (by decide) rfl (fun c23 => ?_) (fun c23 => ?_)
    · have c23b : isIn 1 99 k = true := c23
      obtain ⟨j, hj1, hj99, rfl⟩ := isIn_t (by decide) (by decide) c23b
      have hjx := ndx_nI (k := j) (by omega)
      have hax := ndx_nI (k := a) (by omega)
      have hbx := ndx_nI (k := b) (by omega)
      refine v_aload_n 30 hE dX5_addLink_29 rfl rfl ?_
      refine gM_links 33 hE f_0 f_1 dX5_addLink_30 rfl ?_
      refine v_bipush 35 hE (v := nI 12) dX5_addLink_33 (by decide) rfl ?_
      refine v_ic_neN 38 hE 41 dX5_addLink_35 (by decide) (by omega) (by omega) rfl (fun c35 => ?_) (fun c35 => ?_)
      · refine v_aload_n 42 hE dX5_addLink_41 rfl rfl ?_
        refine gM_sourceOf 45 hE f_0 f_2 dX5_addLink_42 rfl ?_
        refine v_aload_n 46 hE dX5_addLink_45 rfl rfl ?_
        refine gM_links 49 hE f_0 f_1 dX5_addLink_46 rfl ?_
        refine v_iload_n 50 hE dX5_addLink_49 rfl rfl ?_
        refine sM_src 51 hE (by omega) dX5_addLink_50 rfl ?_
        refine v_aload_n 52 hE dX5_addLink_51 rfl rfl ?_
        refine gM_targetOf 55 hE f_0 f_3 dX5_addLink_52 rfl ?_
        refine v_aload_n 56 hE dX5_addLink_55 rfl rfl ?_
        refine gM_links 59 hE f_0 f_1 dX5_addLink_56 rfl ?_
        show vV K (gM Y) _ _ (.int (nI (w_m u)) :: _) _
        refine v_iload_n 60 hE dX5_addLink_59 rfl rfl ?_
        refine sM_tgt 61 hE (by omega) dX5_addLink_60 rfl ?_
        refine v_aload_n 62 hE dX5_addLink_61 rfl rfl ?_
        refine gM_metricOf 65 hE f_0 f_4 dX5_addLink_62 rfl ?_
        refine v_aload_n 66 hE dX5_addLink_65 rfl rfl ?_
        refine gM_links 69 hE f_0 f_1 dX5_addLink_66 rfl ?_
        show vV K (gM Y) _ _ (.int (nI (w_m u)) :: _) _
        refine v_iload_n 70 hE dX5_addLink_69 rfl rfl ?_
        refine sM_met 71 hE (by omega) dX5_addLink_70 rfl ?_
        refine v_aload_n 72 hE dX5_addLink_71 rfl rfl ?_
        refine gM_load 75 hE f_0 f_5 dX5_addLink_72 rfl ?_
        refine v_aload_n 76 hE dX5_addLink_75 rfl rfl ?_
        refine gM_links 79 hE f_0 f_1 dX5_addLink_76 rfl ?_
        show vV K (gM Y) _ _ (.int (nI (w_m u)) :: _) _
        refine v_iconst 80 hE (v := 0) dX5_addLink_79 (by decide) rfl ?_
        refine sM_load 81 hE (by omega) dX5_addLink_80 rfl ?_
        refine v_aload_n 82 hE dX5_addLink_81 rfl rfl ?_
        refine v_dup 83 hE dX5_addLink_82 rfl rfl ?_
        refine gM_links 86 hE f_0 f_1 dX5_addLink_83 rfl ?_
        show vV K (gM Y) _ _ (.int (nI (w_m u)) :: _) _
        refine v_iconst 87 hE (v := nI 1) dX5_addLink_86 (by decide) rfl ?_
        refine v_iaddN 88 hE dX5_addLink_87 rfl ?_
        refine pM_links 91 hE f_0 f_1 dX5_addLink_88 rfl ?_
        refine v_aload_n 92 hE dX5_addLink_91 rfl rfl ?_
        refine gM_links 95 hE f_0 f_1 dX5_addLink_92 rfl ?_
        show vV K (gM Y) _ _ (.int (nI (w_m u + 1)) :: _) _
        refine v_iconst 96 hE (v := nI 1) dX5_addLink_95 (by decide) rfl ?_
        refine v_isubN 97 hE dX5_addLink_96 (by omega) rfl ?_
        exact (hret _ _ dX5_addLink_97).cast (by unfold bAdd; rw [if_pos c10, if_pos c23b, if_neg c35, hax, hbx, hjx]) (rI (by unfold bAdd; rw [if_pos c10, if_pos c23b, if_neg c35]; rfl))
      · refine v_bipush 40 hE (v := -5) dX5_addLink_38 (by decide) rfl ?_
        exact (hret _ _ dX5_addLink_40).cast (by unfold bAdd; rw [if_pos c10, if_pos c23b, if_pos c35]) (rI (by unfold bAdd; rw [if_pos c10, if_pos c23b, if_pos c35]))
    · refine v_bipush 28 hE (v := -4) dX5_addLink_26 (by decide) rfl ?_
      exact (hret _ _ dX5_addLink_28).cast (by unfold bAdd; rw [if_pos c10, show isIn 1 99 k = _ from c23]; rfl) (rI (by unfold bAdd; rw [if_pos c10, show isIn 1 99 k = _ from c23]; rfl))
  · refine v_iload 15 hE dX5_addLink_13 rfl rfl ?_
    exact (hret _ _ dX5_addLink_15).cast (by simp [bAdd, c10]) (rI (by simp [bAdd, c10]))
set_option maxRecDepth 100000 in
set_option maxHeartbeats 4000000 in
theorem kX5_setMetric (l : Launch) (Y : yG) (u : MS) (q k : Int32) (hok : okM u) : mI l (gM Y) yX5_setMetric wsX5_setMetric ({ frames := 2, cells := 0, slots := 0, locals := 43 }) [.ref (yA Y 0), .int q, .int k] u ((bSetMet u q k).1) (bSetMet u q k).2 := by
  obtain ⟨hn2, hn, hm, hsrc, htgt, hmet⟩ := id hok
  refine mI_of (cc := cX5_setMetric) (nL := 4) (own := RX5) (by decide) rfl rfl (fun v => cM_geo Y _ v) (Nat.le_of_ble_eq_true rfl) ?_
  intro K hKl hE hret
  have f_0 : ∀ w ∈ u_ws RX5 TX5 20, w ∈ wsX5_setMetric := by decide +kernel
  have f_1 : Cond.fieldLink RX5 16 "TrafficMatrixModel" "metricOf" "[I" ∈ wsX5_setMetric := by decide +kernel
  show vV K (gM Y) u [(0, .ref (yA Y 0)), (1, .int q), (2, .int k)] [] 0
  refine v_aload_n 1 hE dX5_setMetric_0 rfl rfl ?_
  refine v_iload_n 2 hE dX5_setMetric_1 rfl rfl ?_
  refine v_ciE 5 hE (v_runV 1 hE (vSub.self hE) (kX5_isLink _ Y _ _ hok) gX5_setMetric_X5_isLink rfl (by decide +kernel) rfl (q0 := 0) rfl rfl ⟨rfl, rfl, by decide, by decide⟩ rfl (Nat.le_of_ble_eq_true rfl) dX5_setMetric_2) rfl ?_
  refine v_if_neB 8 hE 11 dX5_setMetric_5 (by decide) rfl (fun c5 => ?_) (fun c5 => ?_)
  · refine v_iload_n 12 hE dX5_setMetric_11 rfl rfl ?_
    refine v_iconst 13 hE (v := nI 1) dX5_setMetric_12 (by decide) rfl ?_
    refine v_bipush 15 hE (v := nI 99) dX5_setMetric_13 (by decide) rfl ?_
    refine v_ciE 18 hE (v_runS 3 hE (vSub.self hE) (kX5_within _ Y _ _ _ _) gX5_setMetric_X5_within rfl (by decide +kernel) rfl ⟨rfl, rfl, by decide, by decide⟩ rfl (Nat.le_of_ble_eq_true rfl) dX5_setMetric_15) rfl ?_
    refine v_if_neB 21 hE 24 dX5_setMetric_18 (by decide) rfl (fun c18 => ?_) (fun c18 => ?_)
    · obtain ⟨j, hj, rfl⟩ := inB_t (by omega) c5
      have hjx := ndx_nI (k := j) (by omega)
      have c18b : isIn 1 99 k = true := c18
      obtain ⟨i, hi1, hi99, rfl⟩ := isIn_t (by decide) (by decide) c18b
      have hix := ndx_nI (k := i) (by omega)
      refine v_aload_n 25 hE dX5_setMetric_24 rfl rfl ?_
      refine gM_metricOf 28 hE f_0 f_1 dX5_setMetric_25 rfl ?_
      refine v_iload_n 29 hE dX5_setMetric_28 rfl rfl ?_
      refine lM_met 30 hE (by omega) dX5_setMetric_29 rfl ?_
      refine v_istore_n 31 hE [_, _, _, _] dX5_setMetric_30 rfl (by decide) rfl rfl ?_
      refine v_aload_n 32 hE dX5_setMetric_31 rfl rfl ?_
      refine gM_metricOf 35 hE f_0 f_1 dX5_setMetric_32 rfl ?_
      refine v_iload_n 36 hE dX5_setMetric_35 rfl rfl ?_
      refine v_iload_n 37 hE dX5_setMetric_36 rfl rfl ?_
      refine sM_met 38 hE (by omega) dX5_setMetric_37 rfl ?_
      refine v_iload_n 39 hE dX5_setMetric_38 rfl rfl ?_
      exact (hret _ _ dX5_setMetric_39).cast (by unfold bSetMet; rw [if_pos c5, if_pos c18b, hjx, hix]) (rI (by unfold bSetMet; rw [if_pos c5, if_pos c18b, hjx]))
    · refine v_bipush 23 hE (v := -4) dX5_setMetric_21 (by decide) rfl ?_
      exact (hret _ _ dX5_setMetric_23).cast (by unfold bSetMet; rw [if_pos c5, show isIn 1 99 k = _ from c18]; rfl) (rI (by unfold bSetMet; rw [if_pos c5, show isIn 1 99 k = _ from c18]; rfl))
  · refine v_bipush 10 hE (v := -3) dX5_setMetric_8 (by decide) rfl ?_
    exact (hret _ _ dX5_setMetric_10).cast (by simp [bSetMet, c5]) (rI (by simp [bSetMet, c5]))
set_option maxRecDepth 100000 in
set_option maxHeartbeats 4000000 in
theorem kX5_routeLength (l : Launch) (Y : yG) (u : MS) (s t : Int32) (hok : okM u) : mI l (gM Y) yX5_routeLength wsX5_routeLength ({ frames := 5, cells := 0, slots := 0, locals := 116 }) [.ref (yA Y 0), .int s, .int t] u (bRLen u s t) (bRR u s t).2 := by
  obtain ⟨hn2, hn, hm, hsrc, htgt, hmet⟩ := id hok
  refine mI_of (cc := cX5_routeLength) (nL := 4) (own := RX5) (by decide) rfl rfl (fun v => cM_geo Y _ v) (Nat.le_of_ble_eq_true rfl) ?_
  intro K hKl hE hret
  have f_0 : ∀ w ∈ u_ws RX5 TX5 20, w ∈ wsX5_routeLength := by decide +kernel
  have f_1 : Cond.fieldLink RX5 42 "TrafficMatrixModel" "distance" "[I" ∈ wsX5_routeLength := by decide +kernel
  show vV K (gM Y) u [(0, .ref (yA Y 0)), (1, .int s), (2, .int t)] [] 0
  refine v_aload_n 1 hE dX5_routeLength_0 rfl rfl ?_
  refine v_iload_n 2 hE dX5_routeLength_1 rfl rfl ?_
  refine v_iload_n 3 hE dX5_routeLength_2 rfl rfl ?_
  refine v_ciE 6 hE (v_runV 2 hE (vSub.self hE) (kX5_refusedRoute _ Y _ _ _ hok) gX5_routeLength_X5_refusedRoute rfl (by decide +kernel) rfl (q0 := 0) rfl rfl ⟨rfl, rfl, by decide, by decide⟩ rfl (Nat.le_of_ble_eq_true rfl) dX5_routeLength_3) rfl ?_
  refine v_istore_n 7 hE [_, _, _, _] dX5_routeLength_6 rfl (by decide) rfl rfl ?_
  refine v_iload_n 8 hE dX5_routeLength_7 rfl rfl ?_
  refine v_if_eq 11 hE 15 dX5_routeLength_8 (by decide) rfl (fun c8 => ?_) (fun c8 => ?_)
  · obtain ⟨hpe, hwh, h2⟩ := bRR_0 c8
    rw [h2]
    rw [h2] at hret
    have hdb : ∀ p, p < 25 → wDst u p ≤ 1000000 := rlxR_le (d0_le _) hsrc hn 5
    obtain ⟨a, b, ha, hb, rfl, rfl, hab⟩ := pairE_0 hn hpe
    have hsl : slot (nI a) (nI b) = 5 * a + b := by rw [slot_nI (by omega) (by omega)]; omega
    refine v_aload_n 16 hE dX5_routeLength_15 rfl rfl ?_
    refine gM_distance 19 hE f_0 f_1 dX5_routeLength_16 rfl ?_
    refine v_iconst 20 hE (v := nI 5) dX5_routeLength_19 (by decide) rfl ?_
    refine v_iload_n 21 hE dX5_routeLength_20 rfl rfl ?_
    refine v_imulN 22 hE dX5_routeLength_21 rfl ?_
    refine v_iload_n 23 hE dX5_routeLength_22 rfl rfl ?_
    refine v_iaddN 24 hE dX5_routeLength_23 rfl ?_
    refine lM_dist 25 hE (by omega) dX5_routeLength_24 rfl ?_
    show vV K (gM Y) _ _ (.int (nI ((wDst u) _)) :: _) _
    refine v_bipush 27 hE (v := nI 10) dX5_routeLength_25 (by decide) rfl ?_
    have hdp := hdb (5 * a + b) (by omega)
    refine v_iremN 28 hE dX5_routeLength_27 (by omega) (by omega) (by omega) rfl ?_
    exact (hret _ _ dX5_routeLength_28).cast rfl (rI (by unfold bRLen; first | (rw [if_pos c8, hsl]; done) | (rw [if_neg c8]; done)))
  · refine v_iload_n 12 hE dX5_routeLength_11 rfl rfl ?_
    refine v_goto hE 28 dX5_routeLength_12 (by decide) ?_
    exact (hret _ _ dX5_routeLength_28).cast rfl (rI (by unfold bRLen; first | (rw [if_pos c8, hsl]; done) | (rw [if_neg c8]; done)))
set_option maxRecDepth 100000 in
set_option maxHeartbeats 4000000 in
theorem kX5_routeLink (l : Launch) (Y : yG) (u : MS) (s t k : Int32) (hok : okM u) : mI l (gM Y) yX5_routeLink wsX5_routeLink ({ frames := 5, cells := 0, slots := 0, locals := 116 }) [.ref (yA Y 0), .int s, .int t, .int k] u (bRLink u s t k) (bRR u s t).2 := by
  obtain ⟨hn2, hn, hm, hsrc, htgt, hmet⟩ := id hok
  refine mI_of (cc := cX5_routeLink) (nL := 7) (own := RX5) (by decide) rfl rfl (fun v => cM_geo Y _ v) (Nat.le_of_ble_eq_true rfl) ?_
  intro K hKl hE hret
  have f_0 : ∀ w ∈ u_ws RX5 TX5 20, w ∈ wsX5_routeLink := by decide +kernel
  have f_1 : Cond.fieldLink RX5 42 "TrafficMatrixModel" "distance" "[I" ∈ wsX5_routeLink := by decide +kernel
  have f_2 : Cond.fieldLink RX5 13 "TrafficMatrixModel" "targetOf" "[I" ∈ wsX5_routeLink := by decide +kernel
  show vV K (gM Y) u [(0, .ref (yA Y 0)), (1, .int s), (2, .int t), (3, .int k)] [] 0
  refine v_aload_n 1 hE dX5_routeLink_0 rfl rfl ?_
  refine v_iload_n 2 hE dX5_routeLink_1 rfl rfl ?_
  refine v_iload_n 3 hE dX5_routeLink_2 rfl rfl ?_
  refine v_ciE 6 hE (v_runV 2 hE (vSub.self hE) (kX5_refusedRoute _ Y _ _ _ hok) gX5_routeLink_X5_refusedRoute rfl (by decide +kernel) rfl (q0 := 0) rfl rfl ⟨rfl, rfl, by decide, by decide⟩ rfl (Nat.le_of_ble_eq_true rfl) dX5_routeLink_3) rfl ?_
  refine v_istore 8 hE [_, _, _, _, _] dX5_routeLink_6 (by decide) rfl rfl ?_
  refine v_iload 10 hE dX5_routeLink_8 rfl rfl ?_
  refine v_if_eq 13 hE 16 dX5_routeLink_10 (by decide) rfl (fun c10 => ?_) (fun c10 => ?_)
  · obtain ⟨hpe, hwh, h2⟩ := bRR_0 c10
    rw [h2]
    rw [h2] at hret
    have hdb : ∀ p, p < 25 → wDst u p ≤ 1000000 := rlxR_le (d0_le _) hsrc hn 5
    obtain ⟨a, b, ha, hb, rfl, rfl, hab⟩ := pairE_0 hn hpe
    have hsl : slot (nI a) (nI b) = 5 * a + b := by rw [slot_nI (by omega) (by omega)]; omega
    have hrs : rest (wM (w_met u)) (w_src u) (w_tgt u) (w_m u) b (vw (wDst u) b) := dst_rest (w_dist u) hb hn hsrc htgt
    have hax := ndx_nI (k := a) (by omega)
    have hbx := ndx_nI (k := b) (by omega)
    refine v_iload_n 17 hE dX5_routeLink_16 rfl rfl ?_
    refine v_iconst 18 hE (v := nI 0) dX5_routeLink_17 (by decide) rfl ?_
    refine v_aload_n 19 hE dX5_routeLink_18 rfl rfl ?_
    refine gM_distance 22 hE f_0 f_1 dX5_routeLink_19 rfl ?_
    refine v_iconst 23 hE (v := nI 5) dX5_routeLink_22 (by decide) rfl ?_
    refine v_iload_n 24 hE dX5_routeLink_23 rfl rfl ?_
    refine v_imulN 25 hE dX5_routeLink_24 rfl ?_
    refine v_iload_n 26 hE dX5_routeLink_25 rfl rfl ?_
    refine v_iaddN 27 hE dX5_routeLink_26 rfl ?_
    refine lM_dist 28 hE (by omega) dX5_routeLink_27 rfl ?_
    show vV K (gM Y) _ _ (.int (nI ((wDst u) _)) :: _) _
    refine v_bipush 30 hE (v := nI 10) dX5_routeLink_28 (by decide) rfl ?_
    have hdp := hdb (5 * a + b) (by omega)
    refine v_iremN 31 hE dX5_routeLink_30 (by omega) (by omega) (by omega) rfl ?_
    refine v_iconst 32 hE (v := nI 1) dX5_routeLink_31 (by decide) rfl ?_
    refine v_isub 33 hE dX5_routeLink_32 rfl ?_
    have hwb := wIn_B k (m := wDst u (5 * a + b) % 10) (by omega)
    refine v_ciE 36 hE (v_runS 3 hE (vSub.self hE) (kX5_within _ Y _ _ _ _) gX5_routeLink_X5_within rfl (by decide +kernel) rfl ⟨rfl, rfl, by decide, by decide⟩ rfl (Nat.le_of_ble_eq_true rfl) dX5_routeLink_33) rfl ?_
    refine v_if_neB 39 hE 42 dX5_routeLink_36 (by decide) rfl (fun c36 => ?_) (fun c36 => ?_)
    · have c36b : inB k (wDst u (5 * a + b) % 10) = true := hwb.symm.trans c36
      obtain ⟨j, hj, rfl⟩ := inB_t (by omega) c36b
      have hjx := ndx_nI (k := j) (by omega)
      have hva : vw (wDst u) b a = wDst u (5 * a + b) := vw_at (by omega)
      have hlt : vw (wDst u) b a < 1000000 := Nat.lt_of_le_of_ne (by omega) (fun e => by rw [hva] at e; rw [e] at hj; omega)
      obtain ⟨q0, hq0, hq0m, -, -⟩ := path_ok htgt hrs 0 a (by omega) hlt (by omega)
      refine v_aload_n 43 hE dX5_routeLink_42 rfl rfl ?_
      refine v_iload_n 44 hE dX5_routeLink_43 rfl rfl ?_
      refine v_iload_n 45 hE dX5_routeLink_44 rfl rfl ?_
      refine v_ciE 48 hE (v_runV 2 hE (vSub.self hE) (kX5_nextLink _ Y (wFind u) _ _ q0 hok (by omega) (by omega) hdb hq0) gX5_routeLink_X5_nextLink rfl (by decide +kernel) rfl (q0 := 0) rfl rfl ⟨rfl, rfl, by decide, by decide⟩ rfl (Nat.le_of_ble_eq_true rfl) dX5_routeLink_45) rfl ?_
      refine v_istore 50 hE [_, _, _, _, _, _] dX5_routeLink_48 (by decide) rfl rfl ?_
      refine v_iconst 51 hE (v := nI 0) dX5_routeLink_50 (by decide) rfl ?_
      refine v_istore 53 hE [_, _, _, _, _, _, _] dX5_routeLink_51 (by decide) rfl rfl ?_
      refine vV.sub [3, 4, 5, 6, 1, 0] rfl ?_
      have L53 : ∀ (n53 : Nat) (q : Nat) (i : Nat), (i ≤ j) → (pathL (wNx u b) (w_tgt u) i a = some q) → (q < w_m u) → j + 1 ≤ i + n53 → vV K (gM Y) (wFind u) [(0, .ref (yA Y 0)), (1, .int (nI a)), (2, .int (nI b)), (3, .int (nI j)), (5, .int (nI q)), (6, .int (nI i))] [] 53 := by
        intro n53
        induction n53 with
        | zero => intro q i hi hq hqm hfu53; exact absurd hfu53 (by omega)
        | succ n53 ih53 =>
          intro q i hi hq hqm hfu53
          refine v_iload 55 hE dX5_routeLink_53 rfl rfl ?_
          refine v_iload_n 56 hE dX5_routeLink_55 rfl rfl ?_
          refine v_ic_geN 59 hE 79 dX5_routeLink_56 (by decide) (by omega) (by omega) rfl (fun c56 => ?_) (fun c56 => ?_)
          · refine v_iload 81 hE dX5_routeLink_79 rfl rfl ?_
            exact (hret _ _ dX5_routeLink_81).cast rfl (rI (by unfold bRLink; rw [if_pos c10, hsl, if_pos c36b, hax, hbx, hjx, ← show i = j by omega, hq]; rfl))
          · refine v_aload_n 60 hE dX5_routeLink_59 rfl rfl ?_
            refine v_aload_n 61 hE dX5_routeLink_60 rfl rfl ?_
            refine gM_targetOf 64 hE f_0 f_2 dX5_routeLink_61 rfl ?_
            refine v_iload 66 hE dX5_routeLink_64 rfl rfl ?_
            refine lM_tgt 67 hE (by omega) dX5_routeLink_66 rfl ?_
            show vV K (gM Y) _ _ (.int (nI ((w_tgt u) _)) :: _) _
            obtain ⟨q1, hq1, hq1m, -, -⟩ := path_ok htgt hrs (i + 1) a (by omega) hlt (by omega)
            have hq2 : wNx u b (w_tgt u q) = some q1 := (pathL_s i a q hq).symm.trans hq1
            refine v_iload_n 68 hE dX5_routeLink_67 rfl rfl ?_
            refine v_ciE 71 hE (v_runV 2 hE (vSub.self hE) (kX5_nextLink _ Y (wFind u) _ _ q1 hok (htgt q) (by omega) hdb hq2) gX5_routeLink_X5_nextLink rfl (by decide +kernel) rfl (q0 := 0) rfl rfl ⟨rfl, rfl, by decide, by decide⟩ rfl (Nat.le_of_ble_eq_true rfl) dX5_routeLink_68) rfl ?_
            refine v_istore 73 hE [_, _, _, _, _, _] dX5_routeLink_71 (by decide) rfl rfl ?_
            refine v_iincN 76 hE [_, _, _, _, _, _] dX5_routeLink_73 rfl (by decide) rfl rfl ?_
            refine v_goto hE 53 dX5_routeLink_76 (by decide) ?_
            refine vV.sub [2, 3, 4, 5, 1, 0] rfl ?_
            exact ih53 _ _ (by omega) hq1 hq1m (by omega)
      exact L53 (j + 1) _ _ (by omega) hq0 hq0m (by omega)
    · refine v_bipush 41 hE (v := -4) dX5_routeLink_39 (by decide) rfl ?_
      exact (hret _ _ dX5_routeLink_41).cast rfl (rI (by unfold bRLink; rw [if_pos c10, hsl, show inB k (wDst u (5 * a + b) % 10) = false from hwb.symm.trans c36]; rfl))
  · refine v_iload 15 hE dX5_routeLink_13 rfl rfl ?_
    exact (hret _ _ dX5_routeLink_15).cast rfl (rI (by unfold bRLink; rw [if_neg c10]))
set_option maxRecDepth 100000 in
set_option maxHeartbeats 4000000 in
theorem kX5_pairsOnLink (l : Launch) (Y : yG) (u : MS) (k : Int32) (hok : okM u) : mI l (gM Y) yX5_pairsOnLink wsX5_pairsOnLink ({ frames := 4, cells := 0, slots := 0, locals := 93 }) [.ref (yA Y 0), .int k] u ((bOnL u k).1) (bOnL u k).2 := by
  obtain ⟨hn2, hn, hm, hsrc, htgt, hmet⟩ := id hok
  refine mI_of (cc := cX5_pairsOnLink) (nL := 4) (own := RX5) (by decide) rfl rfl (fun v => cM_geo Y _ v) (Nat.le_of_ble_eq_true rfl) ?_
  intro K hKl hE hret
  show vV K (gM Y) u [(0, .ref (yA Y 0)), (1, .int k)] [] 0
  refine v_aload_n 1 hE dX5_pairsOnLink_0 rfl rfl ?_
  refine v_iload_n 2 hE dX5_pairsOnLink_1 rfl rfl ?_
  refine v_ciE 5 hE (v_runV 1 hE (vSub.self hE) (kX5_isLink _ Y _ _ hok) gX5_pairsOnLink_X5_isLink rfl (by decide +kernel) rfl (q0 := 0) rfl rfl ⟨rfl, rfl, by decide, by decide⟩ rfl (Nat.le_of_ble_eq_true rfl) dX5_pairsOnLink_2) rfl ?_
  refine v_if_neB 8 hE 11 dX5_pairsOnLink_5 (by decide) rfl (fun c5 => ?_) (fun c5 => ?_)
  · obtain ⟨j, hj, rfl⟩ := inB_t (by omega) c5
    have hjx := ndx_nI (k := j) (by omega)
    refine v_aload_n 12 hE dX5_pairsOnLink_11 rfl rfl ?_
    refine v_cvE 15 hE (v_runV 0 hE (vSub.self hE) (kX5_findRoutes _ Y _ hok) gX5_pairsOnLink_X5_findRoutes rfl (by decide +kernel) rfl (q0 := 0) rfl rfl ⟨rfl, rfl, by decide, by decide⟩ rfl (Nat.le_of_ble_eq_true rfl) dX5_pairsOnLink_12) rfl ?_
    refine v_iconst 16 hE (v := nI 0) dX5_pairsOnLink_15 (by decide) rfl ?_
    refine v_istore_n 17 hE [_, _, _] dX5_pairsOnLink_16 rfl (by decide) rfl rfl ?_
    refine v_iconst 18 hE (v := nI 0) dX5_pairsOnLink_17 (by decide) rfl ?_
    refine v_istore_n 19 hE [_, _, _, _] dX5_pairsOnLink_18 rfl (by decide) rfl rfl ?_
    refine vV.sub [2, 3, 1, 0] rfl ?_
    have L19 : ∀ (n19 : Nat) (a : Nat) (i : Nat), (i ≤ 25) → (a = cntN (fun s => wUses (wBit u) s j) i) → 25 + 1 ≤ i + n19 → vV K (gM Y) (wFind u) [(0, .ref (yA Y 0)), (1, .int (nI j)), (2, .int (nI a)), (3, .int (nI i))] [] 19 := by
      intro n19
      induction n19 with
      | zero => intro a i hi ha hfu19; exact absurd hfu19 (by omega)
      | succ n19 ih19 =>
        intro a i hi ha hfu19
        refine v_iload_n 20 hE dX5_pairsOnLink_19 rfl rfl ?_
        refine v_bipush 22 hE (v := nI 25) dX5_pairsOnLink_20 (by decide) rfl ?_
        refine v_ic_geN 25 hE 48 dX5_pairsOnLink_22 (by decide) (by omega) (by omega) rfl (fun c22 => ?_) (fun c22 => ?_)
        · refine v_iload_n 49 hE dX5_pairsOnLink_48 rfl rfl ?_
          exact (hret _ _ dX5_pairsOnLink_49).cast (by unfold bOnL; rw [if_pos c5]) (rI (by unfold bOnL; rw [if_pos c5, hjx, ha, show i = 25 by omega]))
        · refine v_iload_n 26 hE dX5_pairsOnLink_25 rfl rfl ?_
          refine v_aload_n 27 hE dX5_pairsOnLink_26 rfl rfl ?_
          refine v_iload_n 28 hE dX5_pairsOnLink_27 rfl rfl ?_
          refine v_iload_n 29 hE dX5_pairsOnLink_28 rfl rfl ?_
          refine v_ciE 32 hE (v_runV 2 hE (vSub.self hE) (kX5_uses _ Y (wFind u) _ _ (by omega) (by omega) (wBit_lt hok (by omega))) gX5_pairsOnLink_X5_uses rfl (by decide +kernel) rfl (q0 := 0) rfl rfl ⟨rfl, rfl, by decide, by decide⟩ rfl (Nat.le_of_ble_eq_true rfl) dX5_pairsOnLink_29) rfl ?_
          show vV K (gM Y) _ _ (.int (bI (wUses (wBit u) _ _)) :: _) _
          refine v_if_eqB 35 hE 39 dX5_pairsOnLink_32 (by decide) rfl (fun c32 => ?_) (fun c32 => ?_)
          · refine v_iconst 40 hE (v := nI 0) dX5_pairsOnLink_39 (by decide) rfl ?_
            refine v_iaddN 41 hE dX5_pairsOnLink_40 rfl ?_
            refine v_istore_n 42 hE [_, _, _, _] dX5_pairsOnLink_41 rfl (by decide) rfl rfl ?_
            refine v_iincN 45 hE [_, _, _, _] dX5_pairsOnLink_42 rfl (by decide) rfl rfl ?_
            refine v_goto hE 19 dX5_pairsOnLink_45 (by decide) ?_
            refine vV.sub [2, 3, 1, 0] rfl ?_
            exact ih19 _ _ (by omega) (by simp [cntN, ha, c32]) (by omega)
          · refine v_iconst 36 hE (v := nI 1) dX5_pairsOnLink_35 (by decide) rfl ?_
            refine v_goto hE 40 dX5_pairsOnLink_36 (by decide) ?_
            refine v_iaddN 41 hE dX5_pairsOnLink_40 rfl ?_
            refine v_istore_n 42 hE [_, _, _, _] dX5_pairsOnLink_41 rfl (by decide) rfl rfl ?_
            refine v_iincN 45 hE [_, _, _, _] dX5_pairsOnLink_42 rfl (by decide) rfl rfl ?_
            refine v_goto hE 19 dX5_pairsOnLink_45 (by decide) ?_
            refine vV.sub [2, 3, 1, 0] rfl ?_
            exact ih19 _ _ (by omega) (by simp [cntN, ha, c32]) (by omega)
    exact L19 (25 + 1) _ _ (by omega) rfl (by omega)
  · refine v_bipush 10 hE (v := -3) dX5_pairsOnLink_8 (by decide) rfl ?_
    exact (hret _ _ dX5_pairsOnLink_10).cast (by simp [bOnL, c5]) (rI (by simp [bOnL, c5]))
set_option maxRecDepth 100000 in
set_option maxHeartbeats 4000000 in
theorem kX5_setDemand (l : Launch) (Y : yG) (u : MS) (s t v : Int32) (hok : okM u) : mI l (gM Y) yX5_setDemand wsX5_setDemand ({ frames := 3, cells := 0, slots := 0, locals := 65 }) [.ref (yA Y 0), .int s, .int t, .int v] u ((bSetDem u s t v).1) (bSetDem u s t v).2 := by
  obtain ⟨hn2, hn, hm, hsrc, htgt, hmet⟩ := id hok
  refine mI_of (cc := cX5_setDemand) (nL := 6) (own := RX5) (by decide) rfl rfl (fun v => cM_geo Y _ v) (Nat.le_of_ble_eq_true rfl) ?_
  intro K hKl hE hret
  have f_0 : ∀ w ∈ u_ws RX5 TX5 20, w ∈ wsX5_setDemand := by decide +kernel
  have f_1 : Cond.fieldLink RX5 19 "TrafficMatrixModel" "demand" "[I" ∈ wsX5_setDemand := by decide +kernel
  show vV K (gM Y) u [(0, .ref (yA Y 0)), (1, .int s), (2, .int t), (3, .int v)] [] 0
  refine v_aload_n 1 hE dX5_setDemand_0 rfl rfl ?_
  refine v_iload_n 2 hE dX5_setDemand_1 rfl rfl ?_
  refine v_iload_n 3 hE dX5_setDemand_2 rfl rfl ?_
  refine v_ciE 6 hE (v_runV 2 hE (vSub.self hE) (kX5_refused _ Y _ _ _ hok) gX5_setDemand_X5_refused rfl (by decide +kernel) rfl (q0 := 0) rfl rfl ⟨rfl, rfl, by decide, by decide⟩ rfl (Nat.le_of_ble_eq_true rfl) dX5_setDemand_3) rfl ?_
  refine v_istore 8 hE [_, _, _, _, _] dX5_setDemand_6 (by decide) rfl rfl ?_
  refine v_iload 10 hE dX5_setDemand_8 rfl rfl ?_
  refine v_if_eq 13 hE 16 dX5_setDemand_10 (by decide) rfl (fun c10 => ?_) (fun c10 => ?_)
  · refine v_iload_n 17 hE dX5_setDemand_16 rfl rfl ?_
    refine v_iconst 18 hE (v := nI 0) dX5_setDemand_17 (by decide) rfl ?_
    refine v_sipush 21 hE (v := nI 9999) dX5_setDemand_18 (by decide) rfl ?_
    refine v_ciE 24 hE (v_runS 3 hE (vSub.self hE) (kX5_within _ Y _ _ _ _) gX5_setDemand_X5_within rfl (by decide +kernel) rfl ⟨rfl, rfl, by decide, by decide⟩ rfl (Nat.le_of_ble_eq_true rfl) dX5_setDemand_21) rfl ?_
    refine v_if_neB 27 hE 30 dX5_setDemand_24 (by decide) rfl (fun c24 => ?_) (fun c24 => ?_)
    · obtain ⟨a, b, ha, hb, rfl, rfl, hab⟩ := pairE_0 hn c10
      have hsl : slot (nI a) (nI b) = 5 * a + b := by rw [slot_nI (by omega) (by omega)]; omega
      refine v_aload_n 31 hE dX5_setDemand_30 rfl rfl ?_
      refine gM_demand 34 hE f_0 f_1 dX5_setDemand_31 rfl ?_
      refine v_iconst 35 hE (v := nI 5) dX5_setDemand_34 (by decide) rfl ?_
      refine v_iload_n 36 hE dX5_setDemand_35 rfl rfl ?_
      refine v_imulN 37 hE dX5_setDemand_36 rfl ?_
      refine v_iload_n 38 hE dX5_setDemand_37 rfl rfl ?_
      refine v_iaddN 39 hE dX5_setDemand_38 rfl ?_
      refine lM_dem 40 hE (by omega) dX5_setDemand_39 rfl ?_
      refine v_istore 42 hE [_, _, _, _, _, _] dX5_setDemand_40 (by decide) rfl rfl ?_
      refine v_aload_n 43 hE dX5_setDemand_42 rfl rfl ?_
      refine gM_demand 46 hE f_0 f_1 dX5_setDemand_43 rfl ?_
      refine v_iconst 47 hE (v := nI 5) dX5_setDemand_46 (by decide) rfl ?_
      refine v_iload_n 48 hE dX5_setDemand_47 rfl rfl ?_
      refine v_imulN 49 hE dX5_setDemand_48 rfl ?_
      refine v_iload_n 50 hE dX5_setDemand_49 rfl rfl ?_
      refine v_iaddN 51 hE dX5_setDemand_50 rfl ?_
      refine v_iload_n 52 hE dX5_setDemand_51 rfl rfl ?_
      refine sM_dem 53 hE (by omega) dX5_setDemand_52 rfl ?_
      refine v_iload 55 hE dX5_setDemand_53 rfl rfl ?_
      exact (hret _ _ dX5_setDemand_55).cast (by unfold bSetDem; rw [if_pos c10, hsl, show isIn 0 9999 v = _ from c24]; rfl) (rI (by unfold bSetDem; rw [if_pos c10, hsl, show isIn 0 9999 v = _ from c24]; rfl))
    · refine v_bipush 29 hE (v := -4) dX5_setDemand_27 (by decide) rfl ?_
      exact (hret _ _ dX5_setDemand_29).cast (by unfold bSetDem; rw [if_pos c10, show isIn 0 9999 v = _ from c24]; rfl) (rI (by unfold bSetDem; rw [if_pos c10, show isIn 0 9999 v = _ from c24]; rfl))
  · refine v_iload 15 hE dX5_setDemand_13 rfl rfl ?_
    exact (hret _ _ dX5_setDemand_15).cast (by simp [bSetDem, c10]) (rI (by simp [bSetDem, c10]))
set_option maxRecDepth 100000 in
set_option maxHeartbeats 4000000 in
theorem kX5_carried (l : Launch) (Y : yG) (u : MS) (k : Nat) (hk : k < 12) (hb : ∀ s, s < 25 → w_bits u s < 4096) : mI l (gM Y) yX5_carried wsX5_carried ({ frames := 1, cells := 0, slots := 0, locals := 22 }) [.ref (yA Y 0), .int (nI k)] u (ldOf (wUses (w_bits u)) (w_dem u) k) u := by
  refine mI_of (cc := cX5_carried) (nL := 4) (own := RX5) (by decide) rfl rfl (fun v => cM_geo Y _ v) (Nat.le_of_ble_eq_true rfl) ?_
  intro K hKl hE hret
  have f_0 : ∀ w ∈ u_ws RX5 TX5 20, w ∈ wsX5_carried := by decide +kernel
  have f_1 : Cond.fieldLink RX5 19 "TrafficMatrixModel" "demand" "[I" ∈ wsX5_carried := by decide +kernel
  show vV K (gM Y) u [(0, .ref (yA Y 0)), (1, .int (nI k))] [] 0
  refine v_iconst 1 hE (v := 0) dX5_carried_0 (by decide) rfl ?_
  refine v_istore_n 2 hE [_, _, _] dX5_carried_1 rfl (by decide) rfl rfl ?_
  refine v_iconst 3 hE (v := nI 0) dX5_carried_2 (by decide) rfl ?_
  refine v_istore_n 4 hE [_, _, _, _] dX5_carried_3 rfl (by decide) rfl rfl ?_
  refine vV.sub [2, 3, 1, 0] rfl ?_
  have L4 : ∀ (n4 : Nat) (a : Int32) (i : Nat), (i ≤ 25) → (a = sumI (fun s => if wUses (w_bits u) s k then w_dem u s else 0) i) → 25 + 1 ≤ i + n4 → vV K (gM Y) u [(0, .ref (yA Y 0)), (1, .int (nI k)), (2, .int a), (3, .int (nI i))] [] 4 := by
    intro n4
    induction n4 with
    | zero => intro a i hi ha hfu4; exact absurd hfu4 (by omega)
    | succ n4 ih4 =>
      intro a i hi ha hfu4
      refine v_iload_n 5 hE dX5_carried_4 rfl rfl ?_
      refine v_bipush 7 hE (v := nI 25) dX5_carried_5 (by decide) rfl ?_
      refine v_ic_geN 10 hE 38 dX5_carried_7 (by decide) (by omega) (by omega) rfl (fun c7 => ?_) (fun c7 => ?_)
      · refine v_iload_n 39 hE dX5_carried_38 rfl rfl ?_
        exact (hret _ _ dX5_carried_39).cast rfl (rI (by rw [ha, show i = 25 by omega]; rfl))
      · refine v_iload_n 11 hE dX5_carried_10 rfl rfl ?_
        refine v_aload_n 12 hE dX5_carried_11 rfl rfl ?_
        refine v_iload_n 13 hE dX5_carried_12 rfl rfl ?_
        refine v_iload_n 14 hE dX5_carried_13 rfl rfl ?_
        refine v_ciE 17 hE (v_runV 2 hE (vSub.self hE) (kX5_uses _ Y _ _ _ (by omega) (by omega) (hb _ (by omega))) gX5_carried_X5_uses rfl (by decide +kernel) rfl (q0 := 0) rfl rfl ⟨rfl, rfl, by decide, by decide⟩ rfl (Nat.le_of_ble_eq_true rfl) dX5_carried_14) rfl ?_
        refine v_if_eqB 20 hE 29 dX5_carried_17 (by decide) rfl (fun c17 => ?_) (fun c17 => ?_)
        · refine v_iconst 30 hE (v := 0) dX5_carried_29 (by decide) rfl ?_
          refine v_iadd 31 hE dX5_carried_30 rfl ?_
          refine v_istore_n 32 hE [_, _, _, _] dX5_carried_31 rfl (by decide) rfl rfl ?_
          refine v_iincN 35 hE [_, _, _, _] dX5_carried_32 rfl (by decide) rfl rfl ?_
          refine v_goto hE 4 dX5_carried_35 (by decide) ?_
          refine vV.sub [2, 3, 1, 0] rfl ?_
          exact ih4 _ _ (by omega) (by simp [sumI, ha, c17]) (by omega)
        · refine v_aload_n 21 hE dX5_carried_20 rfl rfl ?_
          refine gM_demand 24 hE f_0 f_1 dX5_carried_21 rfl ?_
          refine v_iload_n 25 hE dX5_carried_24 rfl rfl ?_
          refine lM_dem 26 hE (by omega) dX5_carried_25 rfl ?_
          refine v_goto hE 30 dX5_carried_26 (by decide) ?_
          refine v_iadd 31 hE dX5_carried_30 rfl ?_
          refine v_istore_n 32 hE [_, _, _, _] dX5_carried_31 rfl (by decide) rfl rfl ?_
          refine v_iincN 35 hE [_, _, _, _] dX5_carried_32 rfl (by decide) rfl rfl ?_
          refine v_goto hE 4 dX5_carried_35 (by decide) ?_
          refine vV.sub [2, 3, 1, 0] rfl ?_
          exact ih4 _ _ (by omega) (by simp [sumI, ha, c17]) (by omega)
  exact L4 (25 + 1) _ _ (by omega) rfl (by omega)
set_option maxRecDepth 100000 in
set_option maxHeartbeats 4000000 in
theorem kX5_carriedLoad (l : Launch) (Y : yG) (u : MS) (k : Int32) (hok : okM u) : mI l (gM Y) yX5_carriedLoad wsX5_carriedLoad ({ frames := 4, cells := 0, slots := 0, locals := 93 }) [.ref (yA Y 0), .int k] u ((bCarr u k).1) (bCarr u k).2 := by
  obtain ⟨hn2, hn, hm, hsrc, htgt, hmet⟩ := id hok
  refine mI_of (cc := cX5_carriedLoad) (nL := 2) (own := RX5) (by decide) rfl rfl (fun v => cM_geo Y _ v) (Nat.le_of_ble_eq_true rfl) ?_
  intro K hKl hE hret
  show vV K (gM Y) u [(0, .ref (yA Y 0)), (1, .int k)] [] 0
  refine v_aload_n 1 hE dX5_carriedLoad_0 rfl rfl ?_
  refine v_iload_n 2 hE dX5_carriedLoad_1 rfl rfl ?_
  refine v_ciE 5 hE (v_runV 1 hE (vSub.self hE) (kX5_isLink _ Y _ _ hok) gX5_carriedLoad_X5_isLink rfl (by decide +kernel) rfl (q0 := 0) rfl rfl ⟨rfl, rfl, by decide, by decide⟩ rfl (Nat.le_of_ble_eq_true rfl) dX5_carriedLoad_2) rfl ?_
  refine v_if_neB 8 hE 11 dX5_carriedLoad_5 (by decide) rfl (fun c5 => ?_) (fun c5 => ?_)
  · obtain ⟨j, hj, rfl⟩ := inB_t (by omega) c5
    have hjx := ndx_nI (k := j) (by omega)
    refine v_aload_n 12 hE dX5_carriedLoad_11 rfl rfl ?_
    refine v_cvE 15 hE (v_runV 0 hE (vSub.self hE) (kX5_findRoutes _ Y _ hok) gX5_carriedLoad_X5_findRoutes rfl (by decide +kernel) rfl (q0 := 0) rfl rfl ⟨rfl, rfl, by decide, by decide⟩ rfl (Nat.le_of_ble_eq_true rfl) dX5_carriedLoad_12) rfl ?_
    refine v_aload_n 16 hE dX5_carriedLoad_15 rfl rfl ?_
    refine v_iload_n 17 hE dX5_carriedLoad_16 rfl rfl ?_
    refine v_ciE 20 hE (v_runV 1 hE (vSub.self hE) (kX5_carried _ Y (wFind u) _ (by omega) (fun s hs => wBit_lt hok hs)) gX5_carriedLoad_X5_carried rfl (by decide +kernel) rfl (q0 := 0) rfl rfl ⟨rfl, rfl, by decide, by decide⟩ rfl (Nat.le_of_ble_eq_true rfl) dX5_carriedLoad_17) rfl ?_
    exact (hret _ _ dX5_carriedLoad_20).cast (by unfold bCarr; rw [if_pos c5]) (rI (by unfold bCarr; rw [if_pos c5, hjx]))
  · refine v_bipush 10 hE (v := -3) dX5_carriedLoad_8 (by decide) rfl ?_
    exact (hret _ _ dX5_carriedLoad_10).cast (by simp [bCarr, c5]) (rI (by simp [bCarr, c5]))
set_option maxRecDepth 100000 in
set_option maxHeartbeats 4000000 in
theorem kX5_measure (l : Launch) (Y : yG) (u : MS)  (hok : okM u) : mI l (gM Y) yX5_measure wsX5_measure ({ frames := 4, cells := 0, slots := 0, locals := 93 }) [.ref (yA Y 0)] u (sumI (fun s => if (wHas (wBit u)) s then w_dem u s else 0) 25) (wMeas u) := by
  obtain ⟨hn2, hn, hm, hsrc, htgt, hmet⟩ := id hok
  refine mI_of (cc := cX5_measure) (nL := 3) (own := RX5) (by decide) rfl rfl (fun v => cM_geo Y _ v) (Nat.le_of_ble_eq_true rfl) ?_
  intro K hKl hE hret
  have f_0 : ∀ w ∈ u_ws RX5 TX5 20, w ∈ wsX5_measure := by decide +kernel
  have f_1 : Cond.fieldLink RX5 68 "TrafficMatrixModel" "links" "I" ∈ wsX5_measure := by decide +kernel
  have f_2 : Cond.fieldLink RX5 22 "TrafficMatrixModel" "load" "[I" ∈ wsX5_measure := by decide +kernel
  have f_3 : Cond.fieldLink RX5 25 "TrafficMatrixModel" "outOf" "[I" ∈ wsX5_measure := by decide +kernel
  have f_4 : Cond.fieldLink RX5 19 "TrafficMatrixModel" "demand" "[I" ∈ wsX5_measure := by decide +kernel
  have f_5 : Cond.fieldLink RX5 28 "TrafficMatrixModel" "inOf" "[I" ∈ wsX5_measure := by decide +kernel
  show vV K (gM Y) u [(0, .ref (yA Y 0))] [] 0
  refine v_aload_n 1 hE dX5_measure_0 rfl rfl ?_
  refine v_cvE 4 hE (v_runV 0 hE (vSub.self hE) (kX5_findRoutes _ Y _ hok) gX5_measure_X5_findRoutes rfl (by decide +kernel) rfl (q0 := 0) rfl rfl ⟨rfl, rfl, by decide, by decide⟩ rfl (Nat.le_of_ble_eq_true rfl) dX5_measure_1) rfl ?_
  refine v_iconst 5 hE (v := 0) dX5_measure_4 (by decide) rfl ?_
  refine v_istore_n 6 hE [_, _] dX5_measure_5 rfl (by decide) rfl rfl ?_
  refine v_iconst 7 hE (v := nI 0) dX5_measure_6 (by decide) rfl ?_
  refine v_istore_n 8 hE [_, _, _] dX5_measure_7 rfl (by decide) rfl rfl ?_
  refine vV.sub [2, 1, 0] rfl ?_
  have L8 : ∀ (n8 : Nat) (v : Nat) (f4 : Nat → Int32) (f5 : Nat → Int32), (v ≤ 5) → (f4 = mixN (w_out u) (fun _ => 0) v) → (f5 = mixN (w_inn u) (fun _ => 0) v) → 5 + 1 ≤ v + n8 → vV K (gM Y) (ws_inn (ws_out (wFind u) f4) f5) [(0, .ref (yA Y 0)), (1, .int 0), (2, .int (nI v))] [] 8 := by
    intro n8
    induction n8 with
    | zero => intro v f4 f5 hv h4 h5 hfu8; exact absurd hfu8 (by omega)
    | succ n8 ih8 =>
      intro v f4 f5 hv h4 h5 hfu8
      refine v_iload_n 9 hE dX5_measure_8 rfl rfl ?_
      refine v_iconst 10 hE (v := nI 5) dX5_measure_9 (by decide) rfl ?_
      refine v_ic_geN 13 hE 33 dX5_measure_10 (by decide) (by omega) (by omega) rfl (fun c10 => ?_) (fun c10 => ?_)
      · refine v_iconst 34 hE (v := nI 0) dX5_measure_33 (by decide) rfl ?_
        refine v_istore_n 35 hE [_, _, _] dX5_measure_34 rfl (by decide) rfl rfl ?_
        refine vV.sub [1, 2, 0] rfl ?_
        have L35 : ∀ (n35 : Nat) (a : Int32) (i : Nat) (o : Nat → Int32) (p : Nat → Int32), (i ≤ 25) → (a = sumI (fun s => if (wHas (wBit u)) s then w_dem u s else 0) i) → (o = accO (wHas (wBit u)) (w_dem u) f4 i) → (p = accI (wHas (wBit u)) (w_dem u) f5 i) → 25 + 1 ≤ i + n35 → vV K (gM Y) (ws_inn (ws_out (wFind u) o) p) [(0, .ref (yA Y 0)), (1, .int a), (2, .int (nI i))] [] 35 := by
          intro n35
          induction n35 with
          | zero => intro a i o p hi ha ho hp hfu35; exact absurd hfu35 (by omega)
          | succ n35 ih35 =>
            intro a i o p hi ha ho hp hfu35
            refine v_iload_n 36 hE dX5_measure_35 rfl rfl ?_
            refine v_bipush 38 hE (v := nI 25) dX5_measure_36 (by decide) rfl ?_
            refine v_ic_geN 41 hE 98 dX5_measure_38 (by decide) (by omega) (by omega) rfl (fun c38 => ?_) (fun c38 => ?_)
            · refine v_iconst 99 hE (v := nI 0) dX5_measure_98 (by decide) rfl ?_
              refine v_istore_n 100 hE [_, _, _] dX5_measure_99 rfl (by decide) rfl rfl ?_
              refine vV.sub [1, 2, 0] rfl ?_
              have L100 : ∀ (n100 : Nat) (k : Nat) (g : Nat → Int32), (k ≤ w_m u) → (g = mixN (w_load u) (ldOf (wUses (wBit u)) (w_dem u)) k) → w_m u + 1 ≤ k + n100 → vV K (gM Y) (ws_load (ws_inn (ws_out (wFind u) o) p) g) [(0, .ref (yA Y 0)), (1, .int a), (2, .int (nI k))] [] 100 := by
                intro n100
                induction n100 with
                | zero => intro k g hk hg hfu100; exact absurd hfu100 (by omega)
                | succ n100 ih100 =>
                  intro k g hk hg hfu100
                  refine v_iload_n 101 hE dX5_measure_100 rfl rfl ?_
                  refine v_aload_n 102 hE dX5_measure_101 rfl rfl ?_
                  refine gM_links 105 hE f_0 f_1 dX5_measure_102 rfl ?_
                  show vV K (gM Y) _ _ (.int (nI (w_m u)) :: _) _
                  refine v_ic_geN 108 hE 125 dX5_measure_105 (by decide) (by omega) (by omega) rfl (fun c105 => ?_) (fun c105 => ?_)
                  · refine v_iload_n 126 hE dX5_measure_125 rfl rfl ?_
                    exact (hret _ _ dX5_measure_126).cast (by rw [hg, ho, hp, h4, h5, show k = w_m u by omega, show i = 25 by omega, show v = 5 by omega]) (rI (by rw [ha, show i = 25 by omega]))
                  · refine v_aload_n 109 hE dX5_measure_108 rfl rfl ?_
                    refine gM_load 112 hE f_0 f_2 dX5_measure_109 rfl ?_
                    refine v_iload_n 113 hE dX5_measure_112 rfl rfl ?_
                    refine v_aload_n 114 hE dX5_measure_113 rfl rfl ?_
                    refine v_iload_n 115 hE dX5_measure_114 rfl rfl ?_
                    refine v_ciE 118 hE (v_runV 1 hE (vSub.self hE) (kX5_carried _ Y (ws_load (ws_inn (ws_out (wFind u) o) p) g) _ (by omega) (fun s hs => wBit_lt hok hs)) gX5_measure_X5_carried rfl (by decide +kernel) rfl (q0 := 0) rfl rfl ⟨rfl, rfl, by decide, by decide⟩ rfl (Nat.le_of_ble_eq_true rfl) dX5_measure_115) rfl ?_
                    show vV K (gM Y) _ _ (.int (ldOf (wUses (wBit u)) (w_dem u) _) :: _) _
                    refine sM_load 119 hE (by omega) dX5_measure_118 rfl ?_
                    refine v_iincN 122 hE [_, _, _] dX5_measure_119 rfl (by decide) rfl rfl ?_
                    refine v_goto hE 100 dX5_measure_122 (by decide) ?_
                    refine vV.sub [1, 2, 0] rfl ?_
                    exact ih100 _ _ (by omega) (by rw [hg]; exact mixN_s _ _ _) (by omega)
              exact L100 (w_m u + 1) 0 (w_load u) (by omega) (mixN_0 _ _).symm (by omega)
            · refine v_aload_n 42 hE dX5_measure_41 rfl rfl ?_
              refine v_iload_n 43 hE dX5_measure_42 rfl rfl ?_
              refine v_ciE 46 hE (v_runV 1 hE (vSub.self hE) (kX5_hasRoute _ Y (ws_inn (ws_out (wFind u) o) p) _ (by omega) (wBit_lt hok (by omega))) gX5_measure_X5_hasRoute rfl (by decide +kernel) rfl (q0 := 0) rfl rfl ⟨rfl, rfl, by decide, by decide⟩ rfl (Nat.le_of_ble_eq_true rfl) dX5_measure_43) rfl ?_
              show vV K (gM Y) _ _ (.int (bI (wHas (wBit u) _)) :: _) _
              refine v_if_eqB 49 hE 92 dX5_measure_46 (by decide) rfl (fun c46 => ?_) (fun c46 => ?_)
              · refine v_iincN 95 hE [_, _, _] dX5_measure_92 rfl (by decide) rfl rfl ?_
                refine v_goto hE 35 dX5_measure_95 (by decide) ?_
                refine vV.sub [1, 2, 0] rfl ?_
                exact ih35 _ _ _ _ (by omega) (by simp [sumI, ha, c46]) (by rw [ho]; simp only [accO, c46]; rfl) (by rw [hp]; simp only [accI, c46]; rfl) (by omega)
              · refine v_aload_n 50 hE dX5_measure_49 rfl rfl ?_
                refine gM_outOf 53 hE f_0 f_3 dX5_measure_50 rfl ?_
                refine v_iload_n 54 hE dX5_measure_53 rfl rfl ?_
                refine v_iconst 55 hE (v := nI 5) dX5_measure_54 (by decide) rfl ?_
                refine v_idivN 56 hE dX5_measure_55 (by omega) (by omega) (by omega) rfl ?_
                refine v_dup2 57 hE dX5_measure_56 rfl rfl rfl ?_
                refine lM_out 58 hE (by omega) dX5_measure_57 rfl ?_
                show vV K (gM Y) _ _ (.int ((o) _) :: _) _
                refine v_aload_n 59 hE dX5_measure_58 rfl rfl ?_
                refine gM_demand 62 hE f_0 f_4 dX5_measure_59 rfl ?_
                refine v_iload_n 63 hE dX5_measure_62 rfl rfl ?_
                refine lM_dem 64 hE (by omega) dX5_measure_63 rfl ?_
                show vV K (gM Y) _ _ (.int ((w_dem u) _) :: _) _
                refine v_iadd 65 hE dX5_measure_64 rfl ?_
                refine sM_out 66 hE (by omega) dX5_measure_65 rfl ?_
                refine v_aload_n 67 hE dX5_measure_66 rfl rfl ?_
                refine gM_inOf 70 hE f_0 f_5 dX5_measure_67 rfl ?_
                refine v_iload_n 71 hE dX5_measure_70 rfl rfl ?_
                refine v_iconst 72 hE (v := nI 5) dX5_measure_71 (by decide) rfl ?_
                refine v_iremN 73 hE dX5_measure_72 (by omega) (by omega) (by omega) rfl ?_
                refine v_dup2 74 hE dX5_measure_73 rfl rfl rfl ?_
                refine lM_inn 75 hE (by omega) dX5_measure_74 rfl ?_
                show vV K (gM Y) _ _ (.int ((p) _) :: _) _
                refine v_aload_n 76 hE dX5_measure_75 rfl rfl ?_
                refine gM_demand 79 hE f_0 f_4 dX5_measure_76 rfl ?_
                refine v_iload_n 80 hE dX5_measure_79 rfl rfl ?_
                refine lM_dem 81 hE (by omega) dX5_measure_80 rfl ?_
                show vV K (gM Y) _ _ (.int ((w_dem u) _) :: _) _
                refine v_iadd 82 hE dX5_measure_81 rfl ?_
                refine sM_inn 83 hE (by omega) dX5_measure_82 rfl ?_
                refine v_iload_n 84 hE dX5_measure_83 rfl rfl ?_
                refine v_aload_n 85 hE dX5_measure_84 rfl rfl ?_
                refine gM_demand 88 hE f_0 f_4 dX5_measure_85 rfl ?_
                refine v_iload_n 89 hE dX5_measure_88 rfl rfl ?_
                refine lM_dem 90 hE (by omega) dX5_measure_89 rfl ?_
                show vV K (gM Y) _ _ (.int ((w_dem u) _) :: _) _
                refine v_iadd 91 hE dX5_measure_90 rfl ?_
                refine v_istore_n 92 hE [_, _, _] dX5_measure_91 rfl (by decide) rfl rfl ?_
                refine v_iincN 95 hE [_, _, _] dX5_measure_92 rfl (by decide) rfl rfl ?_
                refine v_goto hE 35 dX5_measure_95 (by decide) ?_
                refine vV.sub [2, 1, 0] rfl ?_
                exact ih35 _ _ _ _ (by omega) (by simp [sumI, ha, c46]) (by rw [ho]; simp only [accO, c46]; rfl) (by rw [hp]; simp only [accI, c46]; rfl) (by omega)
        exact L35 (25 + 1) _ 0 f4 f5 (by omega) rfl rfl rfl (by omega)
      · refine v_aload_n 14 hE dX5_measure_13 rfl rfl ?_
        refine gM_outOf 17 hE f_0 f_3 dX5_measure_14 rfl ?_
        refine v_iload_n 18 hE dX5_measure_17 rfl rfl ?_
        refine v_iconst 19 hE (v := 0) dX5_measure_18 (by decide) rfl ?_
        refine sM_out 20 hE (by omega) dX5_measure_19 rfl ?_
        refine v_aload_n 21 hE dX5_measure_20 rfl rfl ?_
        refine gM_inOf 24 hE f_0 f_5 dX5_measure_21 rfl ?_
        refine v_iload_n 25 hE dX5_measure_24 rfl rfl ?_
        refine v_iconst 26 hE (v := 0) dX5_measure_25 (by decide) rfl ?_
        refine sM_inn 27 hE (by omega) dX5_measure_26 rfl ?_
        refine v_iincN 30 hE [_, _, _] dX5_measure_27 rfl (by decide) rfl rfl ?_
        refine v_goto hE 8 dX5_measure_30 (by decide) ?_
        refine vV.sub [1, 2, 0] rfl ?_
        exact ih8 _ _ _ (by omega) (by rw [h4]; exact mixN_s _ _ _) (by rw [h5]; exact mixN_s _ _ _) (by omega)
  exact L8 (5 + 1) 0 (w_out u) (w_inn u) (by omega) (mixN_0 _ _).symm (mixN_0 _ _).symm (by omega)
set_option maxRecDepth 100000 in
set_option maxHeartbeats 4000000 in
theorem kX5_setMeasuredLoad (l : Launch) (Y : yG) (u : MS) (k v : Int32) (hok : okM u) : mI l (gM Y) yX5_setMeasuredLoad wsX5_setMeasuredLoad ({ frames := 2, cells := 0, slots := 0, locals := 43 }) [.ref (yA Y 0), .int k, .int v] u ((bSetLoad u k v).1) (bSetLoad u k v).2 := by
  obtain ⟨hn2, hn, hm, hsrc, htgt, hmet⟩ := id hok
  refine mI_of (cc := cX5_setMeasuredLoad) (nL := 4) (own := RX5) (by decide) rfl rfl (fun v => cM_geo Y _ v) (Nat.le_of_ble_eq_true rfl) ?_
  intro K hKl hE hret
  have f_0 : Jvm.Cond.constant RX5 112 199980 ∈ wsX5_setMeasuredLoad := by decide +kernel
  have f_1 : ∀ w ∈ u_ws RX5 TX5 20, w ∈ wsX5_setMeasuredLoad := by decide +kernel
  have f_2 : Cond.fieldLink RX5 22 "TrafficMatrixModel" "load" "[I" ∈ wsX5_setMeasuredLoad := by decide +kernel
  show vV K (gM Y) u [(0, .ref (yA Y 0)), (1, .int k), (2, .int v)] [] 0
  refine v_aload_n 1 hE dX5_setMeasuredLoad_0 rfl rfl ?_
  refine v_iload_n 2 hE dX5_setMeasuredLoad_1 rfl rfl ?_
  refine v_ciE 5 hE (v_runV 1 hE (vSub.self hE) (kX5_isLink _ Y _ _ hok) gX5_setMeasuredLoad_X5_isLink rfl (by decide +kernel) rfl (q0 := 0) rfl rfl ⟨rfl, rfl, by decide, by decide⟩ rfl (Nat.le_of_ble_eq_true rfl) dX5_setMeasuredLoad_2) rfl ?_
  refine v_if_neB 8 hE 11 dX5_setMeasuredLoad_5 (by decide) rfl (fun c5 => ?_) (fun c5 => ?_)
  · refine v_iload_n 12 hE dX5_setMeasuredLoad_11 rfl rfl ?_
    refine v_iconst 13 hE (v := nI 0) dX5_setMeasuredLoad_12 (by decide) rfl ?_
    refine v_ldc 15 hE (v := nI 199980) f_0 dX5_setMeasuredLoad_13 rfl ?_
    refine v_ciE 18 hE (v_runS 3 hE (vSub.self hE) (kX5_within _ Y _ _ _ _) gX5_setMeasuredLoad_X5_within rfl (by decide +kernel) rfl ⟨rfl, rfl, by decide, by decide⟩ rfl (Nat.le_of_ble_eq_true rfl) dX5_setMeasuredLoad_15) rfl ?_
    refine v_if_neB 21 hE 24 dX5_setMeasuredLoad_18 (by decide) rfl (fun c18 => ?_) (fun c18 => ?_)
    · obtain ⟨j, hj, rfl⟩ := inB_t (by omega) c5
      have hjx := ndx_nI (k := j) (by omega)
      refine v_aload_n 25 hE dX5_setMeasuredLoad_24 rfl rfl ?_
      refine gM_load 28 hE f_1 f_2 dX5_setMeasuredLoad_25 rfl ?_
      refine v_iload_n 29 hE dX5_setMeasuredLoad_28 rfl rfl ?_
      refine lM_load 30 hE (by omega) dX5_setMeasuredLoad_29 rfl ?_
      refine v_istore_n 31 hE [_, _, _, _] dX5_setMeasuredLoad_30 rfl (by decide) rfl rfl ?_
      refine v_aload_n 32 hE dX5_setMeasuredLoad_31 rfl rfl ?_
      refine gM_load 35 hE f_1 f_2 dX5_setMeasuredLoad_32 rfl ?_
      refine v_iload_n 36 hE dX5_setMeasuredLoad_35 rfl rfl ?_
      refine v_iload_n 37 hE dX5_setMeasuredLoad_36 rfl rfl ?_
      refine sM_load 38 hE (by omega) dX5_setMeasuredLoad_37 rfl ?_
      refine v_iload_n 39 hE dX5_setMeasuredLoad_38 rfl rfl ?_
      exact (hret _ _ dX5_setMeasuredLoad_39).cast (by unfold bSetLoad; rw [if_pos c5, hjx, show isIn 0 199980 v = _ from c18]; rfl) (rI (by unfold bSetLoad; rw [if_pos c5, hjx, show isIn 0 199980 v = _ from c18]; rfl))
    · refine v_bipush 23 hE (v := -4) dX5_setMeasuredLoad_21 (by decide) rfl ?_
      exact (hret _ _ dX5_setMeasuredLoad_23).cast (by unfold bSetLoad; rw [if_pos c5, show isIn 0 199980 v = _ from c18]; rfl) (rI (by unfold bSetLoad; rw [if_pos c5, show isIn 0 199980 v = _ from c18]; rfl))
  · refine v_bipush 10 hE (v := -3) dX5_setMeasuredLoad_8 (by decide) rfl ?_
    exact (hret _ _ dX5_setMeasuredLoad_10).cast (by simp [bSetLoad, c5]) (rI (by simp [bSetLoad, c5]))
set_option maxRecDepth 100000 in
set_option maxHeartbeats 4000000 in
theorem kX5_measuredLoad (l : Launch) (Y : yG) (u : MS) (k : Int32) (hok : okM u) : mI l (gM Y) yX5_measuredLoad wsX5_measuredLoad ({ frames := 2, cells := 0, slots := 0, locals := 43 }) [.ref (yA Y 0), .int k] u (bLoad u k) u := by
  obtain ⟨hn2, hn, hm, hsrc, htgt, hmet⟩ := id hok
  refine mI_of (cc := cX5_measuredLoad) (nL := 2) (own := RX5) (by decide) rfl rfl (fun v => cM_geo Y _ v) (Nat.le_of_ble_eq_true rfl) ?_
  intro K hKl hE hret
  have f_0 : ∀ w ∈ u_ws RX5 TX5 20, w ∈ wsX5_measuredLoad := by decide +kernel
  have f_1 : Cond.fieldLink RX5 22 "TrafficMatrixModel" "load" "[I" ∈ wsX5_measuredLoad := by decide +kernel
  show vV K (gM Y) u [(0, .ref (yA Y 0)), (1, .int k)] [] 0
  refine v_aload_n 1 hE dX5_measuredLoad_0 rfl rfl ?_
  refine v_iload_n 2 hE dX5_measuredLoad_1 rfl rfl ?_
  refine v_ciE 5 hE (v_runV 1 hE (vSub.self hE) (kX5_isLink _ Y _ _ hok) gX5_measuredLoad_X5_isLink rfl (by decide +kernel) rfl (q0 := 0) rfl rfl ⟨rfl, rfl, by decide, by decide⟩ rfl (Nat.le_of_ble_eq_true rfl) dX5_measuredLoad_2) rfl ?_
  refine v_if_eqB 8 hE 17 dX5_measuredLoad_5 (by decide) rfl (fun c5 => ?_) (fun c5 => ?_)
  · refine v_bipush 19 hE (v := -3) dX5_measuredLoad_17 (by decide) rfl ?_
    exact (hret _ _ dX5_measuredLoad_19).cast rfl (rI (by first | (unfold bLoad; rw [if_pos c5, hjx]; done) | (simp [bLoad, c5]; done)))
  · obtain ⟨j, hj, rfl⟩ := inB_t (by omega) c5
    have hjx := ndx_nI (k := j) (by omega)
    refine v_aload_n 9 hE dX5_measuredLoad_8 rfl rfl ?_
    refine gM_load 12 hE f_0 f_1 dX5_measuredLoad_9 rfl ?_
    refine v_iload_n 13 hE dX5_measuredLoad_12 rfl rfl ?_
    refine lM_load 14 hE (by omega) dX5_measuredLoad_13 rfl ?_
    refine v_goto hE 19 dX5_measuredLoad_14 (by decide) ?_
    exact (hret _ _ dX5_measuredLoad_19).cast rfl (rI (by first | (unfold bLoad; rw [if_pos c5, hjx]; done) | (simp [bLoad, c5]; done)))
set_option maxRecDepth 100000 in
set_option maxHeartbeats 4000000 in
theorem kX5_outTotal (l : Launch) (Y : yG) (u : MS) (k : Int32) (hok : okM u) : mI l (gM Y) yX5_outTotal wsX5_outTotal ({ frames := 2, cells := 0, slots := 0, locals := 43 }) [.ref (yA Y 0), .int k] u (bOut u k) u := by
  obtain ⟨hn2, hn, hm, hsrc, htgt, hmet⟩ := id hok
  refine mI_of (cc := cX5_outTotal) (nL := 2) (own := RX5) (by decide) rfl rfl (fun v => cM_geo Y _ v) (Nat.le_of_ble_eq_true rfl) ?_
  intro K hKl hE hret
  have f_0 : ∀ w ∈ u_ws RX5 TX5 20, w ∈ wsX5_outTotal := by decide +kernel
  have f_1 : Cond.fieldLink RX5 25 "TrafficMatrixModel" "outOf" "[I" ∈ wsX5_outTotal := by decide +kernel
  show vV K (gM Y) u [(0, .ref (yA Y 0)), (1, .int k)] [] 0
  refine v_aload_n 1 hE dX5_outTotal_0 rfl rfl ?_
  refine v_iload_n 2 hE dX5_outTotal_1 rfl rfl ?_
  refine v_ciE 5 hE (v_runV 1 hE (vSub.self hE) (kX5_isNode _ Y _ _ hok) gX5_outTotal_X5_isNode rfl (by decide +kernel) rfl (q0 := 0) rfl rfl ⟨rfl, rfl, by decide, by decide⟩ rfl (Nat.le_of_ble_eq_true rfl) dX5_outTotal_2) rfl ?_
  refine v_if_eqB 8 hE 17 dX5_outTotal_5 (by decide) rfl (fun c5 => ?_) (fun c5 => ?_)
  · refine v_iconst 18 hE (v := -1) dX5_outTotal_17 (by decide) rfl ?_
    exact (hret _ _ dX5_outTotal_18).cast rfl (rI (by first | (unfold bOut; rw [if_pos c5, hjx]; done) | (simp [bOut, c5]; done)))
  · obtain ⟨j, hj, rfl⟩ := inB_t (by omega) c5
    have hjx := ndx_nI (k := j) (by omega)
    refine v_aload_n 9 hE dX5_outTotal_8 rfl rfl ?_
    refine gM_outOf 12 hE f_0 f_1 dX5_outTotal_9 rfl ?_
    refine v_iload_n 13 hE dX5_outTotal_12 rfl rfl ?_
    refine lM_out 14 hE (by omega) dX5_outTotal_13 rfl ?_
    refine v_goto hE 18 dX5_outTotal_14 (by decide) ?_
    exact (hret _ _ dX5_outTotal_18).cast rfl (rI (by first | (unfold bOut; rw [if_pos c5, hjx]; done) | (simp [bOut, c5]; done)))
set_option maxRecDepth 100000 in
set_option maxHeartbeats 4000000 in
theorem kX5_inTotal (l : Launch) (Y : yG) (u : MS) (k : Int32) (hok : okM u) : mI l (gM Y) yX5_inTotal wsX5_inTotal ({ frames := 2, cells := 0, slots := 0, locals := 43 }) [.ref (yA Y 0), .int k] u (bIn u k) u := by
  obtain ⟨hn2, hn, hm, hsrc, htgt, hmet⟩ := id hok
  refine mI_of (cc := cX5_inTotal) (nL := 2) (own := RX5) (by decide) rfl rfl (fun v => cM_geo Y _ v) (Nat.le_of_ble_eq_true rfl) ?_
  intro K hKl hE hret
  have f_0 : ∀ w ∈ u_ws RX5 TX5 20, w ∈ wsX5_inTotal := by decide +kernel
  have f_1 : Cond.fieldLink RX5 28 "TrafficMatrixModel" "inOf" "[I" ∈ wsX5_inTotal := by decide +kernel
  show vV K (gM Y) u [(0, .ref (yA Y 0)), (1, .int k)] [] 0
  refine v_aload_n 1 hE dX5_inTotal_0 rfl rfl ?_
  refine v_iload_n 2 hE dX5_inTotal_1 rfl rfl ?_
  refine v_ciE 5 hE (v_runV 1 hE (vSub.self hE) (kX5_isNode _ Y _ _ hok) gX5_inTotal_X5_isNode rfl (by decide +kernel) rfl (q0 := 0) rfl rfl ⟨rfl, rfl, by decide, by decide⟩ rfl (Nat.le_of_ble_eq_true rfl) dX5_inTotal_2) rfl ?_
  refine v_if_eqB 8 hE 17 dX5_inTotal_5 (by decide) rfl (fun c5 => ?_) (fun c5 => ?_)
  · refine v_iconst 18 hE (v := -1) dX5_inTotal_17 (by decide) rfl ?_
    exact (hret _ _ dX5_inTotal_18).cast rfl (rI (by first | (unfold bIn; rw [if_pos c5, hjx]; done) | (simp [bIn, c5]; done)))
  · obtain ⟨j, hj, rfl⟩ := inB_t (by omega) c5
    have hjx := ndx_nI (k := j) (by omega)
    refine v_aload_n 9 hE dX5_inTotal_8 rfl rfl ?_
    refine gM_inOf 12 hE f_0 f_1 dX5_inTotal_9 rfl ?_
    refine v_iload_n 13 hE dX5_inTotal_12 rfl rfl ?_
    refine lM_inn 14 hE (by omega) dX5_inTotal_13 rfl ?_
    refine v_goto hE 18 dX5_inTotal_14 (by decide) ?_
    exact (hret _ _ dX5_inTotal_18).cast rfl (rI (by first | (unfold bIn; rw [if_pos c5, hjx]; done) | (simp [bIn, c5]; done)))
set_option maxRecDepth 100000 in
set_option maxHeartbeats 4000000 in
theorem kX5_measurePair (l : Launch) (Y : yG) (u : MS) (s t : Int32) (hok : okM u) : mI l (gM Y) yX5_measurePair wsX5_measurePair ({ frames := 5, cells := 0, slots := 0, locals := 116 }) [.ref (yA Y 0), .int s, .int t] u ((bMPair u s t).1) (bMPair u s t).2 := by
  obtain ⟨hn2, hn, hm, hsrc, htgt, hmet⟩ := id hok
  refine mI_of (cc := cX5_measurePair) (nL := 5) (own := RX5) (by decide) rfl rfl (fun v => cM_geo Y _ v) (Nat.le_of_ble_eq_true rfl) ?_
  intro K hKl hE hret
  have f_0 : ∀ w ∈ u_ws RX5 TX5 20, w ∈ wsX5_measurePair := by decide +kernel
  have f_1 : Cond.fieldLink RX5 31 "TrafficMatrixModel" "isMeasured" "[Z" ∈ wsX5_measurePair := by decide +kernel
  have f_2 : Cond.fieldLink RX5 35 "TrafficMatrixModel" "measured" "[I" ∈ wsX5_measurePair := by decide +kernel
  have f_3 : Cond.fieldLink RX5 19 "TrafficMatrixModel" "demand" "[I" ∈ wsX5_measurePair := by decide +kernel
  show vV K (gM Y) u [(0, .ref (yA Y 0)), (1, .int s), (2, .int t)] [] 0
  refine v_aload_n 1 hE dX5_measurePair_0 rfl rfl ?_
  refine v_iload_n 2 hE dX5_measurePair_1 rfl rfl ?_
  refine v_iload_n 3 hE dX5_measurePair_2 rfl rfl ?_
  refine v_ciE 6 hE (v_runV 2 hE (vSub.self hE) (kX5_refusedRoute _ Y _ _ _ hok) gX5_measurePair_X5_refusedRoute rfl (by decide +kernel) rfl (q0 := 0) rfl rfl ⟨rfl, rfl, by decide, by decide⟩ rfl (Nat.le_of_ble_eq_true rfl) dX5_measurePair_3) rfl ?_
  refine v_istore_n 7 hE [_, _, _, _] dX5_measurePair_6 rfl (by decide) rfl rfl ?_
  refine v_iload_n 8 hE dX5_measurePair_7 rfl rfl ?_
  refine v_if_eq 11 hE 13 dX5_measurePair_8 (by decide) rfl (fun c8 => ?_) (fun c8 => ?_)
  · obtain ⟨hpe, hwh, h2⟩ := bRR_0 c8
    rw [h2]
    obtain ⟨a, b, ha, hb, rfl, rfl, hab⟩ := pairE_0 hn hpe
    have hsl : slot (nI a) (nI b) = 5 * a + b := by rw [slot_nI (by omega) (by omega)]; omega
    refine v_iconst 14 hE (v := nI 5) dX5_measurePair_13 (by decide) rfl ?_
    refine v_iload_n 15 hE dX5_measurePair_14 rfl rfl ?_
    refine v_imulN 16 hE dX5_measurePair_15 rfl ?_
    refine v_iload_n 17 hE dX5_measurePair_16 rfl rfl ?_
    refine v_iaddN 18 hE dX5_measurePair_17 rfl ?_
    refine v_istore 20 hE [_, _, _, _, _] dX5_measurePair_18 (by decide) rfl rfl ?_
    refine v_aload_n 21 hE dX5_measurePair_20 rfl rfl ?_
    refine gM_isMeasured 24 hE f_0 f_1 dX5_measurePair_21 rfl ?_
    refine v_iload 26 hE dX5_measurePair_24 rfl rfl ?_
    refine v_iconst 27 hE (v := bI true) dX5_measurePair_26 (by decide) rfl ?_
    refine sM_ism 28 hE (by omega) dX5_measurePair_27 rfl ?_
    refine v_aload_n 29 hE dX5_measurePair_28 rfl rfl ?_
    refine gM_measured 32 hE f_0 f_2 dX5_measurePair_29 rfl ?_
    refine v_iload 34 hE dX5_measurePair_32 rfl rfl ?_
    refine v_aload_n 35 hE dX5_measurePair_34 rfl rfl ?_
    refine gM_demand 38 hE f_0 f_3 dX5_measurePair_35 rfl ?_
    refine v_iload 40 hE dX5_measurePair_38 rfl rfl ?_
    refine lM_dem 41 hE (by omega) dX5_measurePair_40 rfl ?_
    show vV K (gM Y) _ _ (.int ((w_dem u) _) :: _) _
    refine sM_mea 42 hE (by omega) dX5_measurePair_41 rfl ?_
    refine v_aload_n 43 hE dX5_measurePair_42 rfl rfl ?_
    refine gM_demand 46 hE f_0 f_3 dX5_measurePair_43 rfl ?_
    refine v_iload 48 hE dX5_measurePair_46 rfl rfl ?_
    refine lM_dem 49 hE (by omega) dX5_measurePair_48 rfl ?_
    show vV K (gM Y) _ _ (.int ((w_dem u) _) :: _) _
    exact (hret _ _ dX5_measurePair_49).cast (by unfold bMPair; rw [if_pos c8, hsl]) (rI (by unfold bMPair; rw [if_pos c8, hsl]))
  · refine v_iload_n 12 hE dX5_measurePair_11 rfl rfl ?_
    exact (hret _ _ dX5_measurePair_12).cast (by unfold bMPair; rw [if_neg c8]) (rI (by unfold bMPair; rw [if_neg c8]))
set_option maxRecDepth 100000 in
set_option maxHeartbeats 4000000 in
theorem kX5_forgetPair (l : Launch) (Y : yG) (u : MS) (s t : Int32) (hok : okM u) : mI l (gM Y) yX5_forgetPair wsX5_forgetPair ({ frames := 3, cells := 0, slots := 0, locals := 65 }) [.ref (yA Y 0), .int s, .int t] u ((bFPair u s t).1) (bFPair u s t).2 := by
  obtain ⟨hn2, hn, hm, hsrc, htgt, hmet⟩ := id hok
  refine mI_of (cc := cX5_forgetPair) (nL := 5) (own := RX5) (by decide) rfl rfl (fun v => cM_geo Y _ v) (Nat.le_of_ble_eq_true rfl) ?_
  intro K hKl hE hret
  have f_0 : ∀ w ∈ u_ws RX5 TX5 20, w ∈ wsX5_forgetPair := by decide +kernel
  have f_1 : Cond.fieldLink RX5 31 "TrafficMatrixModel" "isMeasured" "[Z" ∈ wsX5_forgetPair := by decide +kernel
  have f_2 : Cond.fieldLink RX5 35 "TrafficMatrixModel" "measured" "[I" ∈ wsX5_forgetPair := by decide +kernel
  show vV K (gM Y) u [(0, .ref (yA Y 0)), (1, .int s), (2, .int t)] [] 0
  refine v_aload_n 1 hE dX5_forgetPair_0 rfl rfl ?_
  refine v_iload_n 2 hE dX5_forgetPair_1 rfl rfl ?_
  refine v_iload_n 3 hE dX5_forgetPair_2 rfl rfl ?_
  refine v_ciE 6 hE (v_runV 2 hE (vSub.self hE) (kX5_refused _ Y _ _ _ hok) gX5_forgetPair_X5_refused rfl (by decide +kernel) rfl (q0 := 0) rfl rfl ⟨rfl, rfl, by decide, by decide⟩ rfl (Nat.le_of_ble_eq_true rfl) dX5_forgetPair_3) rfl ?_
  refine v_istore_n 7 hE [_, _, _, _] dX5_forgetPair_6 rfl (by decide) rfl rfl ?_
  refine v_iload_n 8 hE dX5_forgetPair_7 rfl rfl ?_
  refine v_if_eq 11 hE 13 dX5_forgetPair_8 (by decide) rfl (fun c8 => ?_) (fun c8 => ?_)
  · obtain ⟨a, b, ha, hb, rfl, rfl, hab⟩ := pairE_0 hn c8
    have hsl : slot (nI a) (nI b) = 5 * a + b := by rw [slot_nI (by omega) (by omega)]; omega
    refine v_iconst 14 hE (v := nI 5) dX5_forgetPair_13 (by decide) rfl ?_
    refine v_iload_n 15 hE dX5_forgetPair_14 rfl rfl ?_
    refine v_imulN 16 hE dX5_forgetPair_15 rfl ?_
    refine v_iload_n 17 hE dX5_forgetPair_16 rfl rfl ?_
    refine v_iaddN 18 hE dX5_forgetPair_17 rfl ?_
    refine v_istore 20 hE [_, _, _, _, _] dX5_forgetPair_18 (by decide) rfl rfl ?_
    refine v_aload_n 21 hE dX5_forgetPair_20 rfl rfl ?_
    refine gM_isMeasured 24 hE f_0 f_1 dX5_forgetPair_21 rfl ?_
    refine v_iload 26 hE dX5_forgetPair_24 rfl rfl ?_
    refine lM_ism 27 hE (by omega) dX5_forgetPair_26 rfl ?_
    refine v_if_neB 30 hE 33 dX5_forgetPair_27 (by decide) rfl (fun c27 => ?_) (fun c27 => ?_)
    · refine v_aload_n 34 hE dX5_forgetPair_33 rfl rfl ?_
      refine gM_isMeasured 37 hE f_0 f_1 dX5_forgetPair_34 rfl ?_
      refine v_iload 39 hE dX5_forgetPair_37 rfl rfl ?_
      refine v_iconst 40 hE (v := bI false) dX5_forgetPair_39 (by decide) rfl ?_
      refine sM_ism 41 hE (by omega) dX5_forgetPair_40 rfl ?_
      refine v_aload_n 42 hE dX5_forgetPair_41 rfl rfl ?_
      refine gM_measured 45 hE f_0 f_2 dX5_forgetPair_42 rfl ?_
      refine v_iload 47 hE dX5_forgetPair_45 rfl rfl ?_
      refine lM_mea 48 hE (by omega) dX5_forgetPair_47 rfl ?_
      show vV K (gM Y) _ _ (.int ((w_mea u) _) :: _) _
      exact (hret _ _ dX5_forgetPair_48).cast (by unfold bFPair; rw [if_pos c8, hsl, c27]; rfl) (rI (by unfold bFPair; rw [if_pos c8, hsl, c27]; rfl))
    · refine v_bipush 32 hE (v := -7) dX5_forgetPair_30 (by decide) rfl ?_
      exact (hret _ _ dX5_forgetPair_32).cast (by unfold bFPair; rw [if_pos c8, hsl, c27]; rfl) (rI (by unfold bFPair; rw [if_pos c8, hsl, c27]; rfl))
  · refine v_iload_n 12 hE dX5_forgetPair_11 rfl rfl ?_
    exact (hret _ _ dX5_forgetPair_12).cast (by simp [bFPair, c8]) (rI (by simp [bFPair, c8]))
