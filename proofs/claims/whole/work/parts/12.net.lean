/-! TrafficMatrix$Network -/
def okN (u : XS) : Prop := x_n u ≤ 5 ∧ x_m u ≤ 12 ∧ (∀ l, x_src u l < 5) ∧ (∀ l, x_tgt u l < 5) ∧ (∀ l, x_met u l ≤ 99) ∧ (∀ s, x_len u s ≤ 4) ∧ (∀ s j, x_lnk u s j < 12)
def inB (v : Int32) (n : Nat) : Bool := if v < 0 then false else if nI n ≤ v then false else true
theorem inB_t {v : Int32} {n : Nat} (hn : n < 2 ^ 31) (h : inB v n = true) : ∃ k : Nat, k < n ∧ v = nI k := by
  unfold inB at h
  rcases pk_ix v hn with q | q | q
  · simp [q] at h
  · simp [q] at h
  · exact q
theorem inB_nI {k n : Nat} (h : k < n) (hn : n < 2 ^ 31) : inB (nI k) n = true := by
  unfold inB
  rw [if_neg (nI_pos (by omega)), if_neg (nI_ge h hn)]
def uUses (len : Nat → Nat) (lnk : Nat → Nat → Nat) (s l : Nat) : Bool := anyB (fun j => decide (lnk s j = l)) (len s)
def uHas (len : Nat → Nat) (s : Nat) : Bool := decide (0 < len s)
def ldOf (us : Nat → Nat → Bool) (dem : Nat → Int32) (l : Nat) : Int32 := sumI (fun s => if us s l then dem s else 0) 25
/-! least costs to a target, in rounds over the links; the first link of a route; a route -/
def relax1 (w src tgt : Nat → Nat) (l : Nat) (c : Nat → Nat) : Nat → Nat := va_up c (src l) (if w l + c (tgt l) < c (src l) then w l + c (tgt l) else c (src l))
def relaxN (w src tgt : Nat → Nat) : Nat → (Nat → Nat) → Nat → Nat
  | 0, c => c
  | n + 1, c => relax1 w src tgt n (relaxN w src tgt n c)
def roundsN (w src tgt : Nat → Nat) (m : Nat) : Nat → (Nat → Nat) → Nat → Nat
  | 0, c => c
  | k + 1, c => relaxN w src tgt m (roundsN w src tgt m k c)
theorem relax1_le {w src tgt c : Nat → Nat} {l B : Nat} (h : ∀ v, c v ≤ B) : ∀ v, relax1 w src tgt l c v ≤ B := by
  intro v
  unfold relax1 va_up
  have := h v
  have := h (src l)
  split
  · split <;> omega
  · omega
theorem relaxN_le {w src tgt c : Nat → Nat} {B : Nat} (h : ∀ v, c v ≤ B) : ∀ n v, relaxN w src tgt n c v ≤ B
  | 0, v => h v
  | n + 1, v => relax1_le (relaxN_le h n) v
theorem roundsN_le {w src tgt c : Nat → Nat} {m B : Nat} (h : ∀ v, c v ≤ B) : ∀ n v, roundsN w src tgt m n c v ≤ B
  | 0, v => h v
  | n + 1, v => relaxN_le (roundsN_le h n) m v
def wX (met : Nat → Nat) (l : Nat) : Nat := met l * 8 + 1
def costsTo (w src tgt : Nat → Nat) (m k t : Nat) : Nat → Nat := roundsN w src tgt m k (va_up (fun _ => 1000000) t 0)
theorem costs0_le (t v : Nat) : va_up (fun _ => 1000000) t 0 v ≤ 1000000 := by unfold va_up; split <;> simp
theorem costsTo_le (w src tgt : Nat → Nat) (m k t v : Nat) : costsTo w src tgt m k t v ≤ 1000000 := roundsN_le (costs0_le t) k v
def nxtX (c w src tgt : Nat → Nat) (m v : Nat) : Option Nat := if 1000000 ≤ c v then none else fstN (fun l => decide (src l = v) && decide (w l + c (tgt l) = c v)) m
theorem nxtX_lt {c w src tgt : Nat → Nat} {m v l : Nat} (h : nxtX c w src tgt m v = some l) : l < m := by
  unfold nxtX at h
  split at h
  · cases h
  · exact (fstN_some.mp h).1
def walkN (nx : Nat → Option Nat) (tgt : Nat → Nat) (t : Nat) : Nat → Nat → Nat → (Nat → Nat) → Nat × Nat × (Nat → Nat)
  | 0, v, len, row => (v, len, row)
  | k + 1, v, len, row => if v = t then (v, len, row) else match nx v with
    | none => (v, len, row)
    | some l => walkN nx tgt t k (tgt l) (len + 1) (va_up row len l)
theorem walkN_t {nx : Nat → Option Nat} {tgt row : Nat → Nat} {t k v len : Nat} (h : v = t) : walkN nx tgt t k v len row = (v, len, row) := by
  cases k with
  | zero => rfl
  | succ k => simp [walkN, h]
theorem walkN_none {nx : Nat → Option Nat} {tgt row : Nat → Nat} {t k v len : Nat} (h : nx v = none) : walkN nx tgt t k v len row = (v, len, row) := by
  cases k with
  | zero => rfl
  | succ k => simp [walkN, h]
theorem walkN_some {nx : Nat → Option Nat} {tgt row : Nat → Nat} {t k v len l : Nat} (h : nx v = some l) (hv : ¬ v = t) : walkN nx tgt t (k + 1) v len row = walkN nx tgt t k (tgt l) (len + 1) (va_up row len l) := by simp [walkN, h, hv]
theorem walkN_ok {nx : Nat → Option Nat} {tgt : Nat → Nat} {t m : Nat} (hnx : ∀ v l, nx v = some l → l < m) : ∀ (k v len : Nat) (row : Nat → Nat), (∀ j, row j < m) → (walkN nx tgt t k v len row).2.1 ≤ len + k ∧ ∀ j, (walkN nx tgt t k v len row).2.2 j < m
  | 0, v, len, row, h => ⟨Nat.le_refl _, h⟩
  | k + 1, v, len, row, h => by
    by_cases hv : v = t
    · rw [walkN_t hv]
      exact ⟨by show len ≤ _; omega, h⟩
    · cases hl : nx v with
      | none =>
        rw [walkN_none hl]
        exact ⟨by show len ≤ _; omega, h⟩
      | some l =>
        rw [walkN_some hl hv]
        have := walkN_ok (tgt := tgt) (t := t) hnx k (tgt l) (len + 1) (va_up row len l) (fun j => by unfold va_up; split; exact hnx v l hl; exact h j)
        exact ⟨by omega, this.2⟩
abbrev rtL : Type := (Nat → Nat) × (Nat → Nat → Nat)
def rt1 (nx : Nat → Option Nat) (tgt : Nat → Nat) (t s : Nat) (L : rtL) : rtL :=
  (va_up L.1 (s * 5 + t) (if (walkN nx tgt t 4 s 0 (L.2 (s * 5 + t))).1 = t then (walkN nx tgt t 4 s 0 (L.2 (s * 5 + t))).2.1 else 0), va_up L.2 (s * 5 + t) (walkN nx tgt t 4 s 0 (L.2 (s * 5 + t))).2.2)
def rtN (nx : Nat → Option Nat) (tgt : Nat → Nat) (t : Nat) : Nat → rtL → rtL
  | 0, L => L
  | k + 1, L => rt1 nx tgt t k (rtN nx tgt t k L)
def rtT (w src tgt : Nat → Nat) (m n : Nat) : Nat → (Nat → Nat) × rtL → (Nat → Nat) × rtL
  | 0, z => z
  | t + 1, z => (costsTo w src tgt m 4 t, rtN (nxtX (costsTo w src tgt m 4 t) w src tgt m) tgt t n (rtT w src tgt m n t z).2)
def okL (m : Nat) (L : rtL) : Prop := (∀ s, L.1 s ≤ 4) ∧ ∀ s j, L.2 s j < m
theorem rt1_ok {nx : Nat → Option Nat} {tgt : Nat → Nat} {t s m : Nat} {L : rtL} (hnx : ∀ v l, nx v = some l → l < m) (h : okL m L) : okL m (rt1 nx tgt t s L) := by
  obtain ⟨h1, h2⟩ := walkN_ok (tgt := tgt) (t := t) hnx 4 s 0 (L.2 (s * 5 + t)) (h.2 _)
  refine ⟨fun q => ?_, fun q j => ?_⟩
  · show va_up _ _ _ q ≤ 4
    unfold va_up
    split
    · split <;> omega
    · exact h.1 q
  · show (va_up L.2 (s * 5 + t) _ : Nat → Nat → Nat) q j < m
    unfold va_up
    split
    · exact h2 j
    · exact h.2 q j
theorem rtN_ok {nx : Nat → Option Nat} {tgt : Nat → Nat} {t m : Nat} {L : rtL} (hnx : ∀ v l, nx v = some l → l < m) (h : okL m L) : ∀ k, okL m (rtN nx tgt t k L)
  | 0 => h
  | k + 1 => rt1_ok hnx (rtN_ok hnx h k)
theorem rtT_ok {w src tgt : Nat → Nat} {m n : Nat} {z : (Nat → Nat) × rtL} (hm : m ≤ 12) (h : okL 12 z.2) : ∀ t, okL 12 (rtT w src tgt m n t z).2
  | 0 => h
  | t + 1 => rtN_ok (fun v l q => Nat.lt_of_lt_of_le (nxtX_lt q) hm) (rtT_ok hm h t) n
/-- the network with costs, lengths and links of its own -/
abbrev xR (u : XS) (z : (Nat → Nat) × rtL) : XS := xs_lnk (xs_len (xs_cost u z.1) z.2.1) z.2.2
abbrev xRoutes (u : XS) : XS := xR u (rtT (wX (x_met u)) (x_src u) (x_tgt u) (x_m u) (x_n u) (x_n u) (x_cost u, x_len u, x_lnk u))
theorem okN_R {u : XS} (h : okN u) {z : (Nat → Nat) × rtL} (hz : okL 12 z.2) : okN (xR u z) := ⟨h.1, h.2.1, h.2.2.1, h.2.2.2.1, h.2.2.2.2.1, hz.1, hz.2⟩
theorem okN_Routes {u : XS} (h : okN u) : okN (xRoutes u) := okN_R h (rtT_ok h.2.1 ⟨h.2.2.2.2.2.1, h.2.2.2.2.2.2⟩ _)
theorem v_minN {S : Type} {K : vK} {G : vG S} {cc : ByteArray} {nL : Nat} {own : String} {Ts : List Cond} {rm : Room} {u : S} {lv : List (Nat × Value)} {st : List Value} {pc : Nat} (n : Nat) (hE : eV K G cc nL own Ts rm) {index : Nat} (hlink : Cond.methodLink own index Lib.Math.min.name ∈ Ts) (hstat : Cond.static Lib.Math.min.name ∈ Ts) (hini : Cond.initialized "java/lang/Math" ∈ Ts) (hcode : Cond.code Lib.Math.min.name Lib.Math.min.code 2 (some .int) ∈ Ts) (hr : 1 ≤ rm.frames ∧ (st.map fun v => v.category).sum + 13 ≤ rm.locals) {x y : Nat} (hx : x < 2 ^ 31) (hy : y < 2 ^ 31) (hd : decode cc pc = .ok (.invokestatic index, 3)) (hn : pc + 3 = n) (k : vV K G u lv (.int (nI (if y < x then y else x)) :: st) n) : vV K G u lv (.int (nI y) :: .int (nI x) :: st) pc := by
  refine v_min n hE hlink hstat hini hcode hr hd hn ?_
  have e : (if nI y < nI x then nI y else nI x) = nI (if y < x then y else x) := by
    by_cases h : y < x
    · rw [if_pos h, if_pos ((nI_ltI hy hx).mpr h)]
    · rw [if_neg h, if_neg (fun q => h ((nI_ltI hy hx).mp q))]
  rw [e]
  exact k
set_option maxRecDepth 100000 in
set_option maxHeartbeats 4000000 in
theorem kX4_slotOf (l : Launch) (Y : yG) (u : XS) (s t : Nat)  : mI l (gX Y) yX4_slotOf wsX4_slotOf ({ frames := 0, cells := 0, slots := 0, locals := 0 }) [.int (nI s), .int (nI t)] u (nI (s * 5 + t)) u := by
  refine mI_of (cc := cX4_slotOf) (nL := 2) (own := RX4) (by decide) rfl rfl (fun v => cX_geo Y _ v) (Nat.le_of_ble_eq_true rfl) ?_
  intro K hKl hE hret
  show vV K (gX Y) u [(0, .int (nI s)), (1, .int (nI t))] [] 0
  refine v_iload_n 1 hE dX4_slotOf_0 rfl rfl ?_
  refine v_iconst 2 hE (v := nI 5) dX4_slotOf_1 (by decide) rfl ?_
  refine v_imulN 3 hE dX4_slotOf_2 rfl ?_
  refine v_iload_n 4 hE dX4_slotOf_3 rfl rfl ?_
  refine v_iaddN 5 hE dX4_slotOf_4 rfl ?_
  exact (hret _ _ dX4_slotOf_5).cast rfl (rI (by simp []))
set_option maxRecDepth 100000 in
set_option maxHeartbeats 4000000 in
theorem kX3_hasNode (l : Launch) (Y : yG) (u : XS) (v : Int32) (hok : okN u) : mI l (gX Y) yX3_hasNode wsX3_hasNode ({ frames := 0, cells := 0, slots := 0, locals := 0 }) [.ref (yA Y 1), .int v] u (bI (inB v (x_n u))) u := by
  refine mB_of (cc := cX3_hasNode) (nL := 2) (own := RX3) (by decide) rfl rfl (fun v => cX_geo Y _ v) (Nat.le_of_ble_eq_true rfl) ?_
  intro K hKl hE hret
  have f_0 : ∀ w ∈ u_ws RX3 TX3 8, w ∈ wsX3_hasNode := by decide +kernel
  have f_1 : Cond.fieldLink RX3 32 "TrafficMatrix$Network" "nodeCount" "I" ∈ wsX3_hasNode := by decide +kernel
  show vV K (gX Y) u [(0, .ref (yA Y 1)), (1, .int v)] [] 0
  refine v_iload_n 1 hE dX3_hasNode_0 rfl rfl ?_
  refine v_if_lt 4 hE 16 dX3_hasNode_1 (by decide) rfl (fun c1 => ?_) (fun c1 => ?_)
  · refine v_iconst 17 hE (v := nI 0) dX3_hasNode_16 (by decide) rfl ?_
    exact (hret _ _ dX3_hasNode_17).cast rfl (rB0 (by simp [inB, c1]))
  · refine v_iload_n 5 hE dX3_hasNode_4 rfl rfl ?_
    refine v_aload_n 6 hE dX3_hasNode_5 rfl rfl ?_
    refine gX_nodeCount 9 hE f_0 f_1 dX3_hasNode_6 rfl ?_
    refine v_ic_ge 12 hE 16 dX3_hasNode_9 (by decide) rfl (fun c9 => ?_) (fun c9 => ?_)
    · refine v_iconst 17 hE (v := nI 0) dX3_hasNode_16 (by decide) rfl ?_
      exact (hret _ _ dX3_hasNode_17).cast rfl (rB0 (by simp [inB, c1, c9]))
    · refine v_iconst 13 hE (v := nI 1) dX3_hasNode_12 (by decide) rfl ?_
      refine v_goto hE 17 dX3_hasNode_13 (by decide) ?_
      exact (hret _ _ dX3_hasNode_17).cast rfl (rB1 (by simp [inB, c1, c9]))
set_option maxRecDepth 100000 in
set_option maxHeartbeats 4000000 in
theorem kX3_hasLink (l : Launch) (Y : yG) (u : XS) (v : Int32) (hok : okN u) : mI l (gX Y) yX3_hasLink wsX3_hasLink ({ frames := 0, cells := 0, slots := 0, locals := 0 }) [.ref (yA Y 1), .int v] u (bI (inB v (x_m u))) u := by
  refine mB_of (cc := cX3_hasLink) (nL := 2) (own := RX3) (by decide) rfl rfl (fun v => cX_geo Y _ v) (Nat.le_of_ble_eq_true rfl) ?_
  intro K hKl hE hret
  have f_0 : ∀ w ∈ u_ws RX3 TX3 8, w ∈ wsX3_hasLink := by decide +kernel
  have f_1 : Cond.fieldLink RX3 36 "TrafficMatrix$Network" "linkCount" "I" ∈ wsX3_hasLink := by decide +kernel
  show vV K (gX Y) u [(0, .ref (yA Y 1)), (1, .int v)] [] 0
  refine v_iload_n 1 hE dX3_hasLink_0 rfl rfl ?_
  refine v_if_lt 4 hE 16 dX3_hasLink_1 (by decide) rfl (fun c1 => ?_) (fun c1 => ?_)
  · refine v_iconst 17 hE (v := nI 0) dX3_hasLink_16 (by decide) rfl ?_
    exact (hret _ _ dX3_hasLink_17).cast rfl (rB0 (by simp [inB, c1]))
  · refine v_iload_n 5 hE dX3_hasLink_4 rfl rfl ?_
    refine v_aload_n 6 hE dX3_hasLink_5 rfl rfl ?_
    refine gX_linkCount 9 hE f_0 f_1 dX3_hasLink_6 rfl ?_
    refine v_ic_ge 12 hE 16 dX3_hasLink_9 (by decide) rfl (fun c9 => ?_) (fun c9 => ?_)
    · refine v_iconst 17 hE (v := nI 0) dX3_hasLink_16 (by decide) rfl ?_
      exact (hret _ _ dX3_hasLink_17).cast rfl (rB0 (by simp [inB, c1, c9]))
    · refine v_iconst 13 hE (v := nI 1) dX3_hasLink_12 (by decide) rfl ?_
      refine v_goto hE 17 dX3_hasLink_13 (by decide) ?_
      exact (hret _ _ dX3_hasLink_17).cast rfl (rB1 (by simp [inB, c1, c9]))
set_option maxRecDepth 100000 in
set_option maxHeartbeats 4000000 in
theorem kX3_hasRoute (l : Launch) (Y : yG) (u : XS) (s : Nat) (hok : okN u) (hs : s < 25) : mI l (gX Y) yX3_hasRoute wsX3_hasRoute ({ frames := 0, cells := 0, slots := 0, locals := 0 }) [.ref (yA Y 1), .int (nI s)] u (bI (uHas (x_len u) s)) u := by
  obtain ⟨hn, hm, hsrc, htgt, hmet, hlen, hlnk⟩ := id hok
  refine mB_of (cc := cX3_hasRoute) (nL := 2) (own := RX3) (by decide) rfl rfl (fun v => cX_geo Y _ v) (Nat.le_of_ble_eq_true rfl) ?_
  intro K hKl hE hret
  have f_0 : ∀ w ∈ u_ws RX3 TX3 8, w ∈ wsX3_hasRoute := by decide +kernel
  have f_1 : Cond.fieldLink RX3 21 "TrafficMatrix$Network" "routeLengths" "[I" ∈ wsX3_hasRoute := by decide +kernel
  show vV K (gX Y) u [(0, .ref (yA Y 1)), (1, .int (nI s))] [] 0
  refine v_aload_n 1 hE dX3_hasRoute_0 rfl rfl ?_
  refine gX_routeLengths 4 hE f_0 f_1 dX3_hasRoute_1 rfl ?_
  refine v_iload_n 5 hE dX3_hasRoute_4 rfl rfl ?_
  refine lX_len 6 hE (by omega) dX3_hasRoute_5 rfl ?_
  have := hlen s
  refine v_if_leN 9 hE 13 dX3_hasRoute_6 (by decide) (by omega) rfl (fun c6 => ?_) (fun c6 => ?_)
  · refine v_iconst 14 hE (v := nI 0) dX3_hasRoute_13 (by decide) rfl ?_
    exact (hret _ _ dX3_hasRoute_14).cast rfl (rB0 (by simp [uHas, c6]))
  · refine v_iconst 10 hE (v := nI 1) dX3_hasRoute_9 (by decide) rfl ?_
    refine v_goto hE 14 dX3_hasRoute_10 (by decide) ?_
    exact (hret _ _ dX3_hasRoute_14).cast rfl (rB1 (by simp [uHas, c6]))
set_option maxRecDepth 100000 in
set_option maxHeartbeats 4000000 in
theorem kX3_routeUses (l : Launch) (Y : yG) (u : XS) (s k : Nat) (hok : okN u) (hs : s < 25) (hk : k < 12) : mI l (gX Y) yX3_routeUses wsX3_routeUses ({ frames := 0, cells := 0, slots := 0, locals := 0 }) [.ref (yA Y 1), .int (nI s), .int (nI k)] u (bI (uUses (x_len u) (x_lnk u) s k)) u := by
  obtain ⟨hn, hm, hsrc, htgt, hmet, hlen, hlnk⟩ := id hok
  have h4 := hlen s
  refine mB_of (cc := cX3_routeUses) (nL := 4) (own := RX3) (by decide) rfl rfl (fun v => cX_geo Y _ v) (Nat.le_of_ble_eq_true rfl) ?_
  intro K hKl hE hret
  have f_0 : ∀ w ∈ u_ws RX3 TX3 8, w ∈ wsX3_routeUses := by decide +kernel
  have f_1 : Cond.fieldLink RX3 21 "TrafficMatrix$Network" "routeLengths" "[I" ∈ wsX3_routeUses := by decide +kernel
  have f_2 : Cond.fieldLink RX3 26 "TrafficMatrix$Network" "routeLinks" "[[I" ∈ wsX3_routeUses := by decide +kernel
  show vV K (gX Y) u [(0, .ref (yA Y 1)), (1, .int (nI s)), (2, .int (nI k))] [] 0
  refine v_iconst 1 hE (v := nI 0) dX3_routeUses_0 (by decide) rfl ?_
  refine v_istore_n 2 hE [_, _, _, _] dX3_routeUses_1 rfl (by decide) rfl rfl ?_
  refine vV.sub [1, 2, 3, 0] rfl ?_
  have L2 : ∀ (n2 : Nat) (i : Nat), (i ≤ x_len u s) → (∀ j, j < i → ¬ x_lnk u s j = k) → x_len u s + 1 ≤ i + n2 → vV K (gX Y) u [(0, .ref (yA Y 1)), (1, .int (nI s)), (2, .int (nI k)), (3, .int (nI i))] [] 2 := by
    intro n2
    induction n2 with
    | zero => intro i hi hno hfu2; exact absurd hfu2 (by omega)
    | succ n2 ih2 =>
      intro i hi hno hfu2
      refine v_iload_n 3 hE dX3_routeUses_2 rfl rfl ?_
      refine v_aload_n 4 hE dX3_routeUses_3 rfl rfl ?_
      refine gX_routeLengths 7 hE f_0 f_1 dX3_routeUses_4 rfl ?_
      refine v_iload_n 8 hE dX3_routeUses_7 rfl rfl ?_
      refine lX_len 9 hE (by omega) dX3_routeUses_8 rfl ?_
      refine v_ic_geN 12 hE 32 dX3_routeUses_9 (by decide) (by omega) (by omega) rfl (fun c9 => ?_) (fun c9 => ?_)
      · refine v_iconst 33 hE (v := nI 0) dX3_routeUses_32 (by decide) rfl ?_
        exact (hret _ _ dX3_routeUses_33).cast rfl (rB0 (anyB_f.mpr (fun j hj => by simpa using hno j (by omega))))
      · refine v_aload_n 13 hE dX3_routeUses_12 rfl rfl ?_
        refine gX_routeLinks 16 hE f_0 f_2 dX3_routeUses_13 rfl ?_
        refine v_iload_n 17 hE dX3_routeUses_16 rfl rfl ?_
        refine rX_lnk 18 hE (by omega) dX3_routeUses_17 rfl ?_
        refine v_iload_n 19 hE dX3_routeUses_18 rfl rfl ?_
        refine lX_lnk 20 hE (by omega) (by omega) dX3_routeUses_19 rfl ?_
        have := hlnk s i
        refine v_iload_n 21 hE dX3_routeUses_20 rfl rfl ?_
        refine v_ic_neN 24 hE 26 dX3_routeUses_21 (by decide) (by omega) (by omega) rfl (fun c21 => ?_) (fun c21 => ?_)
        · refine v_iincN 29 hE [_, _, _, _] dX3_routeUses_26 rfl (by decide) rfl rfl ?_
          refine v_goto hE 2 dX3_routeUses_29 (by decide) ?_
          refine vV.sub [1, 2, 3, 0] rfl ?_
          exact ih2 _ (by omega) (by intro j hj; by_cases e : j = i; (subst e; exact c21); exact hno j (by omega)) (by omega)
        · refine v_iconst 25 hE (v := nI 1) dX3_routeUses_24 (by decide) rfl ?_
          exact (hret _ _ dX3_routeUses_25).cast rfl (rB1 (anyB_t.mpr ⟨i, by omega, by simp [c21]⟩))
  exact L2 (x_len u s + 1) _ (by omega) (by intro j hj; omega) (by omega)
set_option maxRecDepth 100000 in
set_option maxHeartbeats 4000000 in
theorem kX3_loadOf (l : Launch) (Y : yG) (u : XS) (k : Nat) (hok : okN u) (hk : k < 12) : mI l (gX Y) yX3_loadOf wsX3_loadOf ({ frames := 1, cells := 0, slots := 0, locals := 23 }) [.ref (yA Y 1), .int (nI k), .ref (yA Y 2)] u (ldOf (uUses (x_len u) (x_lnk u)) (x_dem u) k) u := by
  refine mI_of (cc := cX3_loadOf) (nL := 5) (own := RX3) (by decide) rfl rfl (fun v => cX_geo Y _ v) (Nat.le_of_ble_eq_true rfl) ?_
  intro K hKl hE hret
  show vV K (gX Y) u [(0, .ref (yA Y 1)), (1, .int (nI k)), (2, .ref (yA Y 2))] [] 0
  refine v_iconst 1 hE (v := 0) dX3_loadOf_0 (by decide) rfl ?_
  refine v_istore_n 2 hE [_, _, _, _] dX3_loadOf_1 rfl (by decide) rfl rfl ?_
  refine v_iconst 3 hE (v := nI 0) dX3_loadOf_2 (by decide) rfl ?_
  refine v_istore 5 hE [_, _, _, _, _] dX3_loadOf_3 (by decide) rfl rfl ?_
  refine vV.sub [2, 3, 4, 1, 0] rfl ?_
  have L5 : ∀ (n5 : Nat) (a : Int32) (i : Nat), (i ≤ 25) → (a = sumI (fun s => if uUses (x_len u) (x_lnk u) s k then x_dem u s else 0) i) → 25 + 1 ≤ i + n5 → vV K (gX Y) u [(0, .ref (yA Y 1)), (1, .int (nI k)), (2, .ref (yA Y 2)), (3, .int a), (4, .int (nI i))] [] 5 := by
    intro n5
    induction n5 with
    | zero => intro a i hi ha hfu5; exact absurd hfu5 (by omega)
    | succ n5 ih5 =>
      intro a i hi ha hfu5
      refine v_iload 7 hE dX3_loadOf_5 rfl rfl ?_
      refine v_bipush 9 hE (v := nI 25) dX3_loadOf_7 (by decide) rfl ?_
      refine v_ic_geN 12 hE 35 dX3_loadOf_9 (by decide) (by omega) (by omega) rfl (fun c9 => ?_) (fun c9 => ?_)
      · refine v_iload_n 36 hE dX3_loadOf_35 rfl rfl ?_
        exact (hret _ _ dX3_loadOf_36).cast rfl (rI (by rw [ha, show i = 25 by omega]; rfl))
      · refine v_aload_n 13 hE dX3_loadOf_12 rfl rfl ?_
        refine v_iload 15 hE dX3_loadOf_13 rfl rfl ?_
        refine v_iload_n 16 hE dX3_loadOf_15 rfl rfl ?_
        refine v_ciE 19 hE (v_runV 2 hE (vSub.self hE) (kX3_routeUses _ Y _ _ _ hok (by omega) (by omega)) gX3_loadOf_X3_routeUses rfl (by decide +kernel) rfl (q0 := 1) rfl rfl ⟨rfl, rfl, by decide, by decide⟩ rfl (Nat.le_of_ble_eq_true rfl) dX3_loadOf_16) rfl ?_
        refine v_if_eqB 22 hE 29 dX3_loadOf_19 (by decide) rfl (fun c19 => ?_) (fun c19 => ?_)
        · refine v_iincN 32 hE [_, _, _, _, _] dX3_loadOf_29 rfl (by decide) rfl rfl ?_
          refine v_goto hE 5 dX3_loadOf_32 (by decide) ?_
          refine vV.sub [1, 2, 3, 4, 0] rfl ?_
          exact ih5 _ _ (by omega) (by simp [sumI, ha, c9, c19]) (by omega)
        · refine v_iload_n 23 hE dX3_loadOf_22 rfl rfl ?_
          refine v_aload_n 24 hE dX3_loadOf_23 rfl rfl ?_
          refine v_iload 26 hE dX3_loadOf_24 rfl rfl ?_
          refine lX_dem 27 hE (by omega) dX3_loadOf_26 rfl ?_
          refine v_iadd 28 hE dX3_loadOf_27 rfl ?_
          refine v_istore_n 29 hE [_, _, _, _, _] dX3_loadOf_28 rfl (by decide) rfl rfl ?_
          refine v_iincN 32 hE [_, _, _, _, _] dX3_loadOf_29 rfl (by decide) rfl rfl ?_
          refine v_goto hE 5 dX3_loadOf_32 (by decide) ?_
          refine vV.sub [2, 3, 4, 1, 0] rfl ?_
          exact ih5 _ _ (by omega) (by simp [sumI, ha, c9, c19]) (by omega)
  exact L5 (25 + 1) _ _ (by omega) rfl (by omega)
set_option maxRecDepth 100000 in
set_option maxHeartbeats 4000000 in
theorem kX3_costOver (l : Launch) (Y : yG) (u : XS) (k : Nat) (hok : okN u) (hk : k < 12) : mI l (gX Y) yX3_costOver wsX3_costOver ({ frames := 0, cells := 0, slots := 0, locals := 0 }) [.ref (yA Y 1), .int (nI k)] u (nI (x_met u k * 8 + 1 + x_cost u (x_tgt u k))) u := by
  obtain ⟨hn, hm, hsrc, htgt, hmet, hlen, hlnk⟩ := id hok
  refine mI_of (cc := cX3_costOver) (nL := 2) (own := RX3) (by decide) rfl rfl (fun v => cX_geo Y _ v) (Nat.le_of_ble_eq_true rfl) ?_
  intro K hKl hE hret
  have f_0 : ∀ w ∈ u_ws RX3 TX3 8, w ∈ wsX3_costOver := by decide +kernel
  have f_1 : Cond.fieldLink RX3 18 "TrafficMatrix$Network" "metrics" "[I" ∈ wsX3_costOver := by decide +kernel
  have f_2 : Cond.fieldLink RX3 29 "TrafficMatrix$Network" "costs" "[I" ∈ wsX3_costOver := by decide +kernel
  have f_3 : Cond.fieldLink RX3 15 "TrafficMatrix$Network" "targets" "[I" ∈ wsX3_costOver := by decide +kernel
  show vV K (gX Y) u [(0, .ref (yA Y 1)), (1, .int (nI k))] [] 0
  refine v_aload_n 1 hE dX3_costOver_0 rfl rfl ?_
  refine gX_metrics 4 hE f_0 f_1 dX3_costOver_1 rfl ?_
  refine v_iload_n 5 hE dX3_costOver_4 rfl rfl ?_
  refine lX_met 6 hE (by omega) dX3_costOver_5 rfl ?_
  refine v_bipush 8 hE (v := nI 8) dX3_costOver_6 (by decide) rfl ?_
  refine v_imulN 9 hE dX3_costOver_8 rfl ?_
  refine v_iconst 10 hE (v := nI 1) dX3_costOver_9 (by decide) rfl ?_
  refine v_iaddN 11 hE dX3_costOver_10 rfl ?_
  refine v_aload_n 12 hE dX3_costOver_11 rfl rfl ?_
  refine gX_costs 15 hE f_0 f_2 dX3_costOver_12 rfl ?_
  refine v_aload_n 16 hE dX3_costOver_15 rfl rfl ?_
  refine gX_targets 19 hE f_0 f_3 dX3_costOver_16 rfl ?_
  refine v_iload_n 20 hE dX3_costOver_19 rfl rfl ?_
  refine lX_tgt 21 hE (by omega) dX3_costOver_20 rfl ?_
  refine lX_cost 22 hE (htgt k) dX3_costOver_21 rfl ?_
  refine v_iaddN 23 hE dX3_costOver_22 rfl ?_
  exact (hret _ _ dX3_costOver_23).cast rfl (rI (by simp []))
set_option maxRecDepth 100000 in
set_option maxHeartbeats 4000000 in
theorem kX3_findCostsTo (l : Launch) (Y : yG) (u : XS) (t : Nat) (hok : okN u) (ht : t < 5) : mV l (gX Y) yX3_findCostsTo wsX3_findCostsTo ({ frames := 1, cells := 0, slots := 0, locals := 23 }) [.ref (yA Y 1), .int (nI t)] u (xs_cost u (costsTo (wX (x_met u)) (x_src u) (x_tgt u) (x_m u) 4 t)) := by
  obtain ⟨hn, hm, hsrc, htgt, hmet, hlen, hlnk⟩ := id hok
  refine mV_of (cc := cX3_findCostsTo) (nL := 5) (own := RX3) (by decide) rfl rfl (fun v => cX_geo Y _ v) (Nat.le_of_ble_eq_true rfl) ?_
  intro K hKl hE hret
  have f_0 : ∀ w ∈ u_ws RX3 TX3 8, w ∈ wsX3_findCostsTo := by decide +kernel
  have f_1 : Cond.fieldLink RX3 29 "TrafficMatrix$Network" "costs" "[I" ∈ wsX3_findCostsTo := by decide +kernel
  have f_2 : Jvm.Cond.constant RX3 60 1000000 ∈ wsX3_findCostsTo := by decide +kernel
  have f_3 : Cond.fieldLink RX3 36 "TrafficMatrix$Network" "linkCount" "I" ∈ wsX3_findCostsTo := by decide +kernel
  have f_4 : Cond.fieldLink RX3 9 "TrafficMatrix$Network" "sources" "[I" ∈ wsX3_findCostsTo := by decide +kernel
  have f_5 : Cond.methodLink RX3 65 Lib.Math.min.name ∈ wsX3_findCostsTo := by decide +kernel
  have f_6 : Cond.static Lib.Math.min.name ∈ wsX3_findCostsTo := by decide +kernel
  have f_7 : Cond.initialized "java/lang/Math" ∈ wsX3_findCostsTo := by decide +kernel
  have f_8 : Cond.code Lib.Math.min.name Lib.Math.min.code 2 (some .int) ∈ wsX3_findCostsTo := by decide +kernel
  show vV K (gX Y) u [(0, .ref (yA Y 1)), (1, .int (nI t))] [] 0
  refine v_aload_n 1 hE dX3_findCostsTo_0 rfl rfl ?_
  refine gX_costs 4 hE f_0 f_1 dX3_findCostsTo_1 rfl ?_
  refine v_ldc 6 hE (v := nI 1000000) f_2 dX3_findCostsTo_4 rfl ?_
  refine fX_cost 9 hE gX3_findCostsTo_J7_fill_53178 ⟨by decide, by decide⟩ (Nat.le_of_ble_eq_true rfl) dX3_findCostsTo_6 rfl ?_
  refine v_aload_n 10 hE dX3_findCostsTo_9 rfl rfl ?_
  refine gX_costs 13 hE f_0 f_1 dX3_findCostsTo_10 rfl ?_
  refine v_iload_n 14 hE dX3_findCostsTo_13 rfl rfl ?_
  refine v_iconst 15 hE (v := nI 0) dX3_findCostsTo_14 (by decide) rfl ?_
  refine sX_cost 16 hE (by omega) dX3_findCostsTo_15 rfl ?_
  refine v_iconst 17 hE (v := nI 0) dX3_findCostsTo_16 (by decide) rfl ?_
  refine v_istore_n 18 hE [_, _, _] dX3_findCostsTo_17 rfl (by decide) rfl rfl ?_
  refine vV.sub [1, 2, 0] rfl ?_
  have L18 : ∀ (n18 : Nat) (h : Nat) (c : Nat → Nat), (h ≤ 4) → (c = roundsN (wX (x_met u)) (x_src u) (x_tgt u) (x_m u) h (va_up (fun _ => 1000000) t 0)) → 4 + 1 ≤ h + n18 → vV K (gX Y) (xs_cost u c) [(0, .ref (yA Y 1)), (1, .int (nI t)), (2, .int (nI h))] [] 18 := by
    intro n18
    induction n18 with
    | zero => intro h c hh hc hfu18; exact absurd hfu18 (by omega)
    | succ n18 ih18 =>
      intro h c hh hc hfu18
      refine v_iload_n 19 hE dX3_findCostsTo_18 rfl rfl ?_
      refine v_iconst 20 hE (v := nI 4) dX3_findCostsTo_19 (by decide) rfl ?_
      refine v_ic_geN 23 hE 75 dX3_findCostsTo_20 (by decide) (by omega) (by omega) rfl (fun c20 => ?_) (fun c20 => ?_)
      · exact (hret _ _ dX3_findCostsTo_75).cast (by rw [hc, show h = 4 by omega]; rfl) rfl
      · refine v_iconst 24 hE (v := nI 0) dX3_findCostsTo_23 (by decide) rfl ?_
        refine v_istore_n 25 hE [_, _, _, _] dX3_findCostsTo_24 rfl (by decide) rfl rfl ?_
        refine vV.sub [1, 2, 3, 0] rfl ?_
        have L25 : ∀ (n25 : Nat) (k : Nat) (d : Nat → Nat), (k ≤ x_m u) → (d = relaxN (wX (x_met u)) (x_src u) (x_tgt u) k c) → x_m u + 1 ≤ k + n25 → vV K (gX Y) (xs_cost u d) [(0, .ref (yA Y 1)), (1, .int (nI t)), (2, .int (nI h)), (3, .int (nI k))] [] 25 := by
          intro n25
          induction n25 with
          | zero => intro k d hk hd hfu25; exact absurd hfu25 (by omega)
          | succ n25 ih25 =>
            intro k d hk hd hfu25
            refine v_iload_n 26 hE dX3_findCostsTo_25 rfl rfl ?_
            refine v_aload_n 27 hE dX3_findCostsTo_26 rfl rfl ?_
            refine gX_linkCount 30 hE f_0 f_3 dX3_findCostsTo_27 rfl ?_
            show vV K (gX Y) _ _ (.int (nI (x_m u)) :: _) _
            refine v_ic_geN 33 hE 69 dX3_findCostsTo_30 (by decide) (by omega) (by omega) rfl (fun c30 => ?_) (fun c30 => ?_)
            · refine v_iincN 72 hE [_, _, _, _] dX3_findCostsTo_69 rfl (by decide) rfl rfl ?_
              refine v_goto hE 18 dX3_findCostsTo_72 (by decide) ?_
              refine vV.sub [1, 2, 0] rfl ?_
              exact ih18 _ _ (by omega) (by rw [hd, hc, show k = x_m u by omega]; rfl) (by omega)
            · have hdb : ∀ v, d v ≤ 1000000 := by rw [hd, hc]; exact relaxN_le (roundsN_le (costs0_le t) h) k
              refine v_aload_n 34 hE dX3_findCostsTo_33 rfl rfl ?_
              refine gX_sources 37 hE f_0 f_4 dX3_findCostsTo_34 rfl ?_
              refine v_iload_n 38 hE dX3_findCostsTo_37 rfl rfl ?_
              refine lX_src 39 hE (by omega) dX3_findCostsTo_38 rfl ?_
              show vV K (gX Y) _ _ (.int (nI ((x_src u) _)) :: _) _
              refine v_istore 41 hE [_, _, _, _, _] dX3_findCostsTo_39 (by decide) rfl rfl ?_
              refine v_aload_n 42 hE dX3_findCostsTo_41 rfl rfl ?_
              refine gX_costs 45 hE f_0 f_1 dX3_findCostsTo_42 rfl ?_
              refine v_iload 47 hE dX3_findCostsTo_45 rfl rfl ?_
              refine v_aload_n 48 hE dX3_findCostsTo_47 rfl rfl ?_
              refine gX_costs 51 hE f_0 f_1 dX3_findCostsTo_48 rfl ?_
              refine v_iload 53 hE dX3_findCostsTo_51 rfl rfl ?_
              refine lX_cost 54 hE (hsrc k) dX3_findCostsTo_53 rfl ?_
              show vV K (gX Y) _ _ (.int (nI ((d) _)) :: _) _
              refine v_aload_n 55 hE dX3_findCostsTo_54 rfl rfl ?_
              refine v_iload_n 56 hE dX3_findCostsTo_55 rfl rfl ?_
              refine v_ciE 59 hE (v_runV 1 hE (vSub.self hE) (kX3_costOver _ Y _ _ hok (by omega)) gX3_findCostsTo_X3_costOver rfl (by decide +kernel) rfl (q0 := 1) rfl rfl ⟨rfl, rfl, by decide, by decide⟩ rfl (Nat.le_of_ble_eq_true rfl) dX3_findCostsTo_56) rfl ?_
              show vV K (gX Y) _ _ (.int (nI (x_met u _ * 8 + 1 + d (x_tgt u _))) :: _) _
              have := hdb (x_src u k)
              have := hdb (x_tgt u k)
              have := hmet k
              refine v_minN 62 hE f_5 f_6 f_7 f_8 ⟨by decide, Nat.le_of_ble_eq_true rfl⟩ (by omega) (by omega) dX3_findCostsTo_59 rfl ?_
              refine sX_cost 63 hE (hsrc k) dX3_findCostsTo_62 rfl ?_
              refine v_iincN 66 hE [_, _, _, _, _] dX3_findCostsTo_63 rfl (by decide) rfl rfl ?_
              refine v_goto hE 25 dX3_findCostsTo_66 (by decide) ?_
              refine vV.sub [2, 3, 4, 0] rfl ?_
              exact ih25 _ _ (by omega) (by rw [hd]; rfl) (by omega)
        exact L25 (x_m u + 1) _ _ (by omega) rfl (by omega)
  exact L18 (4 + 1) _ _ (by omega) rfl (by omega)
