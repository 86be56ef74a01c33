/-! TrafficMatrix$Network -/
def okN (u : XS) : Prop := x_n u ≤ 5 ∧ x_m u ≤ 12 ∧ (∀ l, x_src u l < 5) ∧ (∀ l, x_tgt u l < 5) ∧ (∀ l, x_met u l ≤ 99) ∧ (∀ s, x_len u s ≤ 4) ∧ (∀ s j, x_lnk u s j < 12)
def inB (v : Int32) (n : Nat) : Bool := if v < 0 then false else if nI n ≤ v then false else true
theorem inB_t {v : Int32} {n : Nat} (hn : n < 2 ^ 31) (h : inB v n = true) : ∃ k : Nat, k < n ∧ v = nI k := by
  unfold inB at h
  rcases pk_ix v hn with q | q | q
  · simp [q] at h
  · simp [q] at h
  · exact q
theorem inB_nI {k n : Nat} (h : k < n) (hn : n < 2 ^ 31) : inB (nI k) n = true := by
  unfold inB
  rw [if_neg (nI_pos (by omega)), if_neg (nI_ge h hn)]
def uUses (len : Nat → Nat) (lnk : Nat → Nat → Nat) (s l : Nat) : Bool := anyB (fun j => decide (lnk s j = l)) (len s)
def uHas (len : Nat → Nat) (s : Nat) : Bool := decide (0 < len s)
def ldOf (us : Nat → Nat → Bool) (dem : Nat → Int32) (l : Nat) : Int32 := sumI (fun s => if us s l then dem s else 0) 25
/-! least costs to a target, in rounds over the links; the first link of a route; a route -/
def relax1 (w src tgt : Nat → Nat) (l : Nat) (c : Nat → Nat) : Nat → Nat := va_up c (src l) (if w l + c (tgt l) < c (src l) then w l + c (tgt l) else c (src l))
def relaxN (w src tgt : Nat → Nat) : Nat → (Nat → Nat) → Nat → Nat
  | 0, c => c
  | n + 1, c => relax1 w src tgt n (relaxN w src tgt n c)
def roundsN (w src tgt : Nat → Nat) (m : Nat) : Nat → (Nat → Nat) → Nat → Nat
  | 0, c => c
  | k + 1, c => relaxN w src tgt m (roundsN w src tgt m k c)
theorem relax1_le {w src tgt c : Nat → Nat} {l B : Nat} (h : ∀ v, c v ≤ B) : ∀ v, relax1 w src tgt l c v ≤ B := by
  intro v
  unfold relax1 va_up
  have := h v
  have := h (src l)
  split
  · split <;> omega
  · omega
theorem relaxN_le {w src tgt c : Nat → Nat} {B : Nat} (h : ∀ v, c v ≤ B) : ∀ n v, relaxN w src tgt n c v ≤ B
  | 0, v => h v
  | n + 1, v => relax1_le (relaxN_le h n) v
theorem roundsN_le {w src tgt c : Nat → Nat} {m B : Nat} (h : ∀ v, c v ≤ B) : ∀ n v, roundsN w src tgt m n c v ≤ B
  | 0, v => h v
  | n + 1, v => relaxN_le (roundsN_le h n) m v
def wX (met : Nat → Nat) (l : Nat) : Nat := met l * 8 + 1
def costsTo (w src tgt : Nat → Nat) (m k t : Nat) : Nat → Nat := roundsN w src tgt m k (va_up (fun _ => 1000000) t 0)
theorem costs0_le (t v : Nat) : va_up (fun _ => 1000000) t 0 v ≤ 1000000 := by unfold va_up; split <;> simp
theorem costsTo_le (w src tgt : Nat → Nat) (m k t v : Nat) : costsTo w src tgt m k t v ≤ 1000000 := roundsN_le (costs0_le t) k v
def nxtX (c w src tgt : Nat → Nat) (m v : Nat) : Option Nat := if 1000000 ≤ c v then none else fstN (fun l => decide (src l = v) && decide (w l + c (tgt l) = c v)) m
theorem nxtX_lt {c w src tgt : Nat → Nat} {m v l : Nat} (h : nxtX c w src tgt m v = some l) : l < m := by
  unfold nxtX at h
  split at h
  · cases h
  · exact (fstN_some.mp h).1
def walkN (nx : Nat → Option Nat) (tgt : Nat → Nat) (t : Nat) : Nat → Nat → Nat → (Nat → Nat) → Nat × Nat × (Nat → Nat)
  | 0, v, len, row => (v, len, row)
  | k + 1, v, len, row => if v = t then (v, len, row) else match nx v with
    | none => (v, len, row)
    | some l => walkN nx tgt t k (tgt l) (len + 1) (va_up row len l)
theorem walkN_t {nx : Nat → Option Nat} {tgt row : Nat → Nat} {t k v len : Nat} (h : v = t) : walkN nx tgt t k v len row = (v, len, row) := by
  cases k with
  | zero => rfl
  | succ k => simp [walkN, h]
theorem walkN_none {nx : Nat → Option Nat} {tgt row : Nat → Nat} {t k v len : Nat} (h : nx v = none) : walkN nx tgt t k v len row = (v, len, row) := by
  cases k with
  | zero => rfl
  | succ k => simp [walkN, h]
theorem walkN_some {nx : Nat → Option Nat} {tgt row : Nat → Nat} {t k v len l : Nat} (h : nx v = some l) (hv : ¬ v = t) : walkN nx tgt t (k + 1) v len row = walkN nx tgt t k (tgt l) (len + 1) (va_up row len l) := by simp [walkN, h, hv]
theorem walkN_ok {nx : Nat → Option Nat} {tgt : Nat → Nat} {t m : Nat} (hnx : ∀ v l, nx v = some l → l < m) : ∀ (k v len : Nat) (row : Nat → Nat), (∀ j, row j < m) → (walkN nx tgt t k v len row).2.1 ≤ len + k ∧ ∀ j, (walkN nx tgt t k v len row).2.2 j < m
  | 0, v, len, row, h => ⟨Nat.le_refl _, h⟩
  | k + 1, v, len, row, h => by
    by_cases hv : v = t
    · rw [walkN_t hv]
      exact ⟨by show len ≤ _; omega, h⟩
    · cases hl : nx v with
      | none =>
        rw [walkN_none hl]
        exact ⟨by show len ≤ _; omega, h⟩
      | some l =>
        rw [walkN_some hl hv]
        have := walkN_ok (tgt := tgt) (t := t) hnx k (tgt l) (len + 1) (va_up row len l) (fun j => by unfold va_up; split; exact hnx v l hl; exact h j)
        exact ⟨by omega, this.2⟩
abbrev rtL : Type := (Nat → Nat) × (Nat → Nat → Nat)
def rt1 (nx : Nat → Option Nat) (tgt : Nat → Nat) (t s : Nat) (L : rtL) : rtL :=
  (va_up L.1 (s * 5 + t) (if (walkN nx tgt t 4 s 0 (L.2 (s * 5 + t))).1 = t then (walkN nx tgt t 4 s 0 (L.2 (s * 5 + t))).2.1 else 0), va_up L.2 (s * 5 + t) (walkN nx tgt t 4 s 0 (L.2 (s * 5 + t))).2.2)
def rtN (nx : Nat → Option Nat) (tgt : Nat → Nat) (t : Nat) : Nat → rtL → rtL
  | 0, L => L
  | k + 1, L => rt1 nx tgt t k (rtN nx tgt t k L)
def rtT (w src tgt : Nat → Nat) (m n : Nat) : Nat → (Nat → Nat) × rtL → (Nat → Nat) × rtL
  | 0, z => z
  | t + 1, z => (costsTo w src tgt m 4 t, rtN (nxtX (costsTo w src tgt m 4 t) w src tgt m) tgt t n (rtT w src tgt m n t z).2)
def okL (m : Nat) (L : rtL) : Prop := (∀ s, L.1 s ≤ 4) ∧ ∀ s j, L.2 s j < m
theorem rt1_ok {nx : Nat → Option Nat} {tgt : Nat → Nat} {t s m : Nat} {L : rtL} (hnx : ∀ v l, nx v = some l → l < m) (h : okL m L) : okL m (rt1 nx tgt t s L) := by
  obtain ⟨h1, h2⟩ := walkN_ok (tgt := tgt) (t := t) hnx 4 s 0 (L.2 (s * 5 + t)) (h.2 _)
  refine ⟨fun q => ?_, fun q j => ?_⟩
  · show va_up _ _ _ q ≤ 4
    unfold va_up
    split
    · split <;> omega
    · exact h.1 q
  · show (va_up L.2 (s * 5 + t) _ : Nat → Nat → Nat) q j < m
    unfold va_up
    split
    · exact h2 j
    · exact h.2 q j
theorem rtN_ok {nx : Nat → Option Nat} {tgt : Nat → Nat} {t m : Nat} {L : rtL} (hnx : ∀ v l, nx v = some l → l < m) (h : okL m L) : ∀ k, okL m (rtN nx tgt t k L)
  | 0 => h
  | k + 1 => rt1_ok hnx (rtN_ok hnx h k)
theorem rtT_ok {w src tgt : Nat → Nat} {m n : Nat} {z : (Nat → Nat) × rtL} (hm : m ≤ 12) (h : okL 12 z.2) : ∀ t, okL 12 (rtT w src tgt m n t z).2
  | 0 => h
  | t + 1 => rtN_ok (fun v l q => Nat.lt_of_lt_of_le (nxtX_lt q) hm) (rtT_ok hm h t) n
/-- the network with costs, lengths and links of its own -/
abbrev xR (u : XS) (z : (Nat → Nat) × rtL) : XS := xs_lnk (xs_len (xs_cost u z.1) z.2.1) z.2.2
abbrev xRoutes (u : XS) : XS := xR u (rtT (wX (x_met u)) (x_src u) (x_tgt u) (x_m u) (x_n u) (x_n u) (x_cost u, x_len u, x_lnk u))
theorem okN_R {u : XS} (h : okN u) {z : (Nat → Nat) × rtL} (hz : okL 12 z.2) : okN (xR u z) := ⟨h.1, h.2.1, h.2.2.1, h.2.2.2.1, h.2.2.2.2.1, hz.1, hz.2⟩
theorem okN_Routes {u : XS} (h : okN u) : okN (xRoutes u) := okN_R h (rtT_ok h.2.1 ⟨h.2.2.2.2.2.1, h.2.2.2.2.2.2⟩ _)
theorem up_id {α : Type} (f : Nat → α) (k : Nat) : va_up f k (f k) = f := by
  funext q
  unfold va_up
  split
  · rename_i e; rw [e]
  · rfl
theorem up_2 {α : Type} (f : Nat → Nat → α) (k : Nat) (row : Nat → α) (j : Nat) (x : α) : va_up (va_up f k row) k (va_up (va_up f k row k) j x) = va_up f k (va_up row j x) := by
  have e : va_up f k row k = row := by simp [va_up]
  rw [e]
  funext q
  unfold va_up
  split <;> rfl
theorem oI_none {x : Option Nat} (h : ∀ k, x = some k → k < 2 ^ 31) (e : oI (-1) x = -1) : x = none := by
  cases x with
  | none => rfl
  | some k =>
    have h1 := h k rfl
    have e1 : nI k = -1 := e
    have := nI_toInt h1
    rw [e1] at this
    have h2 : (-1 : Int32).toInt = -1 := by decide
    omega
theorem oI_some {x : Option Nat} (e : ¬ oI (-1) x = -1) : ∃ k, x = some k := by
  cases x with
  | none => exact absurd rfl e
  | some k => exact ⟨k, rfl⟩
theorem v_minN {S : Type} {K : vK} {G : vG S} {cc : ByteArray} {nL : Nat} {own : String} {Ts : List Cond} {rm : Room} {u : S} {lv : List (Nat × Value)} {st : List Value} {pc : Nat} (n : Nat) (hE : eV K G cc nL own Ts rm) {index : Nat} (hlink : Cond.methodLink own index Lib.Math.min.name ∈ Ts) (hstat : Cond.static Lib.Math.min.name ∈ Ts) (hini : Cond.initialized "java/lang/Math" ∈ Ts) (hcode : Cond.code Lib.Math.min.name Lib.Math.min.code 2 (some .int) ∈ Ts) (hr : 1 ≤ rm.frames ∧ (st.map fun v => v.category).sum + 13 ≤ rm.locals) {x y : Nat} (hx : x < 2 ^ 31) (hy : y < 2 ^ 31) (hd : decode cc pc = .ok (.invokestatic index, 3)) (hn : pc + 3 = n) (k : vV K G u lv (.int (nI (if y < x then y else x)) :: st) n) : vV K G u lv (.int (nI y) :: .int (nI x) :: st) pc := by
  refine v_min n hE hlink hstat hini hcode hr hd hn ?_
  have e : (if nI y < nI x then nI y else nI x) = nI (if y < x then y else x) := by
    by_cases h : y < x
    · rw [if_pos h, if_pos ((nI_ltI hy hx).mpr h)]
    · rw [if_neg h, if_neg (fun q => h ((nI_ltI hy hx).mp q))]
  rw [e]
  exact k
set_option maxRecDepth 100000 in
set_option maxHeartbeats 4000000 in
theorem kX4_slotOf (l : Launch) (Y : yG) (u : XS) (s t : Nat)  : mI l (gX Y) yX4_slotOf wsX4_slotOf ({ frames := 0, cells := 0, slots := 0, locals := 0 }) [.int (nI s), .int (nI t)] u (nI (s * 5 + t)) u := by
  refine mI_of (cc := cX4_slotOf) (nL := 2) (own := RX4) (by decide) rfl rfl (fun v => cX_geo Y _ v) (Nat.le_of_ble_eq_true rfl) ?_
  intro K hKl hE hret
  show vV K (gX Y) u [(0, .int (nI s)), (1, .int (nI t))] [] 0
  refine v_iload_n 1 hE dX4_slotOf_0 rfl rfl ?_
  refine v_iconst 2 hE (v := nI 5) dX4_slotOf_1 (by decide) rfl ?_
  refine v_imulN 3 hE dX4_slotOf_2 rfl ?_
  refine v_iload_n 4 hE dX4_slotOf_3 rfl rfl ?_
  refine v_iaddN 5 hE dX4_slotOf_4 rfl ?_
  exact (hret _ _ dX4_slotOf_5).cast rfl (rI (by simp []))
set_option maxRecDepth 100000 in
set_option maxHeartbeats 4000000 in
theorem kX3_hasNode (l : Launch) (Y : yG) (u : XS) (v : Int32) (hok : okN u) : mI l (gX Y) yX3_hasNode wsX3_hasNode ({ frames := 0, cells := 0, slots := 0, locals := 0 }) [.ref (yA Y 1), .int v] u (bI (inB v (x_n u))) u := by
  refine mB_of (cc := cX3_hasNode) (nL := 2) (own := RX3) (by decide) rfl rfl (fun v => cX_geo Y _ v) (Nat.le_of_ble_eq_true rfl) ?_
  intro K hKl hE hret
  have f_0 : ∀ w ∈ u_ws RX3 TX3 8, w ∈ wsX3_hasNode := by decide +kernel
  have f_1 : Cond.fieldLink RX3 32 "TrafficMatrix$Network" "nodeCount" "I" ∈ wsX3_hasNode := by decide +kernel
  show vV K (gX Y) u [(0, .ref (yA Y 1)), (1, .int v)] [] 0
  refine v_iload_n 1 hE dX3_hasNode_0 rfl rfl ?_
  refine v_if_lt 4 hE 16 dX3_hasNode_1 (by decide) rfl (fun c1 => ?_) (fun c1 => ?_)
  · refine v_iconst 17 hE (v := nI 0) dX3_hasNode_16 (by decide) rfl ?_
    exact (hret _ _ dX3_hasNode_17).cast rfl (rB0 (by simp [inB, c1]))
  · refine v_iload_n 5 hE dX3_hasNode_4 rfl rfl ?_
    refine v_aload_n 6 hE dX3_hasNode_5 rfl rfl ?_
    refine gX_nodeCount 9 hE f_0 f_1 dX3_hasNode_6 rfl ?_
    refine v_ic_ge 12 hE 16 dX3_hasNode_9 (by decide) rfl (fun c9 => ?_) (fun c9 => ?_)
    · refine v_iconst 17 hE (v := nI 0) dX3_hasNode_16 (by decide) rfl ?_
      exact (hret _ _ dX3_hasNode_17).cast rfl (rB0 (by simp [inB, c1, c9]))
    · refine v_iconst 13 hE (v := nI 1) dX3_hasNode_12 (by decide) rfl ?_
      refine v_goto hE 17 dX3_hasNode_13 (by decide) ?_
      exact (hret _ _ dX3_hasNode_17).cast rfl (rB1 (by simp [inB, c1, c9]))
set_option maxRecDepth 100000 in
set_option maxHeartbeats 4000000 in
theorem kX3_hasLink (l : Launch) (Y : yG) (u : XS) (v : Int32) (hok : okN u) : mI l (gX Y) yX3_hasLink wsX3_hasLink ({ frames := 0, cells := 0, slots := 0, locals := 0 }) [.ref (yA Y 1), .int v] u (bI (inB v (x_m u))) u := by
  refine mB_of (cc := cX3_hasLink) (nL := 2) (own := RX3) (by decide) rfl rfl (fun v => cX_geo Y _ v) (Nat.le_of_ble_eq_true rfl) ?_
  intro K hKl hE hret
  have f_0 : ∀ w ∈ u_ws RX3 TX3 8, w ∈ wsX3_hasLink := by decide +kernel
  have f_1 : Cond.fieldLink RX3 36 "TrafficMatrix$Network" "linkCount" "I" ∈ wsX3_hasLink := by decide +kernel
  show vV K (gX Y) u [(0, .ref (yA Y 1)), (1, .int v)] [] 0
  refine v_iload_n 1 hE dX3_hasLink_0 rfl rfl ?_
  refine v_if_lt 4 hE 16 dX3_hasLink_1 (by decide) rfl (fun c1 => ?_) (fun c1 => ?_)
  · refine v_iconst 17 hE (v := nI 0) dX3_hasLink_16 (by decide) rfl ?_
    exact (hret _ _ dX3_hasLink_17).cast rfl (rB0 (by simp [inB, c1]))
  · refine v_iload_n 5 hE dX3_hasLink_4 rfl rfl ?_
    refine v_aload_n 6 hE dX3_hasLink_5 rfl rfl ?_
    refine gX_linkCount 9 hE f_0 f_1 dX3_hasLink_6 rfl ?_
    refine v_ic_ge 12 hE 16 dX3_hasLink_9 (by decide) rfl (fun c9 => ?_) (fun c9 => ?_)
    · refine v_iconst 17 hE (v := nI 0) dX3_hasLink_16 (by decide) rfl ?_
      exact (hret _ _ dX3_hasLink_17).cast rfl (rB0 (by simp [inB, c1, c9]))
    · refine v_iconst 13 hE (v := nI 1) dX3_hasLink_12 (by decide) rfl ?_
      refine v_goto hE 17 dX3_hasLink_13 (by decide) ?_
      exact (hret _ _ dX3_hasLink_17).cast rfl (rB1 (by simp [inB, c1, c9]))
set_option maxRecDepth 100000 in
set_option maxHeartbeats 4000000 in
theorem kX3_hasRoute (l : Launch) (Y : yG) (u : XS) (s : Nat) (hok : okN u) (hs : s < 25) : mI l (gX Y) yX3_hasRoute wsX3_hasRoute ({ frames := 0, cells := 0, slots := 0, locals := 0 }) [.ref (yA Y 1), .int (nI s)] u (bI (uHas (x_len u) s)) u := by
  obtain ⟨hn, hm, hsrc, htgt, hmet, hlen, hlnk⟩ := id hok
  refine mB_of (cc := cX3_hasRoute) (nL := 2) (own := RX3) (by decide) rfl rfl (fun v => cX_geo Y _ v) (Nat.le_of_ble_eq_true rfl) ?_
  intro K hKl hE hret
  have f_0 : ∀ w ∈ u_ws RX3 TX3 8, w ∈ wsX3_hasRoute := by decide +kernel
  have f_1 : Cond.fieldLink RX3 21 "TrafficMatrix$Network" "routeLengths" "[I" ∈ wsX3_hasRoute := by decide +kernel
  show vV K (gX Y) u [(0, .ref (yA Y 1)), (1, .int (nI s))] [] 0
  refine v_aload_n 1 hE dX3_hasRoute_0 rfl rfl ?_
  refine gX_routeLengths 4 hE f_0 f_1 dX3_hasRoute_1 rfl ?_
  refine v_iload_n 5 hE dX3_hasRoute_4 rfl rfl ?_
  refine lX_len 6 hE (by omega) dX3_hasRoute_5 rfl ?_
  have := hlen s
  refine v_if_leN 9 hE 13 dX3_hasRoute_6 (by decide) (by omega) rfl (fun c6 => ?_) (fun c6 => ?_)
  · refine v_iconst 14 hE (v := nI 0) dX3_hasRoute_13 (by decide) rfl ?_
    exact (hret _ _ dX3_hasRoute_14).cast rfl (rB0 (by simp [uHas, c6]))
  · refine v_iconst 10 hE (v := nI 1) dX3_hasRoute_9 (by decide) rfl ?_
    refine v_goto hE 14 dX3_hasRoute_10 (by decide) ?_
    exact (hret _ _ dX3_hasRoute_14).cast rfl (rB1 (by simp [uHas, c6]))
set_option maxRecDepth 100000 in
set_option maxHeartbeats 4000000 in
theorem kX3_routeUses (l : Launch) (Y : yG) (u : XS) (s k : Nat) (hok : okN u) (hs : s < 25) (hk : k < 12) : mI l (gX Y) yX3_routeUses wsX3_routeUses ({ frames := 0, cells := 0, slots := 0, locals := 0 }) [.ref (yA Y 1), .int (nI s), .int (nI k)] u (bI (uUses (x_len u) (x_lnk u) s k)) u := by
  obtain ⟨hn, hm, hsrc, htgt, hmet, hlen, hlnk⟩ := id hok
  have h4 := hlen s
  refine mB_of (cc := cX3_routeUses) (nL := 4) (own := RX3) (by decide) rfl rfl (fun v => cX_geo Y _ v) (Nat.le_of_ble_eq_true rfl) ?_
  intro K hKl hE hret
  have f_0 : ∀ w ∈ u_ws RX3 TX3 8, w ∈ wsX3_routeUses := by decide +kernel
  have f_1 : Cond.fieldLink RX3 21 "TrafficMatrix$Network" "routeLengths" "[I" ∈ wsX3_routeUses := by decide +kernel
  have f_2 : Cond.fieldLink RX3 26 "TrafficMatrix$Network" "routeLinks" "[[I" ∈ wsX3_routeUses := by decide +kernel
  show vV K (gX Y) u [(0, .ref (yA Y 1)), (1, .int (nI s)), (2, .int (nI k))] [] 0
  refine v_iconst 1 hE (v := nI 0) dX3_routeUses_0 (by decide) rfl ?_
  refine v_istore_n 2 hE [_, _, _, _] dX3_routeUses_1 rfl (by decide) rfl rfl ?_
  refine vV.sub [1, 2, 3, 0] rfl ?_
  have L2 : ∀ (n2 : Nat) (i : Nat), (i ≤ x_len u s) → (∀ j, j < i → ¬ x_lnk u s j = k) → x_len u s + 1 ≤ i + n2 → vV K (gX Y) u [(0, .ref (yA Y 1)), (1, .int (nI s)), (2, .int (nI k)), (3, .int (nI i))] [] 2 := by
    intro n2
    induction n2 with
    | zero => intro i hi hno hfu2; exact absurd hfu2 (by omega)
    | succ n2 ih2 =>
      intro i hi hno hfu2
      refine v_iload_n 3 hE dX3_routeUses_2 rfl rfl ?_
      refine v_aload_n 4 hE dX3_routeUses_3 rfl rfl ?_
      refine gX_routeLengths 7 hE f_0 f_1 dX3_routeUses_4 rfl ?_
      refine v_iload_n 8 hE dX3_routeUses_7 rfl rfl ?_
      refine lX_len 9 hE (by omega) dX3_routeUses_8 rfl ?_
      refine v_ic_geN 12 hE 32 dX3_routeUses_9 (by decide) (by omega) (by omega) rfl (fun c9 => ?_) (fun c9 => ?_)
      · refine v_iconst 33 hE (v := nI 0) dX3_routeUses_32 (by decide) rfl ?_
        exact (hret _ _ dX3_routeUses_33).cast rfl (rB0 (anyB_f.mpr (fun j hj => by simpa using hno j (by omega))))
      · refine v_aload_n 13 hE dX3_routeUses_12 rfl rfl ?_
        refine gX_routeLinks 16 hE f_0 f_2 dX3_routeUses_13 rfl ?_
        refine v_iload_n 17 hE dX3_routeUses_16 rfl rfl ?_
        refine rX_lnk 18 hE (by omega) dX3_routeUses_17 rfl ?_
        refine v_iload_n 19 hE dX3_routeUses_18 rfl rfl ?_
        refine lX_lnk 20 hE (by omega) (by omega) dX3_routeUses_19 rfl ?_
        have := hlnk s i
        refine v_iload_n 21 hE dX3_routeUses_20 rfl rfl ?_
        refine v_ic_neN 24 hE 26 dX3_routeUses_21 (by decide) (by omega) (by omega) rfl (fun c21 => ?_) (fun c21 => ?_)
        · refine v_iincN 29 hE [_, _, _, _] dX3_routeUses_26 rfl (by decide) rfl rfl ?_
          refine v_goto hE 2 dX3_routeUses_29 (by decide) ?_
          refine vV.sub [1, 2, 3, 0] rfl ?_
          exact ih2 _ (by omega) (by intro j hj; by_cases e : j = i; (subst e; exact c21); exact hno j (by omega)) (by omega)
        · refine v_iconst 25 hE (v := nI 1) dX3_routeUses_24 (by decide) rfl ?_
          exact (hret _ _ dX3_routeUses_25).cast rfl (rB1 (anyB_t.mpr ⟨i, by omega, by simp [c21]⟩))
  exact L2 (x_len u s + 1) _ (by omega) (by intro j hj; omega) (by omega)
set_option maxRecDepth 100000 in
set_option maxHeartbeats 4000000 in
theorem kX3_loadOf (l : Launch) (Y : yG) (u : XS) (k : Nat) (hok : okN u) (hk : k < 12) : mI l (gX Y) yX3_loadOf wsX3_loadOf ({ frames := 1, cells := 0, slots := 0, locals := 23 }) [.ref (yA Y 1), .int (nI k), .ref (yA Y 2)] u (ldOf (uUses (x_len u) (x_lnk u)) (x_dem u) k) u := by
  refine mI_of (cc := cX3_loadOf) (nL := 5) (own := RX3) (by decide) rfl rfl (fun v => cX_geo Y _ v) (Nat.le_of_ble_eq_true rfl) ?_
  intro K hKl hE hret
  show vV K (gX Y) u [(0, .ref (yA Y 1)), (1, .int (nI k)), (2, .ref (yA Y 2))] [] 0
  refine v_iconst 1 hE (v := 0) dX3_loadOf_0 (by decide) rfl ?_
  refine v_istore_n 2 hE [_, _, _, _] dX3_loadOf_1 rfl (by decide) rfl rfl ?_
  refine v_iconst 3 hE (v := nI 0) dX3_loadOf_2 (by decide) rfl ?_
  refine v_istore 5 hE [_, _, _, _, _] dX3_loadOf_3 (by decide) rfl rfl ?_
  refine vV.sub [2, 3, 4, 1, 0] rfl ?_
  have L5 : ∀ (n5 : Nat) (a : Int32) (i : Nat), (i ≤ 25) → (a = sumI (fun s => if uUses (x_len u) (x_lnk u) s k then x_dem u s else 0) i) → 25 + 1 ≤ i + n5 → vV K (gX Y) u [(0, .ref (yA Y 1)), (1, .int (nI k)), (2, .ref (yA Y 2)), (3, .int a), (4, .int (nI i))] [] 5 := by
    intro n5
    induction n5 with
    | zero => intro a i hi ha hfu5; exact absurd hfu5 (by omega)
    | succ n5 ih5 =>
      intro a i hi ha hfu5
      refine v_iload 7 hE dX3_loadOf_5 rfl rfl ?_
      refine v_bipush 9 hE (v := nI 25) dX3_loadOf_7 (by decide) rfl ?_
      refine v_ic_geN 12 hE 35 dX3_loadOf_9 (by decide) (by omega) (by omega) rfl (fun c9 => ?_) (fun c9 => ?_)
      · refine v_iload_n 36 hE dX3_loadOf_35 rfl rfl ?_
        exact (hret _ _ dX3_loadOf_36).cast rfl (rI (by rw [ha, show i = 25 by omega]; rfl))
      · refine v_aload_n 13 hE dX3_loadOf_12 rfl rfl ?_
        refine v_iload 15 hE dX3_loadOf_13 rfl rfl ?_
        refine v_iload_n 16 hE dX3_loadOf_15 rfl rfl ?_
        refine v_ciE 19 hE (v_runV 2 hE (vSub.self hE) (kX3_routeUses _ Y _ _ _ hok (by omega) (by omega)) gX3_loadOf_X3_routeUses rfl (by decide +kernel) rfl (q0 := 1) rfl rfl ⟨rfl, rfl, by decide, by decide⟩ rfl (Nat.le_of_ble_eq_true rfl) dX3_loadOf_16) rfl ?_
        refine v_if_eqB 22 hE 29 dX3_loadOf_19 (by decide) rfl (fun c19 => ?_) (fun c19 => ?_)
        · refine v_iincN 32 hE [_, _, _, _, _] dX3_loadOf_29 rfl (by decide) rfl rfl ?_
          refine v_goto hE 5 dX3_loadOf_32 (by decide) ?_
          refine vV.sub [1, 2, 3, 4, 0] rfl ?_
          exact ih5 _ _ (by omega) (by simp [sumI, ha, c9, c19]) (by omega)
        · refine v_iload_n 23 hE dX3_loadOf_22 rfl rfl ?_
          refine v_aload_n 24 hE dX3_loadOf_23 rfl rfl ?_
          refine v_iload 26 hE dX3_loadOf_24 rfl rfl ?_
          refine lX_dem 27 hE (by omega) dX3_loadOf_26 rfl ?_
          refine v_iadd 28 hE dX3_loadOf_27 rfl ?_
          refine v_istore_n 29 hE [_, _, _, _, _] dX3_loadOf_28 rfl (by decide) rfl rfl ?_
          refine v_iincN 32 hE [_, _, _, _, _] dX3_loadOf_29 rfl (by decide) rfl rfl ?_
          refine v_goto hE 5 dX3_loadOf_32 (by decide) ?_
          refine vV.sub [2, 3, 4, 1, 0] rfl ?_
          exact ih5 _ _ (by omega) (by simp [sumI, ha, c9, c19]) (by omega)
  exact L5 (25 + 1) _ _ (by omega) rfl (by omega)
set_option maxRecDepth 100000 in
set_option maxHeartbeats 4000000 in
theorem kX3_costOver (l : Launch) (Y : yG) (u : XS) (k : Nat) (hok : okN u) (hk : k < 12) : mI l (gX Y) yX3_costOver wsX3_costOver ({ frames := 0, cells := 0, slots := 0, locals := 0 }) [.ref (yA Y 1), .int (nI k)] u (nI (x_met u k * 8 + 1 + x_cost u (x_tgt u k))) u := by
  obtain ⟨hn, hm, hsrc, htgt, hmet, hlen, hlnk⟩ := id hok
  refine mI_of (cc := cX3_costOver) (nL := 2) (own := RX3) (by decide) rfl rfl (fun v => cX_geo Y _ v) (Nat.le_of_ble_eq_true rfl) ?_
  intro K hKl hE hret
  have f_0 : ∀ w ∈ u_ws RX3 TX3 8, w ∈ wsX3_costOver := by decide +kernel
  have f_1 : Cond.fieldLink RX3 18 "TrafficMatrix$Network" "metrics" "[I" ∈ wsX3_costOver := by decide +kernel
  have f_2 : Cond.fieldLink RX3 29 "TrafficMatrix$Network" "costs" "[I" ∈ wsX3_costOver := by decide +kernel
  have f_3 : Cond.fieldLink RX3 15 "TrafficMatrix$Network" "targets" "[I" ∈ wsX3_costOver := by decide +kernel
  show vV K (gX Y) u [(0, .ref (yA Y 1)), (1, .int (nI k))] [] 0
  refine v_aload_n 1 hE dX3_costOver_0 rfl rfl ?_
  refine gX_metrics 4 hE f_0 f_1 dX3_costOver_1 rfl ?_
  refine v_iload_n 5 hE dX3_costOver_4 rfl rfl ?_
  refine lX_met 6 hE (by omega) dX3_costOver_5 rfl ?_
  refine v_bipush 8 hE (v := nI 8) dX3_costOver_6 (by decide) rfl ?_
  refine v_imulN 9 hE dX3_costOver_8 rfl ?_
  refine v_iconst 10 hE (v := nI 1) dX3_costOver_9 (by decide) rfl ?_
  refine v_iaddN 11 hE dX3_costOver_10 rfl ?_
  refine v_aload_n 12 hE dX3_costOver_11 rfl rfl ?_
  refine gX_costs 15 hE f_0 f_2 dX3_costOver_12 rfl ?_
  refine v_aload_n 16 hE dX3_costOver_15 rfl rfl ?_
  refine gX_targets 19 hE f_0 f_3 dX3_costOver_16 rfl ?_
  refine v_iload_n 20 hE dX3_costOver_19 rfl rfl ?_
  refine lX_tgt 21 hE (by omega) dX3_costOver_20 rfl ?_
  refine lX_cost 22 hE (htgt k) dX3_costOver_21 rfl ?_
  refine v_iaddN 23 hE dX3_costOver_22 rfl ?_
  exact (hret _ _ dX3_costOver_23).cast rfl (rI (by simp []))
set_option maxRecDepth 100000 in
set_option maxHeartbeats 4000000 in
theorem kX3_findCostsTo (l : Launch) (Y : yG) (u : XS) (t : Nat) (hok : okN u) (ht : t < 5) : mV l (gX Y) yX3_findCostsTo wsX3_findCostsTo ({ frames := 1, cells := 0, slots := 0, locals := 23 }) [.ref (yA Y 1), .int (nI t)] u (xs_cost u (costsTo (wX (x_met u)) (x_src u) (x_tgt u) (x_m u) 4 t)) := by
  obtain ⟨hn, hm, hsrc, htgt, hmet, hlen, hlnk⟩ := id hok
  refine mV_of (cc := cX3_findCostsTo) (nL := 5) (own := RX3) (by decide) rfl rfl (fun v => cX_geo Y _ v) (Nat.le_of_ble_eq_true rfl) ?_
  intro K hKl hE hret
  have f_0 : ∀ w ∈ u_ws RX3 TX3 8, w ∈ wsX3_findCostsTo := by decide +kernel
  have f_1 : Cond.fieldLink RX3 29 "TrafficMatrix$Network" "costs" "[I" ∈ wsX3_findCostsTo := by decide +kernel
  have f_2 : Jvm.Cond.constant RX3 60 1000000 ∈ wsX3_findCostsTo := by decide +kernel
  have f_3 : Cond.fieldLink RX3 36 "TrafficMatrix$Network" "linkCount" "I" ∈ wsX3_findCostsTo := by decide +kernel
  have f_4 : Cond.fieldLink RX3 9 "TrafficMatrix$Network" "sources" "[I" ∈ wsX3_findCostsTo := by decide +kernel
  have f_5 : Cond.methodLink RX3 65 Lib.Math.min.name ∈ wsX3_findCostsTo := by decide +kernel
  have f_6 : Cond.static Lib.Math.min.name ∈ wsX3_findCostsTo := by decide +kernel
  have f_7 : Cond.initialized "java/lang/Math" ∈ wsX3_findCostsTo := by decide +kernel
  have f_8 : Cond.code Lib.Math.min.name Lib.Math.min.code 2 (some .int) ∈ wsX3_findCostsTo := by decide +kernel
  show vV K (gX Y) u [(0, .ref (yA Y 1)), (1, .int (nI t))] [] 0
  refine v_aload_n 1 hE dX3_findCostsTo_0 rfl rfl ?_
  refine gX_costs 4 hE f_0 f_1 dX3_findCostsTo_1 rfl ?_
  refine v_ldc 6 hE (v := nI 1000000) f_2 dX3_findCostsTo_4 rfl ?_
  refine fX_cost 9 hE gX3_findCostsTo_J7_fill_53178 ⟨by decide, by decide⟩ (Nat.le_of_ble_eq_true rfl) dX3_findCostsTo_6 rfl ?_
  refine v_aload_n 10 hE dX3_findCostsTo_9 rfl rfl ?_
  refine gX_costs 13 hE f_0 f_1 dX3_findCostsTo_10 rfl ?_
  refine v_iload_n 14 hE dX3_findCostsTo_13 rfl rfl ?_
  refine v_iconst 15 hE (v := nI 0) dX3_findCostsTo_14 (by decide) rfl ?_
  refine sX_cost 16 hE (by omega) dX3_findCostsTo_15 rfl ?_
  refine v_iconst 17 hE (v := nI 0) dX3_findCostsTo_16 (by decide) rfl ?_
  refine v_istore_n 18 hE [_, _, _] dX3_findCostsTo_17 rfl (by decide) rfl rfl ?_
  refine vV.sub [1, 2, 0] rfl ?_
  have L18 : ∀ (n18 : Nat) (h : Nat) (c : Nat → Nat), (h ≤ 4) → (c = roundsN (wX (x_met u)) (x_src u) (x_tgt u) (x_m u) h (va_up (fun _ => 1000000) t 0)) → 4 + 1 ≤ h + n18 → vV K (gX Y) (xs_cost u c) [(0, .ref (yA Y 1)), (1, .int (nI t)), (2, .int (nI h))] [] 18 := by
    intro n18
    induction n18 with
    | zero => intro h c hh hc hfu18; exact absurd hfu18 (by omega)
    | succ n18 ih18 =>
      intro h c hh hc hfu18
      refine v_iload_n 19 hE dX3_findCostsTo_18 rfl rfl ?_
      refine v_iconst 20 hE (v := nI 4) dX3_findCostsTo_19 (by decide) rfl ?_
      refine v_ic_geN 23 hE 75 dX3_findCostsTo_20 (by decide) (by omega) (by omega) rfl (fun c20 => ?_) (fun c20 => ?_)
      · exact (hret _ _ dX3_findCostsTo_75).cast (by rw [hc, show h = 4 by omega]; rfl) rfl
      · refine v_iconst 24 hE (v := nI 0) dX3_findCostsTo_23 (by decide) rfl ?_
        refine v_istore_n 25 hE [_, _, _, _] dX3_findCostsTo_24 rfl (by decide) rfl rfl ?_
        refine vV.sub [1, 2, 3, 0] rfl ?_
        have L25 : ∀ (n25 : Nat) (k : Nat) (d : Nat → Nat), (k ≤ x_m u) → (d = relaxN (wX (x_met u)) (x_src u) (x_tgt u) k c) → x_m u + 1 ≤ k + n25 → vV K (gX Y) (xs_cost u d) [(0, .ref (yA Y 1)), (1, .int (nI t)), (2, .int (nI h)), (3, .int (nI k))] [] 25 := by
          intro n25
          induction n25 with
          | zero => intro k d hk hd hfu25; exact absurd hfu25 (by omega)
          | succ n25 ih25 =>
            intro k d hk hd hfu25
            refine v_iload_n 26 hE dX3_findCostsTo_25 rfl rfl ?_
            refine v_aload_n 27 hE dX3_findCostsTo_26 rfl rfl ?_
            refine gX_linkCount 30 hE f_0 f_3 dX3_findCostsTo_27 rfl ?_
            show vV K (gX Y) _ _ (.int (nI (x_m u)) :: _) _
            refine v_ic_geN 33 hE 69 dX3_findCostsTo_30 (by decide) (by omega) (by omega) rfl (fun c30 => ?_) (fun c30 => ?_)
            · refine v_iincN 72 hE [_, _, _, _] dX3_findCostsTo_69 rfl (by decide) rfl rfl ?_
              refine v_goto hE 18 dX3_findCostsTo_72 (by decide) ?_
              refine vV.sub [1, 2, 0] rfl ?_
              exact ih18 _ _ (by omega) (by rw [hd, hc, show k = x_m u by omega]; rfl) (by omega)
            · have hdb : ∀ v, d v ≤ 1000000 := by rw [hd, hc]; exact relaxN_le (roundsN_le (costs0_le t) h) k
              refine v_aload_n 34 hE dX3_findCostsTo_33 rfl rfl ?_
              refine gX_sources 37 hE f_0 f_4 dX3_findCostsTo_34 rfl ?_
              refine v_iload_n 38 hE dX3_findCostsTo_37 rfl rfl ?_
              refine lX_src 39 hE (by omega) dX3_findCostsTo_38 rfl ?_
              show vV K (gX Y) _ _ (.int (nI ((x_src u) _)) :: _) _
              refine v_istore 41 hE [_, _, _, _, _] dX3_findCostsTo_39 (by decide) rfl rfl ?_
              refine v_aload_n 42 hE dX3_findCostsTo_41 rfl rfl ?_
              refine gX_costs 45 hE f_0 f_1 dX3_findCostsTo_42 rfl ?_
              refine v_iload 47 hE dX3_findCostsTo_45 rfl rfl ?_
              refine v_aload_n 48 hE dX3_findCostsTo_47 rfl rfl ?_
              refine gX_costs 51 hE f_0 f_1 dX3_findCostsTo_48 rfl ?_
              refine v_iload 53 hE dX3_findCostsTo_51 rfl rfl ?_
              refine lX_cost 54 hE (hsrc k) dX3_findCostsTo_53 rfl ?_
              show vV K (gX Y) _ _ (.int (nI ((d) _)) :: _) _
              refine v_aload_n 55 hE dX3_findCostsTo_54 rfl rfl ?_
              refine v_iload_n 56 hE dX3_findCostsTo_55 rfl rfl ?_
              refine v_ciE 59 hE (v_runV 1 hE (vSub.self hE) (kX3_costOver _ Y _ _ hok (by omega)) gX3_findCostsTo_X3_costOver rfl (by decide +kernel) rfl (q0 := 1) rfl rfl ⟨rfl, rfl, by decide, by decide⟩ rfl (Nat.le_of_ble_eq_true rfl) dX3_findCostsTo_56) rfl ?_
              show vV K (gX Y) _ _ (.int (nI (x_met u _ * 8 + 1 + d (x_tgt u _))) :: _) _
              have := hdb (x_src u k)
              have := hdb (x_tgt u k)
              have := hmet k
              refine v_minN 62 hE f_5 f_6 f_7 f_8 ⟨by decide, Nat.le_of_ble_eq_true rfl⟩ (by omega) (by omega) dX3_findCostsTo_59 rfl ?_
              refine sX_cost 63 hE (hsrc k) dX3_findCostsTo_62 rfl ?_
              refine v_iincN 66 hE [_, _, _, _, _] dX3_findCostsTo_63 rfl (by decide) rfl rfl ?_
              refine v_goto hE 25 dX3_findCostsTo_66 (by decide) ?_
              refine vV.sub [2, 3, 4, 0] rfl ?_
              exact ih25 _ _ (by omega) (by rw [hd]; rfl) (by omega)
        exact L25 (x_m u + 1) _ _ (by omega) rfl (by omega)
  exact L18 (4 + 1) _ _ (by omega) rfl (by omega)
set_option maxRecDepth 100000 in
set_option maxHeartbeats 4000000 in
theorem kX3_cheapestFrom (l : Launch) (Y : yG) (u : XS) (v : Nat) (hok : okN u) (hv : v < 5) (hc : ∀ q, x_cost u q ≤ 1000000) : mI l (gX Y) yX3_cheapestFrom wsX3_cheapestFrom ({ frames := 1, cells := 0, slots := 0, locals := 21 }) [.ref (yA Y 1), .int (nI v)] u (oI (-1) (nxtX (x_cost u) (wX (x_met u)) (x_src u) (x_tgt u) (x_m u) v)) u := by
  obtain ⟨hn, hm, hsrc, htgt, hmet, hlen, hlnk⟩ := id hok
  refine mI_of (cc := cX3_cheapestFrom) (nL := 3) (own := RX3) (by decide) rfl rfl (fun v => cX_geo Y _ v) (Nat.le_of_ble_eq_true rfl) ?_
  intro K hKl hE hret
  have f_0 : ∀ w ∈ u_ws RX3 TX3 8, w ∈ wsX3_cheapestFrom := by decide +kernel
  have f_1 : Cond.fieldLink RX3 29 "TrafficMatrix$Network" "costs" "[I" ∈ wsX3_cheapestFrom := by decide +kernel
  have f_2 : Jvm.Cond.constant RX3 60 1000000 ∈ wsX3_cheapestFrom := by decide +kernel
  have f_3 : Cond.fieldLink RX3 36 "TrafficMatrix$Network" "linkCount" "I" ∈ wsX3_cheapestFrom := by decide +kernel
  have f_4 : Cond.fieldLink RX3 9 "TrafficMatrix$Network" "sources" "[I" ∈ wsX3_cheapestFrom := by decide +kernel
  show vV K (gX Y) u [(0, .ref (yA Y 1)), (1, .int (nI v))] [] 0
  refine v_aload_n 1 hE dX3_cheapestFrom_0 rfl rfl ?_
  refine gX_costs 4 hE f_0 f_1 dX3_cheapestFrom_1 rfl ?_
  refine v_iload_n 5 hE dX3_cheapestFrom_4 rfl rfl ?_
  refine lX_cost 6 hE (by omega) dX3_cheapestFrom_5 rfl ?_
  refine v_ldc 8 hE (v := nI 1000000) f_2 dX3_cheapestFrom_6 rfl ?_
  have := hc v
  refine v_ic_ltN 11 hE 13 dX3_cheapestFrom_8 (by decide) (by omega) (by omega) rfl (fun c8 => ?_) (fun c8 => ?_)
  · refine v_iconst 14 hE (v := nI 0) dX3_cheapestFrom_13 (by decide) rfl ?_
    refine v_istore_n 15 hE [_, _, _] dX3_cheapestFrom_14 rfl (by decide) rfl rfl ?_
    refine vV.sub [1, 2, 0] rfl ?_
    have L15 : ∀ (n15 : Nat) (i : Nat), (i ≤ x_m u) → (∀ j, j < i → (decide (x_src u j = v) && decide (wX (x_met u) j + x_cost u (x_tgt u j) = x_cost u v)) = false) → x_m u + 1 ≤ i + n15 → vV K (gX Y) u [(0, .ref (yA Y 1)), (1, .int (nI v)), (2, .int (nI i))] [] 15 := by
      intro n15
      induction n15 with
      | zero => intro i hi hno hfu15; exact absurd hfu15 (by omega)
      | succ n15 ih15 =>
        intro i hi hno hfu15
        refine v_iload_n 16 hE dX3_cheapestFrom_15 rfl rfl ?_
        refine v_aload_n 17 hE dX3_cheapestFrom_16 rfl rfl ?_
        refine gX_linkCount 20 hE f_0 f_3 dX3_cheapestFrom_17 rfl ?_
        refine v_ic_geN 23 hE 55 dX3_cheapestFrom_20 (by decide) (by omega) (by omega) rfl (fun c20 => ?_) (fun c20 => ?_)
        · refine v_iconst 56 hE (v := -1) dX3_cheapestFrom_55 (by decide) rfl ?_
          exact (hret _ _ dX3_cheapestFrom_56).cast rfl (rI (by rw [nxtX, if_neg (by omega), fstN_none.mpr (fun j hj => hno j (by omega))]; rfl))
        · refine v_aload_n 24 hE dX3_cheapestFrom_23 rfl rfl ?_
          refine gX_sources 27 hE f_0 f_4 dX3_cheapestFrom_24 rfl ?_
          refine v_iload_n 28 hE dX3_cheapestFrom_27 rfl rfl ?_
          refine lX_src 29 hE (by omega) dX3_cheapestFrom_28 rfl ?_
          refine v_iload_n 30 hE dX3_cheapestFrom_29 rfl rfl ?_
          have := hsrc i
          refine v_ic_neN 33 hE 49 dX3_cheapestFrom_30 (by decide) (by omega) (by omega) rfl (fun c30 => ?_) (fun c30 => ?_)
          · refine v_iincN 52 hE [_, _, _] dX3_cheapestFrom_49 rfl (by decide) rfl rfl ?_
            refine v_goto hE 15 dX3_cheapestFrom_52 (by decide) ?_
            refine vV.sub [1, 2, 0] rfl ?_
            exact ih15 _ (by omega) (by intro j hj; by_cases e : j = i; (subst e; simp [wX, c20, c30]); exact hno j (by omega)) (by omega)
          · refine v_aload_n 34 hE dX3_cheapestFrom_33 rfl rfl ?_
            refine v_iload_n 35 hE dX3_cheapestFrom_34 rfl rfl ?_
            refine v_ciE 38 hE (v_runV 1 hE (vSub.self hE) (kX3_costOver _ Y _ _ hok (by omega)) gX3_cheapestFrom_X3_costOver rfl (by decide +kernel) rfl (q0 := 1) rfl rfl ⟨rfl, rfl, by decide, by decide⟩ rfl (Nat.le_of_ble_eq_true rfl) dX3_cheapestFrom_35) rfl ?_
            refine v_aload_n 39 hE dX3_cheapestFrom_38 rfl rfl ?_
            refine gX_costs 42 hE f_0 f_1 dX3_cheapestFrom_39 rfl ?_
            refine v_iload_n 43 hE dX3_cheapestFrom_42 rfl rfl ?_
            refine lX_cost 44 hE (by omega) dX3_cheapestFrom_43 rfl ?_
            have := hc v
            have := hc (x_tgt u i)
            have := hmet i
            refine v_ic_neN 47 hE 49 dX3_cheapestFrom_44 (by decide) (by omega) (by omega) rfl (fun c44 => ?_) (fun c44 => ?_)
            · refine v_iincN 52 hE [_, _, _] dX3_cheapestFrom_49 rfl (by decide) rfl rfl ?_
              refine v_goto hE 15 dX3_cheapestFrom_52 (by decide) ?_
              refine vV.sub [1, 2, 0] rfl ?_
              exact ih15 _ (by omega) (by intro j hj; by_cases e : j = i; (subst e; simp [wX, c20, c30, c44]); exact hno j (by omega)) (by omega)
            · refine v_iload_n 48 hE dX3_cheapestFrom_47 rfl rfl ?_
              exact (hret _ _ dX3_cheapestFrom_48).cast rfl (rI (by rw [nxtX, if_neg (by omega), fstN_some.mpr ⟨by omega, by simp [wX, c30, c44], hno⟩]; rfl))
    exact L15 (x_m u + 1) _ (by omega) (by intro j hj; omega) (by omega)
  · refine v_iconst 12 hE (v := -1) dX3_cheapestFrom_11 (by decide) rfl ?_
    exact (hret _ _ dX3_cheapestFrom_12).cast rfl (rI (by rw [nxtX, if_pos c8]; rfl))
set_option maxRecDepth 100000 in
set_option maxHeartbeats 4000000 in
theorem kX3_findRoute (l : Launch) (Y : yG) (u : XS) (s t : Nat) (hok : okN u) (hs : s < 5) (ht : t < 5) (hc : ∀ q, x_cost u q ≤ 1000000) : mV l (gX Y) yX3_findRoute wsX3_findRoute ({ frames := 2, cells := 0, slots := 0, locals := 43 }) [.ref (yA Y 1), .int (nI s), .int (nI t)] u (xR u (x_cost u, rt1 (nxtX (x_cost u) (wX (x_met u)) (x_src u) (x_tgt u) (x_m u)) (x_tgt u) t s (x_len u, x_lnk u))) := by
  obtain ⟨hn, hm, hsrc, htgt, hmet, hlen, hlnk⟩ := id hok
  obtain ⟨R, hR⟩ : ∃ R, (walkN (nxtX (x_cost u) (wX (x_met u)) (x_src u) (x_tgt u) (x_m u)) (x_tgt u) t 4 s 0 (x_lnk u (s * 5 + t))) = R := ⟨_, rfl⟩
  show mV l (gX Y) _ _ _ _ u (xR u (x_cost u, (va_up (x_len u) (s * 5 + t) (if (walkN (nxtX (x_cost u) (wX (x_met u)) (x_src u) (x_tgt u) (x_m u)) (x_tgt u) t 4 s 0 (x_lnk u (s * 5 + t))).1 = t then (walkN (nxtX (x_cost u) (wX (x_met u)) (x_src u) (x_tgt u) (x_m u)) (x_tgt u) t 4 s 0 (x_lnk u (s * 5 + t))).2.1 else 0), va_up (x_lnk u) (s * 5 + t) (walkN (nxtX (x_cost u) (wX (x_met u)) (x_src u) (x_tgt u) (x_m u)) (x_tgt u) t 4 s 0 (x_lnk u (s * 5 + t))).2.2)))
  rw [hR]
  refine mV_of (cc := cX3_findRoute) (nL := 7) (own := RX3) (by decide) rfl rfl (fun v => cX_geo Y _ v) (Nat.le_of_ble_eq_true rfl) ?_
  intro K hKl hE hret
  have f_0 : Cond.initialized (yX4_slotOf).cls ∈ wsX3_findRoute := by decide +kernel
  have f_1 : Cond.static yX4_slotOf ∈ wsX3_findRoute := by decide +kernel
  have f_2 : ∀ w ∈ u_ws RX3 TX3 8, w ∈ wsX3_findRoute := by decide +kernel
  have f_3 : Cond.fieldLink RX3 21 "TrafficMatrix$Network" "routeLengths" "[I" ∈ wsX3_findRoute := by decide +kernel
  have f_4 : Cond.fieldLink RX3 26 "TrafficMatrix$Network" "routeLinks" "[[I" ∈ wsX3_findRoute := by decide +kernel
  have f_5 : Cond.fieldLink RX3 15 "TrafficMatrix$Network" "targets" "[I" ∈ wsX3_findRoute := by decide +kernel
  show vV K (gX Y) u [(0, .ref (yA Y 1)), (1, .int (nI s)), (2, .int (nI t))] [] 0
  refine v_iload_n 1 hE dX3_findRoute_0 rfl rfl ?_
  refine v_iload_n 2 hE dX3_findRoute_1 rfl rfl ?_
  refine v_ciE 5 hE (v_runSN 2 hE (vSub.self hE) (host := "TrafficMatrix") (kX4_slotOf _ Y _ _ _) gX3_findRoute_X4_slotOf_n71 (List.mem_of_getElem? (i := 0) rfl) f_0 f_1 rfl (by decide +kernel) rfl ⟨rfl, rfl, by decide, by decide⟩ rfl (Nat.le_of_ble_eq_true rfl) dX3_findRoute_2) rfl ?_
  refine v_istore_n 6 hE [_, _, _, _] dX3_findRoute_5 rfl (by decide) rfl rfl ?_
  refine v_iconst 7 hE (v := nI 0) dX3_findRoute_6 (by decide) rfl ?_
  refine v_istore 9 hE [_, _, _, _, _] dX3_findRoute_7 (by decide) rfl rfl ?_
  refine v_iload_n 10 hE dX3_findRoute_9 rfl rfl ?_
  refine v_istore 12 hE [_, _, _, _, _, _] dX3_findRoute_10 (by decide) rfl rfl ?_
  refine vV.sub [3, 4, 5, 2, 1, 0] rfl ?_
  have L12 : ∀ (n12 len v : Nat) (row : Nat → Nat), len ≤ 4 → v < 5 → walkN (nxtX (x_cost u) (wX (x_met u)) (x_src u) (x_tgt u) (x_m u)) (x_tgt u) t (4 - len) v len row = R → (∀ j, row j < 12) → 5 ≤ len + n12 → vV K (gX Y) (xs_lnk u (va_up (x_lnk u) (s * 5 + t) row)) [(0, .ref (yA Y 1)), (1, .int (nI s)), (2, .int (nI t)), (3, .int (nI (s * 5 + t))), (4, .int (nI len)), (5, .int (nI v))] [] 12 := by
    intro n12
    induction n12 with
    | zero => intro len v row h1 h2 h3 h4 h5; exact absurd h5 (by omega)
    | succ n12 ih12 =>
      intro len v row hl hv hF hrow hfu
      refine v_iload 14 hE dX3_findRoute_12 rfl rfl ?_
      refine v_iload_n 15 hE dX3_findRoute_14 rfl rfl ?_
      refine v_ic_eqN 18 hE 67 dX3_findRoute_15 (by decide) (by omega) (by omega) rfl (fun c15 => ?_) (fun c15 => ?_)
      · have hz : R = (v, len, row) := by first | (rw [← hF, walkN_t c15]; done) | (rw [← hF, show 4 - len = 0 by omega]; rfl) | (rw [← hF, walkN_none hq]; done)
        subst hz
        refine v_aload_n 68 hE dX3_findRoute_67 rfl rfl ?_
        refine gX_routeLengths 71 hE f_2 f_3 dX3_findRoute_68 rfl ?_
        refine v_iload_n 72 hE dX3_findRoute_71 rfl rfl ?_
        refine v_iload 74 hE dX3_findRoute_72 rfl rfl ?_
        refine v_iload_n 75 hE dX3_findRoute_74 rfl rfl ?_
        refine v_ic_neN 78 hE 83 dX3_findRoute_75 (by decide) (by omega) (by omega) rfl (fun c75 => ?_) (fun c75 => ?_)
        · refine v_iconst 84 hE (v := nI 0) dX3_findRoute_83 (by decide) rfl ?_
          refine sX_len 85 hE (by omega) dX3_findRoute_84 rfl ?_
          exact (hret _ _ dX3_findRoute_85).cast (by first | (rw [if_pos c75]; done) | (rw [if_neg c75]; done)) rfl
        · refine v_iload 80 hE dX3_findRoute_78 rfl rfl ?_
          refine v_goto hE 84 dX3_findRoute_80 (by decide) ?_
          refine sX_len 85 hE (by omega) dX3_findRoute_84 rfl ?_
          exact (hret _ _ dX3_findRoute_85).cast (by first | (rw [if_pos c75]; done) | (rw [if_neg c75]; done)) rfl
      · refine v_iload 20 hE dX3_findRoute_18 rfl rfl ?_
        refine v_iconst 21 hE (v := nI 4) dX3_findRoute_20 (by decide) rfl ?_
        refine v_ic_geN 24 hE 67 dX3_findRoute_21 (by decide) (by omega) (by omega) rfl (fun c21 => ?_) (fun c21 => ?_)
        · have hz : R = (v, len, row) := by first | (rw [← hF, walkN_t c15]; done) | (rw [← hF, show 4 - len = 0 by omega]; rfl) | (rw [← hF, walkN_none hq]; done)
          subst hz
          refine v_aload_n 68 hE dX3_findRoute_67 rfl rfl ?_
          refine gX_routeLengths 71 hE f_2 f_3 dX3_findRoute_68 rfl ?_
          refine v_iload_n 72 hE dX3_findRoute_71 rfl rfl ?_
          refine v_iload 74 hE dX3_findRoute_72 rfl rfl ?_
          refine v_iload_n 75 hE dX3_findRoute_74 rfl rfl ?_
          refine v_ic_neN 78 hE 83 dX3_findRoute_75 (by decide) (by omega) (by omega) rfl (fun c75 => ?_) (fun c75 => ?_)
          · refine v_iconst 84 hE (v := nI 0) dX3_findRoute_83 (by decide) rfl ?_
            refine sX_len 85 hE (by omega) dX3_findRoute_84 rfl ?_
            exact (hret _ _ dX3_findRoute_85).cast (by first | (rw [if_pos c75]; done) | (rw [if_neg c75]; done)) rfl
          · refine v_iload 80 hE dX3_findRoute_78 rfl rfl ?_
            refine v_goto hE 84 dX3_findRoute_80 (by decide) ?_
            refine sX_len 85 hE (by omega) dX3_findRoute_84 rfl ?_
            exact (hret _ _ dX3_findRoute_85).cast (by first | (rw [if_pos c75]; done) | (rw [if_neg c75]; done)) rfl
        · refine v_aload_n 25 hE dX3_findRoute_24 rfl rfl ?_
          refine v_iload 27 hE dX3_findRoute_25 rfl rfl ?_
          refine v_ciE 30 hE (v_runV 1 hE (vSub.self hE) (kX3_cheapestFrom _ Y _ _ (okN_R hok (z := (x_cost u, x_len u, va_up (x_lnk u) (s * 5 + t) row)) ⟨hlen, fun q j => by show (va_up (x_lnk u) (s * 5 + t) row : Nat → Nat → Nat) q j < 12; unfold va_up; split; exact hrow j; exact hlnk q j⟩) (by omega) hc) gX3_findRoute_X3_cheapestFrom rfl (by decide +kernel) rfl (q0 := 1) rfl rfl ⟨rfl, rfl, by decide, by decide⟩ rfl (Nat.le_of_ble_eq_true rfl) dX3_findRoute_27) rfl ?_
          show vV K (gX Y) _ _ (.int (oI (-1) (nxtX (x_cost u) (wX (x_met u)) (x_src u) (x_tgt u) (x_m u) _)) :: _) _
          refine v_istore 32 hE [_, _, _, _, _, _, _] dX3_findRoute_30 (by decide) rfl rfl ?_
          refine v_iload 34 hE dX3_findRoute_32 rfl rfl ?_
          refine v_iconst 35 hE (v := -1) dX3_findRoute_34 (by decide) rfl ?_
          refine v_ic_ne 38 hE 41 dX3_findRoute_35 (by decide) rfl (fun c35 => ?_) (fun c35 => ?_)
          · obtain ⟨q, hq⟩ := oI_some c35
            have hq12 := nxtX_lt hq
            rw [hq]
            show vV K (gX Y) _ [(6, .int (nI q)), _, _, _, _, _, _] _ _
            refine v_aload_n 42 hE dX3_findRoute_41 rfl rfl ?_
            refine gX_routeLinks 45 hE f_2 f_4 dX3_findRoute_42 rfl ?_
            refine v_iload_n 46 hE dX3_findRoute_45 rfl rfl ?_
            refine rX_lnk 47 hE (by omega) dX3_findRoute_46 rfl ?_
            refine v_iload 49 hE dX3_findRoute_47 rfl rfl ?_
            refine v_iload 51 hE dX3_findRoute_49 rfl rfl ?_
            refine sX_lnk 52 hE (by omega) (by omega) dX3_findRoute_51 rfl ?_
            refine v_iincN 55 hE [_, _, _, _, _, _, _] dX3_findRoute_52 rfl (by decide) rfl rfl ?_
            refine v_aload_n 56 hE dX3_findRoute_55 rfl rfl ?_
            refine gX_targets 59 hE f_2 f_5 dX3_findRoute_56 rfl ?_
            refine v_iload 61 hE dX3_findRoute_59 rfl rfl ?_
            refine lX_tgt 62 hE (by omega) dX3_findRoute_61 rfl ?_
            show vV K (gX Y) _ _ (.int (nI ((x_tgt u) _)) :: _) _
            refine v_istore 64 hE [_, _, _, _, _, _, _] dX3_findRoute_62 (by decide) rfl rfl ?_
            refine v_goto hE 12 dX3_findRoute_64 (by decide) ?_
            refine vV.sub [3, 4, 5, 6, 1, 0] rfl ?_
            exact (ih12 _ _ (va_up row len q) (by omega) (htgt _) (by rw [← hF, show 4 - len = (4 - (len + 1)) + 1 by omega, walkN_some hq c15]) (fun j => by unfold va_up; split; omega; exact hrow j) (by omega)).cast (congrArg (xs_lnk u) (up_2 (x_lnk u) (s * 5 + t) row len q)) rfl
          · have hq := oI_none (fun k hk => Nat.lt_of_lt_of_le (nxtX_lt hk) (Nat.le_trans hm (by decide))) c35
            refine v_goto hE 67 dX3_findRoute_38 (by decide) ?_
            have hz : R = (v, len, row) := by first | (rw [← hF, walkN_t c15]; done) | (rw [← hF, show 4 - len = 0 by omega]; rfl) | (rw [← hF, walkN_none hq]; done)
            subst hz
            refine v_aload_n 68 hE dX3_findRoute_67 rfl rfl ?_
            refine gX_routeLengths 71 hE f_2 f_3 dX3_findRoute_68 rfl ?_
            refine v_iload_n 72 hE dX3_findRoute_71 rfl rfl ?_
            refine v_iload 74 hE dX3_findRoute_72 rfl rfl ?_
            refine v_iload_n 75 hE dX3_findRoute_74 rfl rfl ?_
            refine v_ic_neN 78 hE 83 dX3_findRoute_75 (by decide) (by omega) (by omega) rfl (fun c75 => ?_) (fun c75 => ?_)
            · refine v_iconst 84 hE (v := nI 0) dX3_findRoute_83 (by decide) rfl ?_
              refine sX_len 85 hE (by omega) dX3_findRoute_84 rfl ?_
              exact (hret _ _ dX3_findRoute_85).cast (by first | (rw [if_pos c75]; done) | (rw [if_neg c75]; done)) rfl
            · refine v_iload 80 hE dX3_findRoute_78 rfl rfl ?_
              refine v_goto hE 84 dX3_findRoute_80 (by decide) ?_
              refine sX_len 85 hE (by omega) dX3_findRoute_84 rfl ?_
              exact (hret _ _ dX3_findRoute_85).cast (by first | (rw [if_pos c75]; done) | (rw [if_neg c75]; done)) rfl
  exact (L12 5 _ _ _ (by omega) (by omega) hR (hlnk _) (by omega)).cast (congrArg (xs_lnk u) (up_id (x_lnk u) (s * 5 + t)).symm) rfl
set_option maxRecDepth 100000 in
set_option maxHeartbeats 4000000 in
theorem kX3_findRoutes (l : Launch) (Y : yG) (u : XS)  (hok : okN u) : mV l (gX Y) yX3_findRoutes wsX3_findRoutes ({ frames := 3, cells := 0, slots := 0, locals := 69 }) [.ref (yA Y 1)] u (xRoutes u) := by
  obtain ⟨hn, hm, hsrc, htgt, hmet, hlen, hlnk⟩ := id hok
  refine mV_of (cc := cX3_findRoutes) (nL := 3) (own := RX3) (by decide) rfl rfl (fun v => cX_geo Y _ v) (Nat.le_of_ble_eq_true rfl) ?_
  intro K hKl hE hret
  have f_0 : ∀ w ∈ u_ws RX3 TX3 8, w ∈ wsX3_findRoutes := by decide +kernel
  have f_1 : Cond.fieldLink RX3 32 "TrafficMatrix$Network" "nodeCount" "I" ∈ wsX3_findRoutes := by decide +kernel
  show vV K (gX Y) u [(0, .ref (yA Y 1))] [] 0
  refine v_iconst 1 hE (v := nI 0) dX3_findRoutes_0 (by decide) rfl ?_
  refine v_istore_n 2 hE [_, _] dX3_findRoutes_1 rfl (by decide) rfl rfl ?_
  refine vV.sub [1, 0] rfl ?_
  have L2 : ∀ (n2 : Nat) (t : Nat) (z : (Nat → Nat) × rtL), (t ≤ x_n u) → (z = rtT (wX (x_met u)) (x_src u) (x_tgt u) (x_m u) (x_n u) t (x_cost u, x_len u, x_lnk u)) → x_n u + 1 ≤ t + n2 → vV K (gX Y) (xR u z) [(0, .ref (yA Y 1)), (1, .int (nI t))] [] 2 := by
    intro n2
    induction n2 with
    | zero => intro t z ht hz hfu2; exact absurd hfu2 (by omega)
    | succ n2 ih2 =>
      intro t z ht hz hfu2
      refine v_iload_n 3 hE dX3_findRoutes_2 rfl rfl ?_
      refine v_aload_n 4 hE dX3_findRoutes_3 rfl rfl ?_
      refine gX_nodeCount 7 hE f_0 f_1 dX3_findRoutes_4 rfl ?_
      show vV K (gX Y) _ _ (.int (nI (x_n u)) :: _) _
      refine v_ic_geN 10 hE 43 dX3_findRoutes_7 (by decide) (by omega) (by omega) rfl (fun c7 => ?_) (fun c7 => ?_)
      · exact (hret _ _ dX3_findRoutes_43).cast (by rw [hz, show t = x_n u by omega]) rfl
      · refine v_aload_n 11 hE dX3_findRoutes_10 rfl rfl ?_
        refine v_iload_n 12 hE dX3_findRoutes_11 rfl rfl ?_
        refine v_cvE 15 hE (v_runV 1 hE (vSub.self hE) (kX3_findCostsTo _ Y (xR u z) _ (okN_R hok (by rw [hz]; exact rtT_ok hm ⟨hlen, hlnk⟩ t)) (by omega)) gX3_findRoutes_X3_findCostsTo rfl (by decide +kernel) rfl (q0 := 1) rfl rfl ⟨rfl, rfl, by decide, by decide⟩ rfl (Nat.le_of_ble_eq_true rfl) dX3_findRoutes_12) rfl ?_
        refine v_iconst 16 hE (v := nI 0) dX3_findRoutes_15 (by decide) rfl ?_
        refine v_istore_n 17 hE [_, _, _] dX3_findRoutes_16 rfl (by decide) rfl rfl ?_
        refine vV.sub [1, 2, 0] rfl ?_
        have L17 : ∀ (n17 : Nat) (s : Nat) (y : rtL), (s ≤ x_n u) → (y = rtN (nxtX (costsTo (wX (x_met u)) (x_src u) (x_tgt u) (x_m u) 4 t) (wX (x_met u)) (x_src u) (x_tgt u) (x_m u)) (x_tgt u) t s z.2) → x_n u + 1 ≤ s + n17 → vV K (gX Y) (xR u (costsTo (wX (x_met u)) (x_src u) (x_tgt u) (x_m u) 4 t, y)) [(0, .ref (yA Y 1)), (1, .int (nI t)), (2, .int (nI s))] [] 17 := by
          intro n17
          induction n17 with
          | zero => intro s y hs hy hfu17; exact absurd hfu17 (by omega)
          | succ n17 ih17 =>
            intro s y hs hy hfu17
            refine v_iload_n 18 hE dX3_findRoutes_17 rfl rfl ?_
            refine v_aload_n 19 hE dX3_findRoutes_18 rfl rfl ?_
            refine gX_nodeCount 22 hE f_0 f_1 dX3_findRoutes_19 rfl ?_
            show vV K (gX Y) _ _ (.int (nI (x_n u)) :: _) _
            refine v_ic_geN 25 hE 37 dX3_findRoutes_22 (by decide) (by omega) (by omega) rfl (fun c22 => ?_) (fun c22 => ?_)
            · refine v_iincN 40 hE [_, _, _] dX3_findRoutes_37 rfl (by decide) rfl rfl ?_
              refine v_goto hE 2 dX3_findRoutes_40 (by decide) ?_
              refine vV.sub [1, 0] rfl ?_
              exact ih2 _ _ (by omega) (by rw [hy, hz, show s = x_n u by omega]; rfl) (by omega)
            · refine v_aload_n 26 hE dX3_findRoutes_25 rfl rfl ?_
              refine v_iload_n 27 hE dX3_findRoutes_26 rfl rfl ?_
              refine v_iload_n 28 hE dX3_findRoutes_27 rfl rfl ?_
              refine v_cvE 31 hE (v_runV 2 hE (vSub.self hE) (kX3_findRoute _ Y (xR u (costsTo (wX (x_met u)) (x_src u) (x_tgt u) (x_m u) 4 t, y)) _ _ (okN_R hok (by rw [hy, hz]; exact rtN_ok (fun v l q => Nat.lt_of_lt_of_le (nxtX_lt q) hm) (rtT_ok hm ⟨hlen, hlnk⟩ t) s)) (by omega) (by omega) (fun q => costsTo_le _ _ _ _ _ _ q)) gX3_findRoutes_X3_findRoute rfl (by decide +kernel) rfl (q0 := 1) rfl rfl ⟨rfl, rfl, by decide, by decide⟩ rfl (Nat.le_of_ble_eq_true rfl) dX3_findRoutes_28) rfl ?_
              refine v_iincN 34 hE [_, _, _] dX3_findRoutes_31 rfl (by decide) rfl rfl ?_
              refine v_goto hE 17 dX3_findRoutes_34 (by decide) ?_
              refine vV.sub [1, 2, 0] rfl ?_
              exact ih17 _ _ (by omega) (by rw [hy]; rfl) (by omega)
        exact L17 (x_n u + 1) _ _ (by omega) rfl (by omega)
  exact L2 (x_n u + 1) 0 (x_cost u, x_len u, x_lnk u) (by omega) rfl (by omega)
set_option maxRecDepth 100000 in
set_option maxHeartbeats 4000000 in
theorem kX3_append (l : Launch) (Y : yG) (u : XS) (s t k : Nat) (hok : okN u) (hs : s < 5) (ht : t < 5) (hk : k ≤ 99) (hm2 : x_m u < 12) : mI l (gX Y) yX3_append wsX3_append ({ frames := 4, cells := 0, slots := 0, locals := 91 }) [.ref (yA Y 1), .int (nI s), .int (nI t), .int (nI k)] u (nI (x_m u)) (xRoutes (xs_m (xs_met (xs_tgt (xs_src u (va_up (x_src u) (x_m u) s)) (va_up (x_tgt u) (x_m u) t)) (va_up (x_met u) (x_m u) k)) (x_m u + 1))) := by
  obtain ⟨hn, hm, hsrc, htgt, hmet, hlen, hlnk⟩ := id hok
  refine mI_of (cc := cX3_append) (nL := 5) (own := RX3) (by decide) rfl rfl (fun v => cX_geo Y _ v) (Nat.le_of_ble_eq_true rfl) ?_
  intro K hKl hE hret
  have f_0 : ∀ w ∈ u_ws RX3 TX3 8, w ∈ wsX3_append := by decide +kernel
  have f_1 : Cond.fieldLink RX3 36 "TrafficMatrix$Network" "linkCount" "I" ∈ wsX3_append := by decide +kernel
  have f_2 : Cond.fieldLink RX3 9 "TrafficMatrix$Network" "sources" "[I" ∈ wsX3_append := by decide +kernel
  have f_3 : Cond.fieldLink RX3 15 "TrafficMatrix$Network" "targets" "[I" ∈ wsX3_append := by decide +kernel
  have f_4 : Cond.fieldLink RX3 18 "TrafficMatrix$Network" "metrics" "[I" ∈ wsX3_append := by decide +kernel
  show vV K (gX Y) u [(0, .ref (yA Y 1)), (1, .int (nI s)), (2, .int (nI t)), (3, .int (nI k))] [] 0
  refine v_aload_n 1 hE dX3_append_0 rfl rfl ?_
  refine gX_linkCount 4 hE f_0 f_1 dX3_append_1 rfl ?_
  refine v_istore 6 hE [_, _, _, _, _] dX3_append_4 (by decide) rfl rfl ?_
  refine v_aload_n 7 hE dX3_append_6 rfl rfl ?_
  refine gX_sources 10 hE f_0 f_2 dX3_append_7 rfl ?_
  refine v_iload 12 hE dX3_append_10 rfl rfl ?_
  refine v_iload_n 13 hE dX3_append_12 rfl rfl ?_
  refine sX_src 14 hE (by omega) dX3_append_13 rfl ?_
  refine v_aload_n 15 hE dX3_append_14 rfl rfl ?_
  refine gX_targets 18 hE f_0 f_3 dX3_append_15 rfl ?_
  refine v_iload 20 hE dX3_append_18 rfl rfl ?_
  refine v_iload_n 21 hE dX3_append_20 rfl rfl ?_
  refine sX_tgt 22 hE (by omega) dX3_append_21 rfl ?_
  refine v_aload_n 23 hE dX3_append_22 rfl rfl ?_
  refine gX_metrics 26 hE f_0 f_4 dX3_append_23 rfl ?_
  refine v_iload 28 hE dX3_append_26 rfl rfl ?_
  refine v_iload_n 29 hE dX3_append_28 rfl rfl ?_
  refine sX_met 30 hE (by omega) dX3_append_29 rfl ?_
  refine v_aload_n 31 hE dX3_append_30 rfl rfl ?_
  refine v_dup 32 hE dX3_append_31 rfl rfl ?_
  refine gX_linkCount 35 hE f_0 f_1 dX3_append_32 rfl ?_
  show vV K (gX Y) _ _ (.int (nI (x_m u)) :: _) _
  refine v_iconst 36 hE (v := nI 1) dX3_append_35 (by decide) rfl ?_
  refine v_iaddN 37 hE dX3_append_36 rfl ?_
  refine pX_linkCount 40 hE f_0 f_1 dX3_append_37 rfl ?_
  refine v_aload_n 41 hE dX3_append_40 rfl rfl ?_
  refine v_cvE 44 hE (v_runV 0 hE (vSub.self hE) (kX3_findRoutes _ Y _ ⟨hn, hm2, fun q => by show va_up (x_src u) _ _ q < 5; unfold va_up; split; omega; exact hsrc q, fun q => by show va_up (x_tgt u) _ _ q < 5; unfold va_up; split; omega; exact htgt q, fun q => by show va_up (x_met u) _ _ q ≤ 99; unfold va_up; split; omega; exact hmet q, hlen, hlnk⟩) gX3_append_X3_findRoutes rfl (by decide +kernel) rfl (q0 := 1) rfl rfl ⟨rfl, rfl, by decide, by decide⟩ rfl (Nat.le_of_ble_eq_true rfl) dX3_append_41) rfl ?_
  refine v_iload 46 hE dX3_append_44 rfl rfl ?_
  exact (hret _ _ dX3_append_46).cast rfl (rI (by simp []))
set_option maxRecDepth 100000 in
set_option maxHeartbeats 4000000 in
theorem kX3_replaceMetric (l : Launch) (Y : yG) (u : XS) (j k : Nat) (hok : okN u) (hj : j < 12) (hk : k ≤ 99) : mI l (gX Y) yX3_replaceMetric wsX3_replaceMetric ({ frames := 4, cells := 0, slots := 0, locals := 91 }) [.ref (yA Y 1), .int (nI j), .int (nI k)] u (nI (x_met u j)) (xRoutes (xs_met u (va_up (x_met u) j k))) := by
  obtain ⟨hn, hm, hsrc, htgt, hmet, hlen, hlnk⟩ := id hok
  refine mI_of (cc := cX3_replaceMetric) (nL := 4) (own := RX3) (by decide) rfl rfl (fun v => cX_geo Y _ v) (Nat.le_of_ble_eq_true rfl) ?_
  intro K hKl hE hret
  have f_0 : ∀ w ∈ u_ws RX3 TX3 8, w ∈ wsX3_replaceMetric := by decide +kernel
  have f_1 : Cond.fieldLink RX3 18 "TrafficMatrix$Network" "metrics" "[I" ∈ wsX3_replaceMetric := by decide +kernel
  show vV K (gX Y) u [(0, .ref (yA Y 1)), (1, .int (nI j)), (2, .int (nI k))] [] 0
  refine v_aload_n 1 hE dX3_replaceMetric_0 rfl rfl ?_
  refine gX_metrics 4 hE f_0 f_1 dX3_replaceMetric_1 rfl ?_
  refine v_iload_n 5 hE dX3_replaceMetric_4 rfl rfl ?_
  refine lX_met 6 hE (by omega) dX3_replaceMetric_5 rfl ?_
  refine v_istore_n 7 hE [_, _, _, _] dX3_replaceMetric_6 rfl (by decide) rfl rfl ?_
  refine v_aload_n 8 hE dX3_replaceMetric_7 rfl rfl ?_
  refine gX_metrics 11 hE f_0 f_1 dX3_replaceMetric_8 rfl ?_
  refine v_iload_n 12 hE dX3_replaceMetric_11 rfl rfl ?_
  refine v_iload_n 13 hE dX3_replaceMetric_12 rfl rfl ?_
  refine sX_met 14 hE (by omega) dX3_replaceMetric_13 rfl ?_
  refine v_aload_n 15 hE dX3_replaceMetric_14 rfl rfl ?_
  refine v_cvE 18 hE (v_runV 0 hE (vSub.self hE) (kX3_findRoutes _ Y _ ⟨hn, hm, hsrc, htgt, fun q => by show va_up (x_met u) _ _ q ≤ 99; unfold va_up; split; omega; exact hmet q, hlen, hlnk⟩) gX3_replaceMetric_X3_findRoutes rfl (by decide +kernel) rfl (q0 := 1) rfl rfl ⟨rfl, rfl, by decide, by decide⟩ rfl (Nat.le_of_ble_eq_true rfl) dX3_replaceMetric_15) rfl ?_
  refine v_iload_n 19 hE dX3_replaceMetric_18 rfl rfl ?_
  exact (hret _ _ dX3_replaceMetric_19).cast rfl (rI (by simp []))
set_option maxRecDepth 100000 in
set_option maxHeartbeats 4000000 in
theorem kX3_startAnew (l : Launch) (Y : yG) (u : XS) (k : Nat)  : mV l (gX Y) yX3_startAnew wsX3_startAnew ({ frames := 1, cells := 0, slots := 0, locals := 23 }) [.ref (yA Y 1), .int (nI k)] u (xs_len (xs_m (xs_n u k) 0) (fun _ => 0)) := by
  refine mV_of (cc := cX3_startAnew) (nL := 2) (own := RX3) (by decide) rfl rfl (fun v => cX_geo Y _ v) (Nat.le_of_ble_eq_true rfl) ?_
  intro K hKl hE hret
  have f_0 : ∀ w ∈ u_ws RX3 TX3 8, w ∈ wsX3_startAnew := by decide +kernel
  have f_1 : Cond.fieldLink RX3 32 "TrafficMatrix$Network" "nodeCount" "I" ∈ wsX3_startAnew := by decide +kernel
  have f_2 : Cond.fieldLink RX3 36 "TrafficMatrix$Network" "linkCount" "I" ∈ wsX3_startAnew := by decide +kernel
  have f_3 : Cond.fieldLink RX3 21 "TrafficMatrix$Network" "routeLengths" "[I" ∈ wsX3_startAnew := by decide +kernel
  show vV K (gX Y) u [(0, .ref (yA Y 1)), (1, .int (nI k))] [] 0
  refine v_aload_n 1 hE dX3_startAnew_0 rfl rfl ?_
  refine v_iload_n 2 hE dX3_startAnew_1 rfl rfl ?_
  refine pX_nodeCount 5 hE f_0 f_1 dX3_startAnew_2 rfl ?_
  refine v_aload_n 6 hE dX3_startAnew_5 rfl rfl ?_
  refine v_iconst 7 hE (v := nI 0) dX3_startAnew_6 (by decide) rfl ?_
  refine pX_linkCount 10 hE f_0 f_2 dX3_startAnew_7 rfl ?_
  refine v_aload_n 11 hE dX3_startAnew_10 rfl rfl ?_
  refine gX_routeLengths 14 hE f_0 f_3 dX3_startAnew_11 rfl ?_
  refine v_iconst 15 hE (v := nI 0) dX3_startAnew_14 (by decide) rfl ?_
  refine fX_len 18 hE gX3_startAnew_J7_fill_53178 ⟨by decide, by decide⟩ (Nat.le_of_ble_eq_true rfl) dX3_startAnew_15 rfl ?_
  exact (hret _ _ dX3_startAnew_18).cast rfl rfl
