/-! a call at a time: the same answer, and the states stay together -/
theorem i32_le {x y : Int32} : x ≤ y ↔ x.toInt ≤ y.toInt := Int32.le_iff_toInt_le
theorem i32_lt {x y : Int32} : x < y ↔ x.toInt < y.toInt := Int32.lt_iff_toInt_lt
theorem isIn_alt {α : Type} (lo hi : Nat) (k : Int32) (A B : α) : (if k < nI lo then A else if k ≤ nI hi then B else A) = if isIn lo hi k then B else A := by
  unfold isIn
  by_cases h1 : k < nI lo
  · rw [if_pos h1, if_pos h1]; rfl
  · rw [if_neg h1, if_neg h1]
    by_cases h2 : k ≤ nI hi
    · have h3 : ¬ nI hi < k := fun x => by rw [i32_lt] at x; rw [i32_le] at h2; omega
      rw [if_pos h2, if_neg h3]; rfl
    · have h3 : nI hi < k := by rw [i32_lt]; rw [i32_le] at h2; omega
      rw [if_neg h2, if_pos h3]; rfl
theorem isIn_alt0 {α : Type} (hi : Nat) (k : Int32) (A B : α) : (if k < 0 then A else if k ≤ nI hi then B else A) = if isIn 0 hi k then B else A := by
  rw [← nI_0]; exact isIn_alt 0 hi k A B
section OPS
variable {u : XS} {w : MS}
theorem Rel_route (h : Rel u w) (s t : Int32) : routeE (x_n u) (x_len u) s t = (bRR w s t).1 := by
  have hn := h.2.2.1.1
  have hn5 := h.2.1.2.1
  unfold routeE bRR
  rw [hn]
  by_cases e : pairE (w_n w) s t = 0
  · rw [if_pos e, if_pos e]
    obtain ⟨a, b, ha, hb, rfl, rfl, hab⟩ := pairE_0 hn5 e
    rw [slot_nI (by omega) (by omega), (Rel_rt h (show a * 5 + b < 25 by omega)).2]
  · rw [if_neg e, if_neg e]
theorem Rel_find (h : Rel u w) : Rel u (wFind w) := h
theorem Rel_solve (h : Rel u w) : Rel (xSolve u) w := h
theorem Rel_RR (h : Rel u w) (s t : Int32) : Rel u (bRR w s t).2 := by
  unfold bRR
  split
  · exact h
  · exact h
/-- a pair with a route, seen by both -/
theorem Rel_pair (h : Rel u w) {s t : Int32} (e : routeE (x_n u) (x_len u) s t = 0) : ∃ a b, a < w_n w ∧ b < w_n w ∧ s = nI a ∧ t = nI b ∧ slot s t = a * 5 + b ∧ a * 5 + b < 25 ∧ a < 5 ∧ b < 5 ∧ uHas (x_len u) (a * 5 + b) = true ∧ (bRR w s t).1 = 0 ∧ pairE (w_n w) s t = 0 := by
  have hn5 := h.2.1.2.1
  have h0 := Rel_route h s t
  obtain ⟨e1, e2⟩ := routeE_0 e
  rw [h.2.2.1.1] at e1
  obtain ⟨a, b, ha, hb, hs, ht, hab⟩ := pairE_0 hn5 e1
  have hsl : slot s t = a * 5 + b := by rw [hs, ht]; exact slot_nI (by omega) (by omega)
  rw [hsl] at e2
  exact ⟨a, b, ha, hb, hs, ht, hsl, by omega, by omega, by omega, e2, by rw [← h0]; exact e, e1⟩
theorem Rel_len (h : Rel u w) {a b : Nat} (ha : a < w_n w) (hb : b < w_n w) (hh : uHas (x_len u) (a * 5 + b) = true) : wDst w (a * 5 + b) % 10 = x_len u (a * 5 + b) ∧ ∀ j, j < x_len u (a * 5 + b) → pathL (wNx w b) (w_tgt w) j a = some (x_lnk u (a * 5 + b) j) := by
  obtain ⟨-, ⟨-, hn, hm, hsr, htg, -⟩, -, hr, -⟩ := h
  obtain ⟨h1, h2⟩ := hr a b (by omega) (by omega)
  obtain ⟨h3, h4⟩ := h2 ha hb
  have hv := dst_vw (met := w_met w) (m := w_m w) (w_dist w) hb hn hsr htg
  have hd : wDst w (a * 5 + b) = costsTo (wM (w_met w)) (w_src w) (w_tgt w) (w_m w) 5 b a := by
    rw [← hv]
    unfold vw
    rw [if_pos (by omega), show 5 * a + b = a * 5 + b by omega]
  simp [uHas] at hh
  have hlt : costsTo (wM (w_met w)) (w_src w) (w_tgt w) (w_m w) 5 b a < 1000000 := by
    refine Classical.byContradiction (fun x => ?_)
    have := h3 (by omega)
    omega
  obtain ⟨h5, h6⟩ := h4 hlt
  refine ⟨by rw [hd, h5], fun j hj => ?_⟩
  rw [← h6 j hj]
  show pathL (nxtX (vw (wDst w) b) _ _ _ _) _ j a = _
  rw [show vw (wDst w) b = costsTo (wM (w_met w)) (w_src w) (w_tgt w) (w_m w) 5 b from hv]
theorem op_rlen (h : Rel u w) (s t : Int32) : aRLen u s t = bRLen w s t ∧ Rel u (bRR w s t).2 := by
  refine ⟨?_, Rel_RR h s t⟩
  unfold aRLen bRLen
  rw [← Rel_route h s t]
  by_cases e : routeE (x_n u) (x_len u) s t = 0
  · rw [if_pos e, if_pos e]
    obtain ⟨a, b, ha, hb, -, -, hsl, -, -, -, hh, -⟩ := Rel_pair h e
    rw [hsl, (Rel_len h ha hb hh).1]
  · rw [if_neg e, if_neg e]
theorem op_rlink (h : Rel u w) (s t k : Int32) : aRLink u s t k = bRLink w s t k ∧ Rel u (bRR w s t).2 := by
  refine ⟨?_, Rel_RR h s t⟩
  unfold aRLink bRLink
  rw [← Rel_route h s t]
  by_cases e : routeE (x_n u) (x_len u) s t = 0
  · rw [if_pos e, if_pos e]
    obtain ⟨a, b, ha, hb, hs, ht, hsl, h25, ha5, hb5, hh, -⟩ := Rel_pair h e
    obtain ⟨l1, l2⟩ := Rel_len h ha hb hh
    rw [hsl, l1]
    unfold inB
    by_cases k0 : k < 0
    · rw [if_pos k0, if_pos k0]; rfl
    · rw [if_neg k0, if_neg k0]
      obtain ⟨j, hj, rfl⟩ := nI_of k0
      have hl4 := h.1.2.2.2.2.2.1 (a * 5 + b)
      by_cases k1 : nI j < nI (x_len u (a * 5 + b))
      · rw [if_pos k1]
        rw [nI_ltI hj (by omega)] at k1
        have k2 : ¬ nI (x_len u (a * 5 + b)) ≤ nI j := by rw [nI_leI (by omega) hj]; omega
        rw [if_neg k2, ndx_nI hj, hs, ht, ndx_nI (by omega), ndx_nI (by omega), l2 j k1]
        rfl
      · rw [if_neg k1]
        rw [nI_ltI hj (by omega)] at k1
        have k2 : nI (x_len u (a * 5 + b)) ≤ nI j := by rw [nI_leI (by omega) hj]; omega
        rw [if_pos k2]
        rfl
  · rw [if_neg e, if_neg e]
theorem inB_k {k : Int32} {n : Nat} (hn : n ≤ 12) (e : inB k n = true) : ndx k < n ∧ k = nI (ndx k) := by
  obtain ⟨j, hj, rfl⟩ := inB_t (by omega) e
  rw [ndx_nI (by omega)]
  exact ⟨hj, rfl⟩
theorem Rel_m (h : Rel u w) : x_m u = w_m w ∧ w_m w ≤ 12 ∧ x_n u = w_n w ∧ w_n w ≤ 5 := ⟨h.2.2.1.2.1, h.2.1.2.2.1, h.2.2.1.1, h.2.1.2.1⟩
theorem op_onl (h : Rel u w) (k : Int32) : aOnL u k = (bOnL w k).1 ∧ Rel u (bOnL w k).2 := by
  obtain ⟨hm, hm12, -, -⟩ := Rel_m h
  unfold aOnL bOnL
  rw [hm]
  by_cases e : inB k (w_m w) = true
  · rw [if_pos e, if_pos e]
    refine ⟨?_, h⟩
    dsimp only
    congr 1
    exact cntN_congr (fun s hs => ((Rel_rt h hs).1 _).symm)
  · rw [if_neg e, if_neg e]
    exact ⟨rfl, h⟩
theorem ld_eq (h : Rel u w) (k : Nat) : ldOf (uUses (x_len u) (x_lnk u)) (x_dem u) k = ldOf (wUses (wBit w)) (w_dem w) k := by
  unfold ldOf
  exact sumI_congr (fun s hs => by rw [(Rel_rt h hs).1, (h.2.2.2.2.1 s hs).1])
theorem op_carr (h : Rel u w) (k : Int32) : aCarr u k = (bCarr w k).1 ∧ Rel u (bCarr w k).2 := by
  obtain ⟨hm, hm12, -, -⟩ := Rel_m h
  unfold aCarr bCarr
  rw [hm]
  by_cases e : inB k (w_m w) = true
  · rw [if_pos e, if_pos e]
    exact ⟨ld_eq h _, h⟩
  · rw [if_neg e, if_neg e]
    exact ⟨rfl, h⟩
theorem rng_nI {j : Nat} {B : Nat} (hj : j ≤ B) (hB : B < 2 ^ 31) : rng (nI j) B := by
  unfold rng
  rw [nI_toInt (by omega)]
  omega
theorem op_dem (h : Rel u w) (s t v : Int32) : (aSetDem u s t v).1 = (bSetDem w s t v).1 ∧ Rel (aSetDem u s t v).2 (bSetDem w s t v).2 := by
  obtain ⟨-, -, hn, hn5⟩ := Rel_m h
  unfold aSetDem bSetDem
  rw [hn, isIn_alt0]
  by_cases e : pairE (w_n w) s t = 0
  · rw [if_pos e, if_pos e]
    obtain ⟨a, b, ha, hb, hs, ht, hab⟩ := pairE_0 hn5 e
    have hsl : slot s t = a * 5 + b := by rw [hs, ht]; exact slot_nI (by omega) (by omega)
    by_cases e2 : isIn 0 9999 v = true
    · rw [if_pos e2, if_pos e2]
      obtain ⟨j, -, hj, rfl⟩ := isIn_t (by omega) (by omega) e2
      obtain ⟨r1, r2, r3, r4, r5, r6⟩ := h
      refine ⟨(r5 _ (by rw [hsl]; omega)).1, r1, r2, r3, r4, fun q hq => ?_, r6⟩
      show va_up (x_dem u) (slot s t) (nI j) q = va_up (w_dem w) (slot s t) (nI j) q ∧ rng (va_up (x_dem u) (slot s t) (nI j) q) 9999
      by_cases x : q = slot s t
      · rw [x, va_up_self, va_up_self]
        exact ⟨rfl, rng_nI (B := 9999) hj (by decide)⟩
      · rw [va_up_ne _ _ x, va_up_ne _ _ x]
        exact r5 q hq
    · rw [if_neg e2, if_neg e2]
      exact ⟨rfl, h⟩
  · rw [if_neg e, if_neg e]
    exact ⟨rfl, h⟩
theorem op_load (h : Rel u w) (k v : Int32) : (aSetLoad u k v).1 = (bSetLoad w k v).1 ∧ Rel (aSetLoad u k v).2 (bSetLoad w k v).2 := by
  obtain ⟨hm, hm12, -, -⟩ := Rel_m h
  unfold aSetLoad bSetLoad
  rw [hm, isIn_alt0]
  by_cases e : inB k (w_m w) = true
  · rw [if_pos e, if_pos e]
    obtain ⟨hk, hk2⟩ := inB_k hm12 e
    by_cases e2 : isIn 0 199980 v = true
    · rw [if_pos e2, if_pos e2]
      obtain ⟨j, -, hj, rfl⟩ := isIn_t (by omega) (by omega) e2
      obtain ⟨r1, r2, r3, r4, r5, ⟨r6, r7⟩, r8⟩ := h
      refine ⟨(r6 _ hk).1, r1, r2, r3, r4, r5, ⟨fun q hq => ?_, fun q hq => ?_⟩, r8⟩
      · show va_up (x_load u) (ndx k) (nI j) q = va_up (w_load w) (ndx k) (nI j) q ∧ rng (va_up (x_load u) (ndx k) (nI j) q) 199980
        by_cases x : q = ndx k
        · rw [x, va_up_self, va_up_self]
          exact ⟨rfl, rng_nI (B := 199980) hj (by decide)⟩
        · rw [va_up_ne _ _ x, va_up_ne _ _ x]
          exact r6 q hq
      · have hq : w_m w ≤ q := hq
        show va_up (x_load u) (ndx k) (nI j) q = 0
        rw [va_up_ne _ _ (show q ≠ ndx k by omega)]
        exact r7 q hq
    · rw [if_neg e2, if_neg e2]
      exact ⟨rfl, h⟩
  · rw [if_neg e, if_neg e]
    exact ⟨rfl, h⟩
theorem op_gload (h : Rel u w) (k : Int32) : aLoad u k = bLoad w k := by
  obtain ⟨hm, hm12, -, -⟩ := Rel_m h
  unfold aLoad bLoad
  rw [hm]
  by_cases e : inB k (w_m w) = true
  · rw [if_pos e, if_pos e]
    exact (h.2.2.2.2.2.1.1 _ (inB_k hm12 e).1).1
  · rw [if_neg e, if_neg e]
theorem op_out (h : Rel u w) (k : Int32) : aOut u k = bOut w k ∧ aIn u k = bIn w k := by
  obtain ⟨-, -, hn, hn5⟩ := Rel_m h
  unfold aOut bOut aIn bIn
  rw [hn]
  by_cases e : inB k (w_n w) = true
  · have hk := (inB_k (by omega) e).1
    have := h.2.2.2.2.2.2.1.1 (ndx k) (by omega)
    simp only [e, if_true]
    exact ⟨this.1.1, this.2.1⟩
  · simp only [e]
    exact ⟨rfl, rfl⟩
theorem pair_neg : uPair (fun _ => (-1 : Int32)) 0 = false := by decide
theorem op_mpair (h : Rel u w) (s t : Int32) : (aMPair u s t).1 = (bMPair w s t).1 ∧ Rel (aMPair u s t).2 (bMPair w s t).2 := by
  have h0 := Rel_route h s t
  unfold aMPair bMPair
  rw [← h0]
  by_cases e : routeE (x_n u) (x_len u) s t = 0
  · rw [if_pos e, if_pos e]
    obtain ⟨a, b, ha, hb, hs, ht, hsl, h25, ha5, hb5, hh, -⟩ := Rel_pair h e
    obtain ⟨r1, r2, r3, r4, r5, r6, r7, r8, r9⟩ := h
    refine ⟨(r5 _ (by omega)).1, r1, r2, r3, r4, r5, r6, r7, fun q hq => ?_, r9⟩
    show uPair (va_up (x_pv u) (slot s t) (x_dem u (slot s t))) q = va_up (w_ism w) (slot s t) true q ∧ (va_up (w_ism w) (slot s t) true q = true → va_up (x_pv u) (slot s t) (x_dem u (slot s t)) q = va_up (w_mea w) (slot s t) (w_dem w (slot s t)) q ∧ rng (va_up (x_pv u) (slot s t) (x_dem u (slot s t)) q) 9999)
    have hd := r5 (slot s t) (by omega)
    by_cases x : q = slot s t
    · unfold uPair
      rw [x]
      simp only [va_up_self]
      refine ⟨if_neg (fun y => ?_), fun _ => hd⟩
      have := hd.2.1
      rw [y] at this
      exact absurd this (by decide)
    · unfold uPair
      rw [va_up_ne _ _ x, va_up_ne _ _ x, va_up_ne _ _ x]
      exact r8 q hq
  · rw [if_neg e, if_neg e]
    refine ⟨h0, ?_⟩
    exact Rel_RR h s t
theorem op_fpair (h : Rel u w) (s t : Int32) : (aFPair u s t).1 = (bFPair w s t).1 ∧ Rel (aFPair u s t).2 (bFPair w s t).2 := by
  obtain ⟨-, -, hn, hn5⟩ := Rel_m h
  unfold aFPair bFPair
  rw [hn]
  by_cases e : pairE (w_n w) s t = 0
  · rw [if_pos e, if_pos e]
    obtain ⟨a, b, ha, hb, hs, ht, hab⟩ := pairE_0 hn5 e
    have hsl : slot s t = a * 5 + b := by rw [hs, ht]; exact slot_nI (by omega) (by omega)
    have hp := h.2.2.2.2.2.2.2.1 (slot s t) (by omega)
    rw [hp.1]
    by_cases e2 : w_ism w (slot s t) = true
    · rw [if_pos e2, if_pos e2]
      obtain ⟨r1, r2, r3, r4, r5, r6, r7, r8, r9⟩ := h
      refine ⟨(hp.2 e2).1, r1, r2, r3, r4, r5, r6, r7, fun q hq => ?_, r9⟩
      show uPair (va_up (x_pv u) (slot s t) (-1)) q = va_up (w_ism w) (slot s t) false q ∧ (va_up (w_ism w) (slot s t) false q = true → va_up (x_pv u) (slot s t) (-1) q = w_mea w q ∧ rng (va_up (x_pv u) (slot s t) (-1) q) 9999)
      by_cases x : q = slot s t
      · unfold uPair
        rw [x]
        simp only [va_up_self]
        exact ⟨if_pos trivial, fun y => by cases y⟩
      · unfold uPair
        rw [va_up_ne _ _ x, va_up_ne _ _ x]
        exact r8 q hq
    · rw [if_neg e2, if_neg e2]
      exact ⟨rfl, h⟩
  · rw [if_neg e, if_neg e]
    exact ⟨rfl, h⟩
theorem op_rank (h : Rel u w) : nI (x_kc (xSolve u) + x_pc (xSolve u)) = nI (w_kn (wRF w none) + w_rows (wRF w none)) := by rw [← eq_rank (Rel_E h) (xA_Bd h)]
theorem op_cons (h : Rel u w) : bI (xSol u) = bI (wAg (wFind w)) := by rw [eq_sol (Rel_E h) (xA_Bd h)]
theorem op_ident (h : Rel u w) (s t : Int32) : (aIdent u s t).1 = (bIdent w s t).1 ∧ Rel (aIdent u s t).2 (bIdent w s t).2 := by
  have h0 := Rel_route h s t
  unfold aIdent bIdent
  rw [← h0]
  by_cases e : routeE (x_n u) (x_len u) s t = 0
  · rw [if_pos e, if_pos e]
    obtain ⟨a, b, ha, hb, hs, ht, hsl, h25, ha5, hb5, hh, -⟩ := Rel_pair h e
    refine ⟨?_, h⟩
    dsimp only
    rw [eq_det (Rel_E h) (xA_Bd h) (s := slot s t) (by omega), hsl, hh, Bool.true_and]
  · rw [if_neg e, if_neg e]
    exact ⟨h0, Rel_RR h s t⟩
theorem op_icnt (h : Rel u w) : nI (cntN (fun s => uHas (x_len u) s && xDet u s) 25) = nI (wCnt (wFind w) none) := by
  congr 1
  unfold wCnt
  exact cntN_congr (fun s hs => (eq_det (Rel_E h) (xA_Bd h) hs).symm)
theorem op_num (h : Rel u w) (s t : Int32) : aNum u s t = (bNum w s t 0).1 ∧ aDen u s t = (bNum w s t 1).1 ∧ Rel (aFind u s t).2 (bNum w s t 0).2 ∧ Rel (aFind u s t).2 (bNum w s t 1).2 := by
  have h0 := Rel_route h s t
  unfold aNum aDen bNum
  rw [← h0]
  by_cases e : routeE (x_n u) (x_len u) s t = 0
  · rw [aFind_pos e, if_pos e, if_pos e]
    obtain ⟨a, b, ha, hb, hs, ht, hsl, h25, ha5, hb5, hh, -⟩ := Rel_pair h e
    refine ⟨?_, ?_, h, h⟩
    · dsimp only
      rw [eq_det (Rel_E h) (xA_Bd h) (s := slot s t) (by omega), eq_sol (Rel_E h) (xA_Bd h), hsl, hh, Bool.true_and]
      by_cases x : (xDet u (a * 5 + b) && xSol u) = true
      · rw [if_pos x, if_pos x]
        rw [Bool.and_eq_true] at x
        exact (eq_val (Rel_E h) (xA_Bd h) h25 hh x.1 x.2).1
      · rw [if_neg x, if_neg x]
    · dsimp only
      rw [eq_det (Rel_E h) (xA_Bd h) (s := slot s t) (by omega), eq_sol (Rel_E h) (xA_Bd h), hsl, hh, Bool.true_and]
      by_cases x : (xDet u (a * 5 + b) && xSol u) = true
      · rw [if_pos x, if_pos x]
        rw [Bool.and_eq_true] at x
        exact (eq_val (Rel_E h) (xA_Bd h) h25 hh x.1 x.2).2
      · rw [if_neg x, if_neg x]
  · rw [aFind_neg e, if_neg e, if_neg e]
    exact ⟨rfl, rfl, Rel_RR h s t, Rel_RR h s t⟩
theorem op_piv (h : Rel u w) : ∀ q r, q < 25 → w_pr (wRF w none) q = some r → ¬ w_row (wRF w none) r q = 0 := eq_piv (Rel_E h) (xA_Bd h)
theorem bst_Rel (has was : Nat → Bool) {S : MS} (h : Rel u S) : ∀ i, Rel u (bstM has was S i).2.2
  | 0 => h
  | i + 1 => by
    have ih := bst_Rel has was h i
    simp only [bstM]
    split
    · exact ih
    · exact ih
theorem op_best (h : Rel u w) : aBest u = bpI (wBst w).1 ∧ Rel (xSolve u) (wBst w).2.2 := by
  have hE := Rel_E h
  have hb := xA_Bd h
  have h1 := eq_best (S := wB0 w) (u := u) hE hb (has := wHas (wBit w)) (was := mixN (w_was w) (wSu (wFind w) none) 25) (fun s hs => ⟨(Rel_rt h hs).2, fun e => by
    show (if s < 25 then wSu (wFind w) none s else w_was w s) = _
    rw [if_pos hs, eq_det hE hb hs, ← (Rel_rt h hs).2, e, Bool.true_and]⟩) 25 (Nat.le_refl _)
  refine ⟨?_, bst_Rel _ _ (S := wB0 w) h 25⟩
  unfold aBest
  rw [← h1.1]
end OPS
