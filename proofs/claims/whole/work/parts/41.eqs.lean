/-! the equations: both sides say the same -/
section EQS
variable {u : XS} {S : MS}
theorem xEX (hb : Bd (xA u) (x_m u)) : ∃ pr jc, EX (xA u) (x_m u) (xZ u) pr jc 25 := EX_N hb (EX_0 (fun i _ j _ => rfl) id id) 25 (Nat.le_refl _)
theorem wMX (h : RelE u S) (hb : Bd (xA u) (x_m u)) {ex : Option Nat} (hex : ∀ k, ex = some k → k < 25) : ∃ pr jc, MX (exA u ex) (x_m u) (wZ S ex) pr jc 25 := by
  have := MX_N (exA_Bd hb hex) (MX_0 (R := w_row (wLay S ex)) (w := w_pr (wLay S ex)) (fun i hi j hj => wRows_i h hex hi hj) (fun s hs => by
    show (if s < 25 then none else w_pr S s) = none
    rw [if_pos hs]) id) 25 (Nat.le_refl _)
  unfold wZ
  rw [h.1]
  exact this
theorem b_iff {a b : Bool} (h : a = true ↔ b = true) : a = b := by
  cases a <;> cases b <;> simp_all
theorem kn_at {s : Nat} (hs : s < 25) : x_kn (xSolve u) s = (uHas (x_len u) s && uPair (x_pv u) s) := by
  show (if s < 25 then uKn (x_len u) (x_pv u) s else x_kn u s) = _
  rw [if_pos hs]
  rfl
theorem exN : ∀ k, (none : Option Nat) = some k → k < 25 := fun k e => by cases e
theorem eq_det (h : RelE u S) (hb : Bd (xA u) (x_m u)) {s : Nat} (hs : s < 25) : wSu S none s = (uHas (x_len u) s && xDet u s) := by
  obtain ⟨pr, jc, hE⟩ := xEX hb
  obtain ⟨pr', jc', hM⟩ := wMX h hb (ex := none) exN
  obtain ⟨b1, b2, b3, b4⟩ := h.2.1 s hs
  apply b_iff
  rw [Bool.and_eq_true]
  have h1 := wSure_iff hM (has := wHas (w_bits S)) (ism := w_ism S) (ex := none) hs
  have h2 : isX (w_ism S) none s = uPair (x_pv u) s := by
    unfold isX
    rw [b3]
    simp
  rw [b2, h2] at h1
  refine Iff.trans h1 (and_congr_right (fun hh => ?_))
  have hk := kn_at (u := u) hs
  rw [hh, Bool.true_and] at hk
  cases e : uPair (x_pv u) s with
  | true =>
    rw [e] at hk
    exact ⟨fun _ => uDet_kn hk, fun _ => Or.inl rfl⟩
  | false =>
    rw [e] at hk
    have h3 := uDet_iff (kn := x_kn (xSolve u)) hE hs hk
    refine Iff.trans ?_ h3.symm
    exact ⟨fun x => x.resolve_left (by simp), Or.inr⟩
theorem eq_sol (h : RelE u S) (hb : Bd (xA u) (x_m u)) : wAg S = xSol u := by
  obtain ⟨pr, jc, hE⟩ := xEX hb
  obtain ⟨pr', jc', hM⟩ := wMX h hb (ex := none) exN
  apply b_iff
  have h1 := uSol_iff hE
  have h2 := wAgr_iff hM
  show wAgr (w_m S) (wZ S none).1 (wZ S none).2.1 = true ↔ uSol (x_m u) (xZ u).2.2.1 (xZ u).2.2.2.2 = true
  rw [h.1]
  exact Iff.trans h2 h1.symm
theorem eq_rank (h : RelE u S) (hb : Bd (xA u) (x_m u)) : w_kn (wRed S none) + w_rows (wRed S none) = x_kc (xSolve u) + x_pc (xSolve u) := by
  obtain ⟨pr, jc, hE⟩ := xEX hb
  obtain ⟨pr', jc', hM⟩ := wMX h hb (ex := none) exN
  have h1 : (xZ u).1 = (wZ S none).1 := rank_eq hE.1 hM.1
  show cntN (fun p => wHas (w_bits S) p && isX (w_ism S) none p) 25 + (wZ S none).1 = cntN (uKn (x_len u) (x_pv u)) 25 + (xZ u).1
  rw [h1]
  congr 1
  refine cntN_congr (fun s hs => ?_)
  obtain ⟨b1, b2, b3, b4⟩ := h.2.1 s hs
  unfold isX uKn
  rw [b2, b3]
  simp
theorem eq_piv (h : RelE u S) (hb : Bd (xA u) (x_m u)) : ∀ q r, q < 25 → w_pr (wRed S none) q = some r → ¬ w_row (wRed S none) r q = 0 := by
  obtain ⟨pr', jc', hM⟩ := wMX h hb (ex := none) exN
  intro q r hq e
  exact (M_piv hM hq e).2.2
theorem eq_val (h : RelE u S) (hb : Bd (xA u) (x_m u)) {s : Nat} (hs : s < 25) (hh : uHas (x_len u) s = true) (hd : xDet u s = true) (ho : xSol u = true) : uNum (x_rop (xSolve u)) (x_row (xSolve u)) (x_piv (xSolve u)) (x_pv u) s = valJ (wRed S none) s 0 ∧ uDen (x_rop (xSolve u)) (x_row (xSolve u)) (x_piv (xSolve u)) s = valJ (wRed S none) s 1 := by
  obtain ⟨pr, jc, hE⟩ := xEX hb
  obtain ⟨pr', jc', hM⟩ := wMX h hb (ex := none) exN
  obtain ⟨b1, b2, b3, b4⟩ := h.2.1 s hs
  have hk := kn_at (u := u) hs
  rw [hh, Bool.true_and] at hk
  cases e : uPair (x_pv u) s with
  | true =>
    -- its column is empty: it has no pivot
    have hr : (xZ u).2.2.2.1 s = none := by
      refine hE.2.2.2.2.2.1 s (fun q hq x => hE.1.1 ?_)
      have h1 := RP_jc (A := xA u) (pr := pr) (jc := jc) (k := (xZ u).1) q hq
      rw [if_pos rfl, x] at h1
      rw [← h1]
      unfold RP
      refine sumZ_0 (fun l hl => ?_)
      have : xA u (pr l) s = 0 := by
        unfold xA
        rw [xRows_j (hE.1.2.1 l hl) hs, e]
        simp
      rw [this, Int.mul_zero]
    have hi : w_ism (wRed S none) s = true := by
      show w_ism S s = true
      rw [b3, e]
    constructor
    · show uNum (xZ u).2.2.2.1 (xZ u).2.2.1 (xZ u).2.1 (x_pv u) s = _
      unfold uNum valJ
      rw [hr, hi]
      simp only [if_true]
      rw [← b4 (by rw [b3, e])]
    · show uDen (xZ u).2.2.2.1 (xZ u).2.2.1 (xZ u).2.1 s = _
      unfold uDen valJ
      rw [hr, hi]
      rfl
  | false =>
    rw [e] at hk
    have hI := (uDet_iff (kn := x_kn (xSolve u)) hE hs hk).mp hd
    have hO := (uSol_iff hE).mp ho
    obtain ⟨y, d, b, hd0, hy, hyb, hN, hDn⟩ := uVal hb hE hs hI (x_pv u)
    obtain ⟨r, hr, y', t, d', b', ht0, hd0', hy', hyb', hd', hb', s1, s2⟩ := wVal hb hM hs hI
    have hi : w_ism (wRed S none) s = false := by
      show w_ism S s = false
      rw [b3, e]
    have key := val_eq hO hy hy'
    rw [hyb] at key
    rw [show sumZ (fun i => y' i * xA u i 25) (x_m u) = t * b' from hyb', Int.mul_assoc, Int.mul_left_comm d] at key
    have key2 := Int.eq_of_mul_eq_mul_left ht0 key
    have hl := low_eq hd0 hd0' key2.symm
    have v0 := valJ_i (w := wRed S none) hi hr hd' hb' hd0' s1 s2 0
    have v1 := valJ_i (w := wRed S none) hi hr hd' hb' hd0' s1 s2 1
    rw [if_pos rfl] at v0
    rw [if_neg (by omega)] at v1
    constructor
    · apply Int64.toInt_inj.mp
      rw [v0]
      exact hN.trans hl.1
    · apply Int64.toInt_inj.mp
      rw [v1]
      exact hDn.trans hl.2
theorem eq_cnt (h : RelE u S) (hb : Bd (xA u) (x_m u)) {p : Nat} (hp : p < 25) (hh : uHas (x_len u) p = true) (hd : xDet u p = false) : wCnt S (some p) = xCntW (xSolve u) p := by
  have hex : ∀ k, some p = some k → k < 25 := fun k e => by cases e; exact hp
  obtain ⟨pr, jc, hE⟩ := xEX hb
  obtain ⟨pr', jc', hM⟩ := wMX h hb (ex := some p) hex
  have hkp : x_kn (xSolve u) p = false := by
    cases e : x_kn (xSolve u) p with
    | false => rfl
    | true =>
      have h1 : xDet u p = true := uDet_kn e
      rw [hd] at h1
      cases h1
  unfold wCnt
  refine cntN_congr (fun s hs => ?_)
  obtain ⟨b1, b2, b3, b4⟩ := h.2.1 s hs
  apply b_iff
  rw [Bool.and_eq_true]
  have h1 := wSure_iff hM (has := wHas (w_bits S)) (ism := w_ism S) (ex := some p) hs
  rw [b2] at h1
  refine Iff.trans h1 (and_congr_right (fun hhs => ?_))
  have h2 := uDetW_iff (kn := x_kn (xSolve u)) hb hE hp hs hkp hd
  refine Iff.trans (or_congr ?_ Iff.rfl) h2.symm
  have hk := kn_at (u := u) hs
  rw [hk, hhs, Bool.true_and]
  unfold isX
  rw [Bool.or_eq_true, b3]
  refine or_congr Iff.rfl ?_
  simp only [decide_eq_true_eq, Option.some.injEq]
  exact ⟨fun x => x.symm, fun x => x.symm⟩
theorem eq_best (h : RelE u S) (hb : Bd (xA u) (x_m u)) {has was : Nat → Bool} (hw : ∀ s, s < 25 → has s = uHas (x_len u) s ∧ (has s = true → was s = xDet u s)) : ∀ i, i ≤ 25 → (bstM has was S i).1 = (bestN (fun s => uHas (x_len u) s && !xDet u s) (xCntW (xSolve u)) i).1 ∧ (bstM has was S i).2.1 = (bestN (fun s => uHas (x_len u) s && !xDet u s) (xCntW (xSolve u)) i).2 ∧ RelE u (bstM has was S i).2.2
  | 0, _ => ⟨rfl, rfl, h⟩
  | i + 1, hi => by
    obtain ⟨h1, h2, h3⟩ := eq_best h hb hw i (by omega)
    obtain ⟨w1, w2⟩ := hw i (by omega)
    simp only [bstM, bestN]
    have e0 : (has i && !was i) = (uHas (x_len u) i && !xDet u i) := by
      cases e : has i with
      | false => rw [← w1, e]; rfl
      | true => rw [← w1, e, w2 e]
    rw [e0]
    by_cases e : (uHas (x_len u) i && !xDet u i) = true
    · have e' := e
      rw [Bool.and_eq_true, Bool.not_eq_true'] at e'
      have hc := eq_cnt h3 hb (p := i) (by omega) e'.1 e'.2
      rw [if_pos e]
      dsimp only
      rw [hc, h2, h1]
      by_cases c : (bestN (fun s => uHas (x_len u) s && !xDet u s) (xCntW (xSolve u)) i).2 < xCntW (xSolve u) i
      · rw [if_pos c, if_pos c, if_pos (show (_ && decide _) = true by rw [e, decide_eq_true c]; rfl)]
        exact ⟨rfl, rfl, h3⟩
      · rw [if_neg c, if_neg c, if_neg (show ¬ (_ && decide _) = true by rw [e, decide_eq_false c]; simp)]
        exact ⟨rfl, rfl, h3⟩
    · rw [if_neg e, if_neg (fun x => e (Bool.and_eq_true _ _ ▸ x).1)]
      exact ⟨h1, h2, h3⟩
end EQS
