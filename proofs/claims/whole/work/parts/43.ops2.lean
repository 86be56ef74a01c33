/-! calls that change the routes; measuring -/
theorem rounds_m0 (w src tgt c : Nat → Nat) : ∀ k, roundsN w src tgt 0 k c = c
  | 0 => rfl
  | k + 1 => by
    show relaxN w src tgt 0 (roundsN w src tgt 0 k c) = c
    rw [rounds_m0 w src tgt c k]
    rfl
theorem rt_empty (met src tgt : Nat → Nat) (n : Nat) (lnk : Nat → Nat → Nat) : rtOK met src tgt n 0 (fun _ => 0) lnk := by
  intro a b ha hb
  refine ⟨fun _ => rfl, fun _ _ => ⟨fun _ => rfl, fun h => ⟨?_, fun j hj => absurd hj (Nat.not_lt_zero _)⟩⟩⟩
  unfold costsTo at h ⊢
  rw [rounds_m0] at h ⊢
  by_cases e : a = b
  · rw [e, va_up_self]
  · rw [va_up_ne _ _ e] at h
    exact absurd h (by omega)
section MONO
variable {met src tgt met' src' tgt' : Nat → Nat} {n m m' : Nat} {len len' : Nat → Nat} {lnk lnk' : Nat → Nat → Nat}
theorem reach {c c' : Nat → Nat} {t : Nat} (hmm : m ≤ m') (hs : ∀ l, l < m → src' l = src l) (ht : ∀ l, l < m → tgt' l = tgt l) (htg : ∀ l, tgt l < 5) (htg' : ∀ l, tgt' l < 5) (hm' : ∀ l, met' l ≤ 99) (hc : rest (wM met) src tgt m t c) (hc' : rest (wM met') src' tgt' m' t c') : ∀ (i v : Nat), v < 5 → c v < 1000000 → c v % 10 = i → c' v < 1000000
  | 0, v, hv, hlt, hi => by
    by_cases e : v = t
    · rw [e, hc'.1]; omega
    · obtain ⟨l, h1, h2, h3, h4⟩ := next_some hc hv e hlt
      unfold wM at h4
      have := hops4 htg hc (htg l) (by omega)
      omega
  | i + 1, v, hv, hlt, hi => by
    by_cases e : v = t
    · rw [e, hc'.1]; omega
    · obtain ⟨l, h1, h2, h3, h4⟩ := next_some hc hv e hlt
      unfold wM at h4
      have hz := hops4 htg hc (htg l) (by omega)
      have ih := reach hmm hs ht htg htg' hm' hc hc' i (tgt l) (htg l) (by omega) (by omega)
      have hz' := small4 htg' hm' hc' (htg l) ih
      have h5 := hc'.2.2.1 l (by omega)
      rw [hs l h2, ht l h2, h3] at h5
      have := hm' l
      unfold wM at h5
      omega
theorem has_mono (hn : n ≤ 5) (hmm : m ≤ m') (hs : ∀ l, l < m → src' l = src l) (ht : ∀ l, l < m → tgt' l = tgt l) (hsr : ∀ l, src l < 5) (htg : ∀ l, tgt l < 5) (hsr' : ∀ l, src' l < 5) (htg' : ∀ l, tgt' l < 5) (hm' : ∀ l, met' l ≤ 99) (h : rtOK met src tgt n m len lnk) (h' : rtOK met' src' tgt' n m' len' lnk') {s : Nat} (hs25 : s < 25) (e : uHas len s = true) : uHas len' s = true := by
  have hr := (rt_len4 hsr htg h (a := s / 5) (b := s % 5) (by omega) (by omega)).2
  rw [show s / 5 * 5 + s % 5 = s by omega] at hr
  simp only [uHas, decide_eq_true_eq] at e ⊢
  obtain ⟨h1, h2, h3, h4, h5⟩ := hr e
  have R := rest_M (met := met) (m := m) hsr htg (t := s % 5) (by omega)
  have R' := rest_M (met := met') (m := m') hsr' htg' (t := s % 5) (by omega)
  have h6 := reach hmm hs ht htg htg' hm' R R' _ (s / 5) (by omega) h4 rfl
  obtain ⟨-, h7⟩ := h' (s / 5) (s % 5) (by omega) (by omega)
  have h8 := ((h7 h1 h2).2 h6).1
  rw [show s / 5 * 5 + s % 5 = s by omega] at h8
  obtain ⟨l, -, -, -, k4⟩ := next_some R' (show s / 5 < 5 by omega) h3 h6
  rw [show wM met' l = 10 * met' l + 1 from rfl] at k4
  have := hops4 htg' R' (htg' l) (by omega)
  omega
end MONO
section OPS
variable {u : XS} {w : MS}
theorem rt_new {u1 : XS} {w1 : MS} (h1 : okN u1) (he : x_n u1 = w_n w1 ∧ x_m u1 = w_m w1 ∧ x_src u1 = w_src w1 ∧ x_tgt u1 = w_tgt w1 ∧ x_met u1 = w_met w1) (h0 : ∀ a b, a < 5 → b < 5 → ¬ (a < w_n w1 ∧ b < w_n w1) → x_len u1 (a * 5 + b) = 0) : rtOK (w_met w1) (w_src w1) (w_tgt w1) (w_n w1) (w_m w1) (x_len (xRoutes u1)) (x_lnk (xRoutes u1)) := by
  obtain ⟨e1, e2, e3, e4, e5⟩ := he
  have := rt_found (met := x_met u1) (src := x_src u1) (tgt := x_tgt u1) (n := x_n u1) (m := x_m u1) (z := (x_cost u1, x_len u1, x_lnk u1)) h1.1 h1.2.2.1 h1.2.2.2.1 h1.2.2.2.2.1 (fun a b ha hb x => h0 a b ha hb (by rw [← e1]; exact x))
  rw [← e1, ← e2, ← e3, ← e4, ← e5]
  exact this
theorem Rel_new {u1 : XS} {w1 : MS} (h : Rel u w) (h1 : okN u1) (h2 : okM w1) (he : x_n u1 = w_n w1 ∧ x_m u1 = w_m w1 ∧ x_src u1 = w_src w1 ∧ x_tgt u1 = w_tgt w1 ∧ x_met u1 = w_met w1) (hn : w_n w1 = w_n w) (hm : w_m w ≤ w_m w1) (hs : ∀ l, l < w_m w → w_src w1 l = w_src w l) (ht : ∀ l, l < w_m w → w_tgt w1 l = w_tgt w l) (hl : x_len u1 = x_len u) (hd : x_dem u1 = x_dem u ∧ w_dem w1 = w_dem w) (hld : (∀ l, l < w_m w1 → x_load u1 l = w_load w1 l ∧ rng (x_load u1 l) 199980) ∧ ∀ l, w_m w1 ≤ l → x_load u1 l = 0) (ho : x_out u1 = x_out u ∧ x_inn u1 = x_inn u ∧ w_out w1 = w_out w ∧ w_inn w1 = w_inn w) (hp : x_pv u1 = x_pv u ∧ w_ism w1 = w_ism w ∧ w_mea w1 = w_mea w) (hv : x_val u1 = x_val u ∧ w_gue w1 = w_gue w) : Rel (xRoutes u1) w1 := by
  obtain ⟨r1, r2, r3, r4, r5, r6, r7, r8, r9⟩ := h
  have hr := rt_new h1 he (fun a b ha hb x => by rw [hl]; exact (r4 a b ha hb).1 (by rw [← hn]; exact x))
  refine ⟨okN_Routes h1, h2, he, hr, ?_, hld, ?_, ?_, fun s hs25 => ?_⟩
  · show ∀ s, s < 25 → x_dem u1 s = w_dem w1 s ∧ rng (x_dem u1 s) 9999
    rw [hd.1, hd.2]
    exact r5
  · show (∀ v, v < 5 → (x_out u1 v = w_out w1 v ∧ rng (x_out u1 v) 249975) ∧ x_inn u1 v = w_inn w1 v ∧ rng (x_inn u1 v) 249975) ∧ ∀ v, w_n w1 ≤ v → v < 5 → x_out u1 v = 0 ∧ x_inn u1 v = 0
    rw [ho.1, ho.2.1, ho.2.2.1, ho.2.2.2, hn]
    exact r7
  · show ∀ s, s < 25 → uPair (x_pv u1) s = w_ism w1 s ∧ (w_ism w1 s = true → x_pv u1 s = w_mea w1 s ∧ rng (x_pv u1 s) 9999)
    rw [hp.1, hp.2.1, hp.2.2]
    exact r8
  · show x_val u1 s = w_gue w1 s ∧ (uHas (x_len (xRoutes u1)) s = false → x_val u1 s = 0)
    rw [hv.1, hv.2]
    refine ⟨(r9 s hs25).1, fun x => (r9 s hs25).2 ?_⟩
    cases e : uHas (x_len u) s with
    | false => rfl
    | true =>
      have hn5 := r2.2.1
      rw [hn] at hr
      have := has_mono hn5 hm hs ht r2.2.2.2.1 r2.2.2.2.2.1 h2.2.2.2.1 h2.2.2.2.2.1 h2.2.2.2.2.2 r4 hr hs25 e
      rw [x] at this
      cases this
theorem op_reset (h : Rel u w) (k : Int32) : (aReset u k).1 = (bReset w k).1 ∧ Rel (aReset u k).2 (bReset w k).2 := by
  obtain ⟨hm, -, -, -⟩ := Rel_m h
  unfold aReset bReset
  rw [isIn_alt]
  by_cases e : isIn 2 5 k = true
  · rw [if_pos e, if_pos e]
    obtain ⟨j, hj1, hj2, rfl⟩ := isIn_t (by omega) (by omega) e
    rw [ndx_nI (by omega)]
    refine ⟨by rw [hm], ?_⟩
    obtain ⟨r1, r2, r3, r4, r5, r6, r7, r8, r9⟩ := h
    have z0 : rng 0 9999 := ⟨by decide, by decide⟩
    have z1 : rng 0 249975 := ⟨by decide, by decide⟩
    have mx : ∀ {α : Type} {f : Nat → α} {c : α} {n s : Nat}, s < n → mixN f (fun _ => c) n s = c := by
      intro α f c n s hs
      unfold mixN
      rw [if_pos hs]
    refine ⟨⟨hj2, Nat.zero_le _, r1.2.2.1, r1.2.2.2.1, r1.2.2.2.2.1, fun _ => Nat.zero_le _, r1.2.2.2.2.2.2⟩, ⟨hj1, hj2, Nat.zero_le _, r2.2.2.2.1, r2.2.2.2.2.1, r2.2.2.2.2.2⟩, ⟨rfl, rfl, r3.2.2.1, r3.2.2.2.1, r3.2.2.2.2⟩, rt_empty _ _ _ _ _, fun s hs => ⟨(mx hs).symm, z0⟩, ⟨fun l hl => absurd hl (Nat.not_lt_zero _), fun l _ => rfl⟩, ⟨fun v hv => ⟨⟨(mx hv).symm, z1⟩, (mx hv).symm, z1⟩, fun v _ _ => ⟨rfl, rfl⟩⟩, fun s hs => ⟨?_, fun x => ?_⟩, fun s hs => ⟨(mx hs).symm, fun _ => rfl⟩⟩
    · show uPair (fun _ => -1) s = mixN (w_ism w) (fun _ => false) 25 s
      rw [mx hs]
      rfl
    · have x : mixN (w_ism w) (fun _ => false) 25 s = true := x
      rw [mx hs] at x
      cases x
  · rw [if_neg e, if_neg e]
    exact ⟨rfl, h⟩
theorem up_lt {f : Nat → Nat} {k x B : Nat} (h : ∀ l, f l < B) (hx : x < B) : ∀ l, va_up f k x l < B := by
  intro l
  unfold va_up
  split
  · exact hx
  · exact h l
theorem up_le {f : Nat → Nat} {k x B : Nat} (h : ∀ l, f l ≤ B) (hx : x ≤ B) : ∀ l, va_up f k x l ≤ B := by
  intro l
  unfold va_up
  split
  · exact hx
  · exact h l
theorem op_add (h : Rel u w) (s t k : Int32) : (aAdd u s t k).1 = (bAdd w s t k).1 ∧ Rel (aAdd u s t k).2 (bAdd w s t k).2 := by
  obtain ⟨hm, hm12, hn, hn5⟩ := Rel_m h
  unfold aAdd bAdd
  rw [hn]
  by_cases e : pairE (w_n w) s t = 0
  · rw [if_pos e, if_pos e]
    by_cases e2 : isIn 1 99 k = true
    · rw [if_pos e2, if_pos e2]
      by_cases e3 : x_m u < 12
      · rw [if_pos e3, if_neg (show ¬ w_m w = 12 by omega)]
        obtain ⟨a, b, ha, hb, rfl, rfl, hab⟩ := pairE_0 hn5 e
        obtain ⟨j, hj1, hj2, rfl⟩ := isIn_t (by omega) (by omega) e2
        rw [ndx_nI (by omega), ndx_nI (by omega), ndx_nI (by omega)]
        refine ⟨by rw [hm], ?_⟩
        have h' := h
        obtain ⟨r1, r2, r3, r4, r5, ⟨r6, r6b⟩, r7, r8, r9⟩ := h'
        obtain ⟨q1, q2, q3, q4, q5⟩ := r3
        refine Rel_new (u1 := xs_m (xs_met (xs_tgt (xs_src u (va_up (x_src u) (x_m u) a)) (va_up (x_tgt u) (x_m u) b)) (va_up (x_met u) (x_m u) j)) (x_m u + 1)) h ⟨r1.1, by show x_m u + 1 ≤ 12; omega, up_lt r1.2.2.1 (by omega), up_lt r1.2.2.2.1 (by omega), up_le r1.2.2.2.2.1 (by omega), r1.2.2.2.2.2⟩ ⟨r2.1, r2.2.1, by show w_m w + 1 ≤ 12; omega, up_lt r2.2.2.2.1 (by omega), up_lt r2.2.2.2.2.1 (by omega), up_le r2.2.2.2.2.2 (by omega)⟩ ⟨q1, ?_, ?_, ?_, ?_⟩ rfl (by show w_m w ≤ w_m w + 1; omega) (fun l hl => va_up_ne _ _ (by omega)) (fun l hl => va_up_ne _ _ (by omega)) rfl ⟨rfl, rfl⟩ ⟨fun l hl => ?_, fun l hl => ?_⟩ ⟨rfl, rfl, rfl, rfl⟩ ⟨rfl, rfl, rfl⟩ ⟨rfl, rfl⟩
        · show x_m u + 1 = w_m w + 1
          rw [q2]
        · show va_up (x_src u) (x_m u) a = va_up (w_src w) (w_m w) a
          rw [q2, q3]
        · show va_up (x_tgt u) (x_m u) b = va_up (w_tgt w) (w_m w) b
          rw [q2, q4]
        · show va_up (x_met u) (x_m u) j = va_up (w_met w) (w_m w) j
          rw [q2, q5]
        · have hl : l < w_m w + 1 := hl
          show x_load u l = va_up (w_load w) (w_m w) 0 l ∧ rng (x_load u l) 199980
          by_cases x : l = w_m w
          · rw [x, va_up_self, r6b _ (Nat.le_refl _)]
            exact ⟨rfl, by decide, by decide⟩
          · rw [va_up_ne _ _ x]
            exact r6 l (by omega)
        · have hl : w_m w + 1 ≤ l := hl
          exact r6b l (by omega)
      · rw [if_neg e3, if_pos (show w_m w = 12 by omega)]
        exact ⟨rfl, h⟩
    · rw [if_neg e2, if_neg e2]
      exact ⟨rfl, h⟩
  · rw [if_neg e, if_neg e]
    exact ⟨rfl, h⟩
theorem op_met (h : Rel u w) (q k : Int32) : (aSetMet u q k).1 = (bSetMet w q k).1 ∧ Rel (aSetMet u q k).2 (bSetMet w q k).2 := by
  obtain ⟨hm, hm12, hn, hn5⟩ := Rel_m h
  unfold aSetMet bSetMet
  rw [hm]
  by_cases e : inB q (w_m w) = true
  · rw [if_pos e, if_pos e]
    by_cases e2 : isIn 1 99 k = true
    · rw [if_pos e2, if_pos e2]
      obtain ⟨j, hj1, hj2, rfl⟩ := isIn_t (by omega) (by omega) e2
      rw [ndx_nI (by omega)]
      have h' := h
      obtain ⟨r1, r2, r3, r4, r5, r6, r7, r8, r9⟩ := h'
      obtain ⟨q1, q2, q3, q4, q5⟩ := r3
      refine ⟨by rw [q5], ?_⟩
      refine Rel_new (u1 := xs_met u (va_up (x_met u) (ndx q) j)) h ⟨r1.1, r1.2.1, r1.2.2.1, r1.2.2.2.1, up_le r1.2.2.2.2.1 (by omega), r1.2.2.2.2.2⟩ ⟨r2.1, r2.2.1, r2.2.2.1, r2.2.2.2.1, r2.2.2.2.2.1, up_le r2.2.2.2.2.2 (by omega)⟩ ⟨q1, q2, q3, q4, ?_⟩ rfl (Nat.le_refl _) (fun l hl => rfl) (fun l hl => rfl) rfl ⟨rfl, rfl⟩ r6 ⟨rfl, rfl, rfl, rfl⟩ ⟨rfl, rfl, rfl⟩ ⟨rfl, rfl⟩
      show va_up (x_met u) (ndx q) j = va_up (w_met w) (ndx q) j
      rw [q5]
    · rw [if_neg e2, if_neg e2]
      exact ⟨rfl, h⟩
  · rw [if_neg e, if_neg e]
    exact ⟨rfl, h⟩
theorem bm32 {x : Int} (h : x.natAbs < 2147483648) : x.bmod (2 ^ 32) = x := by
  apply Int.bmod_eq_of_le <;> omega
theorem sumI_i {f : Nat → Int32} {B : Nat → Nat} {n : Nat} (h : ∀ j, j < n → 0 ≤ (f j).toInt ∧ (f j).toInt ≤ B j) (hB : sumN B n < 2147483648) : (sumI f n).toInt = sumZ (fun j => (f j).toInt) n := by
  induction n with
  | zero => rfl
  | succ n ih =>
    simp only [sumN] at hB
    simp only [sumI, sumZ]
    have h1 := ih (fun j hj => h j (by omega)) (by omega)
    have h2 := sumZ_rng (f := fun j => (f j).toInt) (B := B) (n := n) (fun j hj => h j (by omega))
    have h3 := h n (by omega)
    rw [Int32.toInt_add, h1, bm32 (by omega)]
theorem sumI_add (f g : Nat → Int32) (n : Nat) : sumI (fun j => f j + g j) n = sumI f n + sumI g n := by
  induction n with
  | zero => rfl
  | succ n ih =>
    simp only [sumI]
    rw [ih, Int32.add_assoc, Int32.add_assoc]
    congr 1
    rw [← Int32.add_assoc, ← Int32.add_assoc, Int32.add_comm (f n)]
theorem sumI_0 {f : Nat → Int32} {n : Nat} (h : ∀ j, j < n → f j = 0) : sumI f n = 0 := by
  induction n with
  | zero => rfl
  | succ n ih =>
    simp only [sumI]
    rw [ih (fun j hj => h j (by omega)), h n (by omega)]
    rfl
theorem sumI_delta {f : Nat → Int32} {n l : Nat} (hl : l < n) (h : ∀ j, j < n → ¬ j = l → f j = 0) : sumI f n = f l := by
  induction n with
  | zero => omega
  | succ n ih =>
    simp only [sumI]
    by_cases e : l = n
    · rw [sumI_0 (fun j hj => h j (by omega) (by omega)), e, Int32.zero_add]
    · rw [ih (by omega) (fun j hj x => h j (by omega) x), h n (by omega) (fun x => e x.symm), Int32.add_zero]
theorem tot_all (has : Nat → Bool) (dem : Nat → Int32) : ∀ n, n ≤ 25 → sumI (totO has dem n) 5 = sumI (fun s => if has s then dem s else 0) n
  | 0, _ => by
    refine sumI_0 (fun j _ => rfl)
  | n + 1, hn => by
    show sumI (totO has dem (n + 1)) 5 = sumI (fun s => if has s then dem s else 0) n + (if has n then dem n else 0)
    rw [← tot_all has dem n (by omega)]
    have e : totO has dem (n + 1) = fun v => totO has dem n v + (if has n && decide (n / 5 = v) then dem n else 0) := rfl
    rw [e, sumI_add]
    congr 1
    rw [sumI_delta (l := n / 5) (by omega) (fun j hj x => by simp [show ¬ n / 5 = j from fun y => x y.symm])]
    simp
theorem acc_tot {has has' : Nat → Bool} {dem dem' b : Nat → Int32} (hb : ∀ v, v < 5 → b v = 0) : ∀ n, n ≤ 25 → (∀ s, s < n → has s = has' s ∧ dem s = dem' s) → ∀ v, v < 5 → totO has dem n v = accO has' dem' b n v ∧ totI has dem n v = accI has' dem' b n v
  | 0, _, _, v, hv => ⟨(hb v hv).symm, (hb v hv).symm⟩
  | n + 1, hn, h, v, hv => by
    obtain ⟨i1, i2⟩ := acc_tot hb n (by omega) (fun s hs => h s (by omega)) v hv
    obtain ⟨h1, h2⟩ := h n (by omega)
    simp only [accO, accI]
    have e1 : totO has dem (n + 1) v = totO has dem n v + (if has n && decide (n / 5 = v) then dem n else 0) := rfl
    have e2 : totI has dem (n + 1) v = totI has dem n v + (if has n && decide (n % 5 = v) then dem n else 0) := rfl
    rw [e1, e2, i1, i2, h1, h2]
    cases has' n with
    | false => simp [Int32.add_zero]
    | true =>
      simp only [Bool.true_and, if_true]
      constructor
      · by_cases x : v = n / 5
        · rw [x, va_up_self]; simp
        · rw [va_up_ne _ _ x]; simp [show ¬ n / 5 = v from fun y => x y.symm, Int32.add_zero]
      · by_cases x : v = n % 5
        · rw [x, va_up_self]; simp
        · rw [va_up_ne _ _ x]; simp [show ¬ n % 5 = v from fun y => x y.symm, Int32.add_zero]
theorem b_9999 : sumN (fun _ => 9999) 25 = 249975 := by decide
theorem op_meas (h : Rel u w) : sumI (totO (uHas (x_len u)) (x_dem u) 25) 5 = sumI (fun s => if (wHas (wBit w)) s then w_dem w s else 0) 25 ∧ Rel (xMeasure u) (wMeas w) := by
  constructor
  · rw [tot_all _ _ 25 (Nat.le_refl _)]
    exact sumI_congr (fun s hs => by rw [(Rel_rt h hs).2, (h.2.2.2.2.1 s hs).1])
  · have hoff := fun s hs hh => has_off h (s := s) hs hh
    have hld := fun k => ld_eq h k
    have hrt := fun s hs => Rel_rt h (s := s) hs
    obtain ⟨r1, r2, r3, r4, r5, ⟨r6, r6b⟩, r7, r8, r9⟩ := h
    have part : ∀ (p : Nat → Bool) (B : Nat → Nat), (∀ s, s < 25 → p s = true → B s = 9999) → sumN B 25 < 2147483648 → 0 ≤ (sumI (fun s => if p s then x_dem u s else 0) 25).toInt ∧ (sumI (fun s => if p s then x_dem u s else 0) 25).toInt ≤ sumN B 25 := by
      intro p B hp hB
      have hb : ∀ s, s < 25 → 0 ≤ (if p s then x_dem u s else 0).toInt ∧ (if p s then x_dem u s else 0).toInt ≤ B s := by
        intro s hs
        by_cases x : p s = true
        · rw [if_pos x, hp s hs x]
          exact (r5 s hs).2
        · rw [if_neg x]
          exact ⟨Int.le_refl 0, by show (0 : Int) ≤ _; omega⟩
      rw [sumI_i hb hB]
      exact sumZ_rng hb
    have hacc := fun v hv => acc_tot (has := uHas (x_len u)) (has' := wHas (wBit w)) (dem := x_dem u) (dem' := w_dem w) (b := mixN (w_out w) (fun _ => 0) 5) (fun v hv => if_pos hv) 25 (Nat.le_refl _) (fun s hs => ⟨(hrt s hs).2.symm, (r5 s hs).1⟩) v hv
    have hacc2 := fun v hv => acc_tot (has := uHas (x_len u)) (has' := wHas (wBit w)) (dem := x_dem u) (dem' := w_dem w) (b := mixN (w_inn w) (fun _ => 0) 5) (fun v hv => if_pos hv) 25 (Nat.le_refl _) (fun s hs => ⟨(hrt s hs).2.symm, (r5 s hs).1⟩) v hv
    have b9 := b_9999
    have o9 := off_9999
    have t1 := fun v => part (fun s => uHas (x_len u) s && decide (s / 5 = v)) (fun _ => 9999) (fun _ _ _ => rfl) (by omega)
    have t2 := fun v => part (fun s => uHas (x_len u) s && decide (s % 5 = v)) (fun _ => 9999) (fun _ _ _ => rfl) (by omega)
    rw [b9] at t1 t2
    refine ⟨r1, r2, r3, r4, r5, ⟨fun l hl => ?_, fun l hl => ?_⟩, ⟨fun v hv => ⟨⟨(hacc v hv).1, t1 v⟩, (hacc2 v hv).2, t2 v⟩, fun v hv hv5 => ⟨?_, ?_⟩⟩, r8, r9⟩
    · have hl : l < w_m w := hl
      show mixN (x_load u) (ldOf (uUses (x_len u) (x_lnk u)) (x_dem u)) (x_m u) l = mixN (w_load w) (ldOf (wUses (wBit w)) (w_dem w)) (w_m w) l ∧ rng (mixN (x_load u) (ldOf (uUses (x_len u) (x_lnk u)) (x_dem u)) (x_m u) l) 199980
      unfold mixN
      rw [if_pos hl, if_pos (by rw [r3.2.1]; exact hl), ← hld]
      refine ⟨rfl, ?_⟩
      have := part (fun s => uUses (x_len u) (x_lnk u) s l) (offB 9999) (fun s hs x => if_neg (hoff s hs (uses_has x)).2.2) (by omega)
      rw [o9] at this
      exact this
    · have hl : w_m w ≤ l := hl
      show mixN (x_load u) (ldOf (uUses (x_len u) (x_lnk u)) (x_dem u)) (x_m u) l = 0
      unfold mixN
      rw [if_neg (by rw [r3.2.1]; omega)]
      exact r6b l hl
    · have hv : w_n w ≤ v := hv
      show sumI (fun s => if uHas (x_len u) s && decide (s / 5 = v) then x_dem u s else 0) 25 = 0
      refine sumI_0 (fun s hs => if_neg (fun x => ?_))
      rw [Bool.and_eq_true, decide_eq_true_eq] at x
      have := hoff s hs x.1
      omega
    · have hv : w_n w ≤ v := hv
      show sumI (fun s => if uHas (x_len u) s && decide (s % 5 = v) then x_dem u s else 0) 25 = 0
      refine sumI_0 (fun s hs => if_neg (fun x => ?_))
      rw [Bool.and_eq_true, decide_eq_true_eq] at x
      have := hoff s hs x.1
      omega
end OPS
