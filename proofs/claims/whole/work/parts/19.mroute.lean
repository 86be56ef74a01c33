/-! the reference's distances, one table for all targets -/
def vw (d : Nat → Nat) (t v : Nat) : Nat := if v < 5 then d (5 * v + t) else 1000000
def rlx (met src tgt : Nat → Nat) (l t : Nat) (d : Nat → Nat) : Nat → Nat := va_up d (5 * src l + t) (if wM met l + d (5 * tgt l + t) < d (5 * src l + t) then wM met l + d (5 * tgt l + t) else d (5 * src l + t))
def rlxT (met src tgt : Nat → Nat) (l : Nat) : Nat → (Nat → Nat) → Nat → Nat
  | 0, d => d
  | t + 1, d => rlx met src tgt l t (rlxT met src tgt l t d)
def rlxL (met src tgt : Nat → Nat) (n : Nat) : Nat → (Nat → Nat) → Nat → Nat
  | 0, d => d
  | l + 1, d => rlxT met src tgt l n (rlxL met src tgt n l d)
def rlxR (met src tgt : Nat → Nat) (n m : Nat) : Nat → (Nat → Nat) → Nat → Nat
  | 0, d => d
  | k + 1, d => rlxL met src tgt n m (rlxR met src tgt n m k d)
def d0F (p : Nat) : Nat := if p / 5 = p % 5 then 0 else 1000000
def dstF (met src tgt : Nat → Nat) (n m : Nat) (d : Nat → Nat) : Nat → Nat := rlxR met src tgt n m 5 (mixN d d0F 25)
section MR
variable {met src tgt : Nat → Nat} {n m : Nat}
theorem rlx_le {d : Nat → Nat} {l t B : Nat} (h : ∀ p, p < 25 → d p ≤ B) (hs : src l < 5) (ht : t < 5) : ∀ p, p < 25 → rlx met src tgt l t d p ≤ B := by
  intro p hp
  unfold rlx
  by_cases e : p = 5 * src l + t
  · rw [e, va_up_self]
    have := h (5 * src l + t) (by omega)
    split <;> omega
  · rw [va_up_ne _ _ e]; exact h p hp
theorem rlxT_le {d : Nat → Nat} {l B : Nat} (h : ∀ p, p < 25 → d p ≤ B) (hs : src l < 5) : ∀ t, t ≤ 5 → ∀ p, p < 25 → rlxT met src tgt l t d p ≤ B
  | 0, _ => h
  | t + 1, q => rlx_le (rlxT_le h hs t (by omega)) hs (by omega)
theorem rlxL_le {d : Nat → Nat} {B : Nat} (h : ∀ p, p < 25 → d p ≤ B) (hs : ∀ l, src l < 5) (hn : n ≤ 5) : ∀ l, ∀ p, p < 25 → rlxL met src tgt n l d p ≤ B
  | 0 => h
  | l + 1 => rlxT_le (rlxL_le h hs hn l) (hs l) n hn
theorem rlxR_le {d : Nat → Nat} {B : Nat} (h : ∀ p, p < 25 → d p ≤ B) (hs : ∀ l, src l < 5) (hn : n ≤ 5) : ∀ k, ∀ p, p < 25 → rlxR met src tgt n m k d p ≤ B
  | 0 => h
  | k + 1 => rlxL_le (rlxR_le h hs hn k) hs hn m
theorem d0_le (d : Nat → Nat) : ∀ p, p < 25 → mixN d d0F 25 p ≤ 1000000 := by
  intro p hp
  rw [mixN_lt hp]
  unfold d0F
  split <;> omega
theorem rlx_vw {d : Nat → Nat} {l t t' : Nat} (ht : t < 5) (ht' : t' < 5) (hs : src l < 5) (hg : tgt l < 5) : vw (rlx met src tgt l t' d) t = if t' = t then relax1 (wM met) src tgt l (vw d t) else vw d t := by
  funext v
  unfold vw
  by_cases hv : v < 5
  · rw [if_pos hv]
    unfold rlx
    by_cases e : t' = t
    · subst e
      rw [if_pos rfl]
      unfold relax1
      by_cases e2 : v = src l
      · subst e2
        simp only [va_up_self, hs, hg, if_true]
      · rw [va_up_ne _ _ (by omega), va_up_ne _ _ e2, if_pos hv]
    · rw [if_neg e, va_up_ne _ _ (by omega), if_pos hv]
  · rw [if_neg hv]
    split
    · unfold relax1
      rw [va_up_ne _ _ (by omega), if_neg hv]
    · simp [hv]
theorem rlxT_vw {d : Nat → Nat} {l t : Nat} (ht : t < 5) (hs : src l < 5) (hg : tgt l < 5) : ∀ k, k ≤ 5 → vw (rlxT met src tgt l k d) t = if t < k then relax1 (wM met) src tgt l (vw d t) else vw d t
  | 0, _ => rfl
  | k + 1, hk => by
    show vw (rlx met src tgt l k (rlxT met src tgt l k d)) t = _
    rw [rlx_vw ht (by omega) hs hg, rlxT_vw ht hs hg k (by omega)]
    by_cases e : k = t
    · subst e
      simp
    · by_cases h : t < k
      · simp [e, h, show t < k + 1 by omega]
      · simp [e, h, show ¬ t < k + 1 by omega]
theorem rlxL_vw {d : Nat → Nat} {t : Nat} (ht : t < n) (hn : n ≤ 5) (hs : ∀ l, src l < 5) (hg : ∀ l, tgt l < 5) : ∀ l, vw (rlxL met src tgt n l d) t = relaxN (wM met) src tgt l (vw d t)
  | 0 => rfl
  | l + 1 => by
    show vw (rlxT met src tgt l n (rlxL met src tgt n l d)) t = relax1 (wM met) src tgt l _
    rw [rlxT_vw (by omega) (hs l) (hg l) n hn, if_pos ht, rlxL_vw ht hn hs hg l]
theorem rlxR_vw {d : Nat → Nat} {t : Nat} (ht : t < n) (hn : n ≤ 5) (hs : ∀ l, src l < 5) (hg : ∀ l, tgt l < 5) : ∀ k, vw (rlxR met src tgt n m k d) t = roundsN (wM met) src tgt m k (vw d t)
  | 0 => rfl
  | k + 1 => by
    show vw (rlxL met src tgt n m (rlxR met src tgt n m k d)) t = relaxN (wM met) src tgt m _
    rw [rlxL_vw ht hn hs hg m, rlxR_vw ht hn hs hg k]
theorem d0_vw (d : Nat → Nat) {t : Nat} (ht : t < 5) : vw (mixN d d0F 25) t = va_up (fun _ => 1000000) t 0 := by
  funext v
  unfold vw
  by_cases hv : v < 5
  · rw [if_pos hv, mixN_lt (by omega)]
    unfold d0F va_up
    rw [show (5 * v + t) / 5 = v by omega, show (5 * v + t) % 5 = t by omega]
  · rw [if_neg hv]
    unfold va_up
    rw [if_neg (by omega)]
theorem dst_vw (d : Nat → Nat) {t : Nat} (ht : t < n) (hn : n ≤ 5) (hs : ∀ l, src l < 5) (hg : ∀ l, tgt l < 5) : vw (dstF met src tgt n m d) t = costsTo (wM met) src tgt m 5 t := by
  unfold dstF costsTo
  rw [rlxR_vw ht hn hs hg, d0_vw d (by omega)]
theorem dst_rest (d : Nat → Nat) {t : Nat} (ht : t < n) (hn : n ≤ 5) (hs : ∀ l, src l < 5) (hg : ∀ l, tgt l < 5) : rest (wM met) src tgt m t (vw (dstF met src tgt n m d) t) := by
  rw [dst_vw d ht hn hs hg]
  exact rounds_done hs hg (fun l => by unfold wM; omega) (by omega) (by omega)
/-- the first link is there, and the cost falls -/
theorem next_some {c : Nat → Nat} {t v : Nat} (hc : rest (wM met) src tgt m t c) (hv : v < 5) (hvt : ¬ v = t) (hlt : c v < 1000000) : ∃ l, nxtX c (wM met) src tgt m v = some l ∧ l < m ∧ src l = v ∧ wM met l + c (tgt l) = c v := by
  unfold nxtX
  rw [if_neg (by omega)]
  cases h : fstN (fun l => decide (src l = v) && decide (wM met l + c (tgt l) = c v)) m with
  | some l =>
    obtain ⟨a, b, -⟩ := fstN_some.mp h
    have b2 : src l = v ∧ wM met l + c (tgt l) = c v := by simpa using b
    exact ⟨l, rfl, a, b2.1, b2.2⟩
  | none =>
    have hn := fstN_none.mp h
    rcases hc.2.2.2 v hv hvt with q | ⟨l, q1, q2, q3⟩
    · omega
    · have := hn l q1
      simp [q2, q3] at this
end MR
/-- the links of a route as bits -/
def bitsN (nx : Nat → Option Nat) (tgt : Nat → Nat) (t : Nat) : Nat → Nat → Nat → Nat
  | 0, _, a => a
  | k + 1, v, a => if v = t then a else match nx v with
    | none => a
    | some l => bitsN nx tgt t k (tgt l) (a ||| 2 ^ l)
theorem bitsN_t {nx : Nat → Option Nat} {tgt : Nat → Nat} {t k v a : Nat} (h : v = t) : bitsN nx tgt t k v a = a := by
  cases k with
  | zero => rfl
  | succ k => simp [bitsN, h]
theorem bitsN_some {nx : Nat → Option Nat} {tgt : Nat → Nat} {t k v a l : Nat} (h : nx v = some l) (hv : ¬ v = t) : bitsN nx tgt t (k + 1) v a = bitsN nx tgt t k (tgt l) (a ||| 2 ^ l) := by simp [bitsN, h, hv]
theorem or_lt {a l : Nat} (ha : a < 4096) (hl : l < 12) : a ||| 2 ^ l < 4096 := by
  have h1 : 2 ^ l < 2 ^ 12 := Nat.pow_lt_pow_right (by decide) hl
  exact Nat.or_lt_two_pow (n := 12) ha h1
def nxW (d met src tgt : Nat → Nat) (m t : Nat) : Nat → Option Nat := nxtX (vw d t) (wM met) src tgt m
def bitF (d met src tgt : Nat → Nat) (n m p : Nat) : Nat := if decide (¬ p / 5 = p % 5) && (decide (p / 5 < n) && (decide (p % 5 < n) && decide (d p < 1000000))) then bitsN (nxW d met src tgt m (p % 5)) tgt (p % 5) (d p % 10) (p / 5) 0 else 0
theorem bitsN_lt {nx : Nat → Option Nat} {tgt : Nat → Nat} {t : Nat} (hnx : ∀ v l, nx v = some l → l < 12) : ∀ k v a, a < 4096 → bitsN nx tgt t k v a < 4096
  | 0, v, a, h => h
  | k + 1, v, a, h => by
    by_cases hv : v = t
    · rw [bitsN_t hv]; exact h
    · cases hl : nx v with
      | none => simp [bitsN, hl, hv, h]
      | some l => rw [bitsN_some hl hv]; exact bitsN_lt hnx k _ _ (or_lt h (hnx v l hl))
theorem bitF_lt {d met src tgt : Nat → Nat} {n m p : Nat} (hm : m ≤ 12) : bitF d met src tgt n m p < 4096 := by
  unfold bitF
  split
  · exact bitsN_lt (fun v l h => Nat.lt_of_lt_of_le (nxtX_lt h) hm) _ _ _ (by decide)
  · decide
/-- the link at a place of a route -/
def pathL (nx : Nat → Option Nat) (tgt : Nat → Nat) : Nat → Nat → Option Nat
  | 0, v => nx v
  | j + 1, v => match nx v with
    | none => none
    | some l => pathL nx tgt j (tgt l)
theorem pathL_s {nx : Nat → Option Nat} {tgt : Nat → Nat} : ∀ (j v l : Nat), pathL nx tgt j v = some l → pathL nx tgt (j + 1) v = nx (tgt l)
  | 0, v, l, h => by
    have h1 : nx v = some l := h
    simp [pathL, h1]
  | j + 1, v, l, h => by
    cases hv : nx v with
    | none => simp [pathL, hv] at h
    | some q =>
      have h1 : pathL nx tgt j (tgt q) = some l := by simpa [pathL, hv] using h
      have := pathL_s j (tgt q) l h1
      show (match nx v with | none => none | some l => pathL nx tgt (j + 1) (tgt l)) = _
      rw [hv]
      exact this
theorem nI_or (a b : Nat) : nI a ||| nI b = nI (a ||| b) := by
  apply Int32.toBitVec_inj.mp
  show BitVec.ofNat 32 a ||| BitVec.ofNat 32 b = BitVec.ofNat 32 (a ||| b)
  rw [BitVec.ofNat_or]
theorem s_l32 : ∀ n, n < 32 → ((nI n &&& 31).toBitVec.smod 32).toNat = n := by decide
section MRV
variable {S : Type} {K : vK} {G : vG S} {cc : ByteArray} {nL : Nat} {own : String} {Ts : List Cond} {rm : Room} {u : S} {lv : List (Nat × Value)} {st : List Value} {pc : Nat}
theorem v_iorN (n : Nat) (hE : eV K G cc nL own Ts rm) {x y : Nat} (hd : decode cc pc = .ok (.ior, 1)) (hn : pc + 1 = n) (k : vV K G u lv (.int (nI (x ||| y)) :: st) n) : vV K G u lv (.int (nI y) :: .int (nI x) :: st) pc := v_ior n hE hd hn (by rw [nI_or]; exact k)
theorem v_ishl1 (n : Nat) (hE : eV K G cc nL own Ts rm) {y : Nat} (hy : y < 12) (hd : decode cc pc = .ok (.ishl, 1)) (hn : pc + 1 = n) (k : vV K G u lv (.int (nI (2 ^ y)) :: st) n) : vV K G u lv (.int (nI y) :: .int (nI 1) :: st) pc := v_ishl n hE hd hn (by
  have h1 : 2 ^ y < 2 ^ 12 := Nat.pow_lt_pow_right (by decide) hy
  rw [pk_shlN (n := 1) (nI y &&& 31) y (s_l32 y (by omega)) (by rw [Nat.one_mul]; omega), Nat.one_mul]
  exact k)
theorem v_ishrN (n : Nat) (hE : eV K G cc nL own Ts rm) {x y : Nat} (hx : x < 2 ^ 31) (hy : y < 32) (hd : decode cc pc = .ok (.ishr, 1)) (hn : pc + 1 = n) (k : vV K G u lv (.int (nI (x / 2 ^ y)) :: st) n) : vV K G u lv (.int (nI y) :: .int (nI x) :: st) pc := v_ishr n hE hd hn (by rw [pk_shrN hx (nI y &&& 31) y (s_l32 y hy)]; exact k)
theorem v_iand1 (n : Nat) (hE : eV K G cc nL own Ts rm) {x : Nat} (hx : x < 2 ^ 32) (hd : decode cc pc = .ok (.iand, 1)) (hn : pc + 1 = n) (k : vV K G u lv (.int (nI (x % 2)) :: st) n) : vV K G u lv (.int (nI 1) :: .int (nI x) :: st) pc := v_iand n hE hd hn (by rw [pk_andN hx (m := nI 1) 1 (by decide)]; exact k)
end MRV
