/-! the routes that the class holds, and those that the reference finds -/
section RR
variable {met src tgt : Nat → Nat} {n m t : Nat}
theorem walk_ok {c : Nat → Nat} (ht : ∀ l, tgt l < 5) (hc : rest (wM met) src tgt m t c) : ∀ (k v len : Nat) (row : Nat → Nat), v < 5 → c v < 1000000 → c v % 10 ≤ k →
    (walkN (nxtX c (wM met) src tgt m) tgt t k v len row).1 = t ∧ (walkN (nxtX c (wM met) src tgt m) tgt t k v len row).2.1 = len + c v % 10 ∧ (∀ j, j < len → (walkN (nxtX c (wM met) src tgt m) tgt t k v len row).2.2 j = row j) ∧ ∀ j, j < c v % 10 → pathL (nxtX c (wM met) src tgt m) tgt j v = some ((walkN (nxtX c (wM met) src tgt m) tgt t k v len row).2.2 (len + j))
  | 0, v, len, row, hv, hlt, hk => by
    have hvt : v = t := by
      apply Classical.byContradiction
      intro hne
      obtain ⟨l, h1, h2, h3, h4⟩ := next_some hc hv hne hlt
      unfold wM at h4
      have hz := hops4 ht hc (ht l) (by omega)
      omega
    refine ⟨hvt, by show len = len + c v % 10; omega, fun j hj => rfl, fun j hj => absurd hj (by omega)⟩
  | k + 1, v, len, row, hv, hlt, hk => by
    by_cases hvt : v = t
    · rw [walkN_t hvt]
      have h0 : c v = 0 := by rw [hvt]; exact hc.1
      refine ⟨hvt, by show len = len + c v % 10; omega, fun j hj => rfl, fun j hj => absurd hj (by omega)⟩
    · obtain ⟨l, h1, h2, h3, h4⟩ := next_some hc hv hvt hlt
      unfold wM at h4
      have hz := hops4 ht hc (ht l) (by omega)
      have hz2 := hops4 ht hc hv hlt
      rw [walkN_some h1 hvt]
      obtain ⟨a, b, d, e⟩ := walk_ok ht hc k (tgt l) (len + 1) (va_up row len l) (ht l) (by omega) (by omega)
      refine ⟨a, by rw [b]; omega, fun j hj => ?_, fun j hj => ?_⟩
      · rw [d j (by omega), va_up_ne _ _ (by omega)]
      · cases j with
        | zero =>
          rw [show len + 0 = len from rfl, d len (by omega), va_up_self]
          exact h1
        | succ j =>
          have := e j (by omega)
          rw [show len + (j + 1) = len + 1 + j by omega, ← this]
          show (match nxtX c (wM met) src tgt m v with | none => none | some l => pathL _ tgt j (tgt l)) = _
          rw [h1]
theorem bits_ok {c : Nat → Nat} (ht : ∀ l, tgt l < 5) (hc : rest (wM met) src tgt m t c) (q : Nat) : ∀ (k v a : Nat), v < 5 → c v < 1000000 → c v % 10 = k →
    ((bitsN (nxtX c (wM met) src tgt m) tgt t k v a).testBit q = true ↔ a.testBit q = true ∨ ∃ j, j < k ∧ pathL (nxtX c (wM met) src tgt m) tgt j v = some q)
  | 0, v, a, hv, hlt, hk => by
    show a.testBit q = true ↔ _
    constructor
    · exact fun h => Or.inl h
    · rintro (h | ⟨j, h, -⟩)
      · exact h
      · omega
  | k + 1, v, a, hv, hlt, hk => by
    have hvt : ¬ v = t := fun e => by rw [e, hc.1] at hk; omega
    obtain ⟨l, h1, h2, h3, h4⟩ := next_some hc hv hvt hlt
    unfold wM at h4
    have hz := hops4 ht hc (ht l) (by omega)
    have hz2 := hops4 ht hc hv hlt
    rw [bitsN_some h1 hvt, bits_ok ht hc q k (tgt l) (a ||| 2 ^ l) (ht l) (by omega) (by omega), Nat.testBit_or, Bool.or_eq_true]
    constructor
    · rintro ((h | h) | ⟨j, hj, hp⟩)
      · exact Or.inl h
      · refine Or.inr ⟨0, by omega, ?_⟩
        rw [Nat.testBit_two_pow] at h
        have : l = q := by simpa using h
        rw [← this]
        exact h1
      · refine Or.inr ⟨j + 1, by omega, ?_⟩
        show (match nxtX c (wM met) src tgt m v with | none => none | some l => pathL _ tgt j (tgt l)) = _
        rw [h1]
        exact hp
    · rintro (h | ⟨j, hj, hp⟩)
      · exact Or.inl (Or.inl h)
      · cases j with
        | zero =>
          have h5 : some l = some q := h1.symm.trans hp
          cases h5
          exact Or.inl (Or.inr (by rw [Nat.testBit_two_pow]; simp))
        | succ j =>
          refine Or.inr ⟨j, by omega, ?_⟩
          have : (match nxtX c (wM met) src tgt m v with | none => none | some l => pathL (nxtX c (wM met) src tgt m) tgt j (tgt l)) = some q := hp
          rw [h1] at this
          exact this
/-- the routes that belong to a network: lengths and links by pair -/
def rtOK (met src tgt : Nat → Nat) (n m : Nat) (len : Nat → Nat) (lnk : Nat → Nat → Nat) : Prop :=
  ∀ a b, a < 5 → b < 5 → (¬ (a < n ∧ b < n) → len (a * 5 + b) = 0) ∧ (a < n → b < n →
    (1000000 ≤ costsTo (wM met) src tgt m 5 b a → len (a * 5 + b) = 0) ∧ (costsTo (wM met) src tgt m 5 b a < 1000000 → len (a * 5 + b) = costsTo (wM met) src tgt m 5 b a % 10 ∧ ∀ j, j < len (a * 5 + b) → pathL (nxtX (costsTo (wM met) src tgt m 5 b) (wM met) src tgt m) tgt j a = some (lnk (a * 5 + b) j)))
theorem rest_M (hs : ∀ l, src l < 5) (ht : ∀ l, tgt l < 5) (ht5 : t < 5) : rest (wM met) src tgt m t (costsTo (wM met) src tgt m 5 t) := rounds_done hs ht (fun l => by unfold wM; omega) ht5 (by omega)
theorem rest_X (hs : ∀ l, src l < 5) (ht : ∀ l, tgt l < 5) (ht5 : t < 5) : rest (wX met) src tgt m t (costsTo (wX met) src tgt m 4 t) := rounds_done hs ht (fun l => by unfold wX; omega) ht5 (by omega)
theorem walk_congr {nx nx' : Nat → Option Nat} {tgt : Nat → Nat} {t : Nat} (ht : ∀ l, tgt l < 5) (h : ∀ v, v < 5 → nx v = nx' v) : ∀ (k v len : Nat) (row : Nat → Nat), v < 5 → walkN nx tgt t k v len row = walkN nx' tgt t k v len row
  | 0, _, _, _, _ => rfl
  | k + 1, v, len, row, hv => by
    by_cases e : v = t
    · rw [walkN_t e, walkN_t e]
    · cases hn : nx' v with
      | none => rw [walkN_none ((h v hv).trans hn), walkN_none hn]
      | some l => rw [walkN_some ((h v hv).trans hn) e, walkN_some hn e]; exact walk_congr ht h k _ _ _ (ht l)
/-- one target's routes -/
theorem rtN_at {nx : Nat → Option Nat} {L : rtL} (ht5 : t < 5) : ∀ (k a : Nat), k ≤ 5 → a < 5 → ∀ b, b < 5 →
    (¬ (b = t ∧ a < k) → (rtN nx tgt t k L).1 (a * 5 + b) = L.1 (a * 5 + b) ∧ (rtN nx tgt t k L).2 (a * 5 + b) = L.2 (a * 5 + b)) ∧
    (b = t → a < k → (rtN nx tgt t k L).1 (a * 5 + b) = (if (walkN nx tgt t 4 a 0 (L.2 (a * 5 + t))).1 = t then (walkN nx tgt t 4 a 0 (L.2 (a * 5 + t))).2.1 else 0) ∧ (rtN nx tgt t k L).2 (a * 5 + b) = (walkN nx tgt t 4 a 0 (L.2 (a * 5 + t))).2.2)
  | 0, a, _, _, b, _ => ⟨fun _ => ⟨rfl, rfl⟩, fun _ h => absurd h (by omega)⟩
  | k + 1, a, hk, ha, b, hb => by
    obtain ⟨h1, h2⟩ := rtN_at (nx := nx) (L := L) ht5 k a (by omega) ha b hb
    obtain ⟨h3, -⟩ := rtN_at (nx := nx) (L := L) ht5 k k (by omega) (by omega) t ht5
    have h3 := h3 (by omega)
    show (¬ (b = t ∧ a < k + 1) → (rt1 nx tgt t k (rtN nx tgt t k L)).1 (a * 5 + b) = _ ∧ (rt1 nx tgt t k (rtN nx tgt t k L)).2 (a * 5 + b) = _) ∧ (b = t → a < k + 1 → (rt1 nx tgt t k (rtN nx tgt t k L)).1 (a * 5 + b) = _ ∧ (rt1 nx tgt t k (rtN nx tgt t k L)).2 (a * 5 + b) = _)
    unfold rt1
    rw [h3.2]
    by_cases e : a * 5 + b = k * 5 + t
    · have e1 : a = k := by omega
      have e2 : b = t := by omega
      subst e1
      subst e2
      refine ⟨fun q => absurd ⟨rfl, by omega⟩ q, fun _ _ => ⟨?_, ?_⟩⟩
      · exact va_up_self _ _ _
      · exact va_up_self _ _ _
    · refine ⟨fun q => ?_, fun q1 q2 => ?_⟩
      · have := h1 (by omega)
        exact ⟨(va_up_ne _ _ e).trans this.1, (va_up_ne _ _ e).trans this.2⟩
      · have := h2 q1 (by omega)
        exact ⟨(va_up_ne _ _ e).trans this.1, (va_up_ne _ _ e).trans this.2⟩
theorem rtT_at {z : (Nat → Nat) × rtL} (hn : n ≤ 5) (hs : ∀ l, src l < 5) (ht : ∀ l, tgt l < 5) (hm : ∀ l, met l ≤ 99) : ∀ (k : Nat), k ≤ n → ∀ a b, a < 5 → b < 5 →
    (¬ (b < k ∧ a < n) → (rtT (wX met) src tgt m n k z).2.1 (a * 5 + b) = z.2.1 (a * 5 + b)) ∧
    (b < k → a < n → ∃ row : Nat → Nat, (rtT (wX met) src tgt m n k z).2.1 (a * 5 + b) = (if (walkN (nxtX (costsTo (wM met) src tgt m 5 b) (wM met) src tgt m) tgt b 4 a 0 row).1 = b then (walkN (nxtX (costsTo (wM met) src tgt m 5 b) (wM met) src tgt m) tgt b 4 a 0 row).2.1 else 0) ∧ (rtT (wX met) src tgt m n k z).2.2 (a * 5 + b) = (walkN (nxtX (costsTo (wM met) src tgt m 5 b) (wM met) src tgt m) tgt b 4 a 0 row).2.2)
  | 0, _, a, b, _, _ => ⟨fun _ => rfl, fun h => absurd h (by omega)⟩
  | k + 1, hk, a, b, ha, hb => by
    obtain ⟨h1, h2⟩ := rtT_at (z := z) hn hs ht hm k (by omega) a b ha hb
    obtain ⟨h3, h4⟩ := rtN_at (nx := nxtX (costsTo (wX met) src tgt m 4 k) (wX met) src tgt m) (tgt := tgt) (L := (rtT (wX met) src tgt m n k z).2) (t := k) (by omega) n a hn ha b hb
    show (¬ (b < k + 1 ∧ a < n) → (rtN (nxtX (costsTo (wX met) src tgt m 4 k) (wX met) src tgt m) tgt k n (rtT (wX met) src tgt m n k z).2).1 (a * 5 + b) = _) ∧ (b < k + 1 → a < n → ∃ row : Nat → Nat, (rtN (nxtX (costsTo (wX met) src tgt m 4 k) (wX met) src tgt m) tgt k n (rtT (wX met) src tgt m n k z).2).1 (a * 5 + b) = _ ∧ (rtN (nxtX (costsTo (wX met) src tgt m 4 k) (wX met) src tgt m) tgt k n (rtT (wX met) src tgt m n k z).2).2 (a * 5 + b) = _)
    refine ⟨fun q => ?_, fun q1 q2 => ?_⟩
    · rw [(h3 (by omega)).1]
      exact h1 (by omega)
    · by_cases e : b = k
      · subst e
        obtain ⟨g1, g2⟩ := h4 rfl q2
        refine ⟨(rtT (wX met) src tgt m n b z).2.2 (a * 5 + b), ?_⟩
        rw [g1, g2]
        have hw := walk_congr (t := b) (nx := nxtX (costsTo (wX met) src tgt m 4 b) (wX met) src tgt m) (nx' := nxtX (costsTo (wM met) src tgt m 5 b) (wM met) src tgt m) ht (fun v hv => next8 hs ht hm (by omega) (rest_M hs ht (by omega)) (rest_X hs ht (by omega)) hv) 4 a 0 ((rtT (wX met) src tgt m n b z).2.2 (a * 5 + b)) ha
        rw [hw]
        exact ⟨rfl, rfl⟩
      · obtain ⟨row, g⟩ := h2 (by omega) q2
        refine ⟨row, ?_⟩
        rw [(h3 (by omega)).1, (h3 (by omega)).2]
        exact g
/-- what findRoutes leaves belongs to the network -/
theorem rt_found {z : (Nat → Nat) × rtL} (hn : n ≤ 5) (hs : ∀ l, src l < 5) (ht : ∀ l, tgt l < 5) (hm : ∀ l, met l ≤ 99) (h0 : ∀ a b, a < 5 → b < 5 → ¬ (a < n ∧ b < n) → z.2.1 (a * 5 + b) = 0) : rtOK met src tgt n m (rtT (wX met) src tgt m n n z).2.1 (rtT (wX met) src tgt m n n z).2.2 := by
  intro a b ha hb
  obtain ⟨h1, h2⟩ := rtT_at (m := m) (z := z) hn hs ht hm n (Nat.le_refl n) a b ha hb
  refine ⟨fun q => by rw [h1 (by omega)]; exact h0 a b ha hb q, fun qa qb => ?_⟩
  obtain ⟨row, g1, g2⟩ := h2 qb qa
  have hr := rest_M (met := met) (m := m) hs ht (show b < 5 by omega)
  refine ⟨fun q => ?_, fun q => ?_⟩
  · have hnb : ¬ a = b := fun e => by rw [e, hr.1] at q; omega
    have hnx : nxtX (costsTo (wM met) src tgt m 5 b) (wM met) src tgt m a = none := by unfold nxtX; rw [if_pos q]
    rw [g1, walkN_none hnx, if_neg hnb]
  · obtain ⟨e1, e2, -, e4⟩ := walk_ok ht hr 4 a 0 row ha q (hops4 ht hr ha q)
    have hl : (rtT (wX met) src tgt m n n z).2.1 (a * 5 + b) = costsTo (wM met) src tgt m 5 b a % 10 := by rw [g1, if_pos e1, e2]; omega
    refine ⟨hl, fun j hj => ?_⟩
    rw [e4 j (by omega), g2, Nat.zero_add]
/-- has and uses, on both sides -/
theorem rt_bits {d : Nat → Nat} {len : Nat → Nat} {lnk : Nat → Nat → Nat} (hn : n ≤ 5) (hs : ∀ l, src l < 5) (ht : ∀ l, tgt l < 5) (h : rtOK met src tgt n m len lnk) {p : Nat} (hp : p < 25) (q : Nat) :
    (uUses len lnk p q = wUses (bitF (dstF met src tgt n m d) met src tgt n m) p q) ∧ uHas len p = wHas (bitF (dstF met src tgt n m d) met src tgt n m) p := by
  obtain ⟨h1, h2⟩ := h (p / 5) (p % 5) (by omega) (by omega)
  rw [show p / 5 * 5 + p % 5 = p by omega] at h1 h2
  have zero : len p = 0 → bitF (dstF met src tgt n m d) met src tgt n m p = 0 → (uUses len lnk p q = wUses (bitF (dstF met src tgt n m d) met src tgt n m) p q) ∧ uHas len p = wHas (bitF (dstF met src tgt n m d) met src tgt n m) p := by
    intro e1 e2
    unfold uUses uHas wUses wHas
    rw [e1, e2]
    refine ⟨?_, by simp⟩
    simp [anyB]
  by_cases hab : p / 5 < n ∧ p % 5 < n
  · obtain ⟨g1, g2⟩ := h2 hab.1 hab.2
    have hvw := dst_vw (met := met) (src := src) (tgt := tgt) (m := m) d hab.2 hn hs ht
    have hdp : dstF met src tgt n m d p = costsTo (wM met) src tgt m 5 (p % 5) (p / 5) := by
      rw [← hvw, vw_at (by omega), show 5 * (p / 5) + p % 5 = p by omega]
    have hr := rest_M (met := met) (m := m) hs ht (show p % 5 < 5 by omega)
    by_cases hlt : costsTo (wM met) src tgt m 5 (p % 5) (p / 5) < 1000000
    · obtain ⟨k1, k2⟩ := g2 hlt
      by_cases e : p / 5 = p % 5
      · refine zero ?_ (bitF_1 (isP_f (Or.inl e)))
        rw [k1, e, hr.1]
      · have hb : bitF (dstF met src tgt n m d) met src tgt n m p = bitsN (nxtX (costsTo (wM met) src tgt m 5 (p % 5)) (wM met) src tgt m) tgt (p % 5) (costsTo (wM met) src tgt m 5 (p % 5) (p / 5) % 10) (p / 5) 0 := by
          rw [bitF_t (isP_t e hab.1 hab.2) (by rw [hdp]; exact hlt), hdp]
          unfold nxW
          rw [hvw]
        have hbt : ∀ q, ((bitF (dstF met src tgt n m d) met src tgt n m p).testBit q = true ↔ ∃ j, j < len p ∧ lnk p j = q) := by
          intro q
          rw [hb, bits_ok ht hr q _ (p / 5) 0 (by omega) hlt rfl, Nat.zero_testBit, ← k1]
          constructor
          · rintro (z | ⟨j, z1, z2⟩)
            · cases z
            · refine ⟨j, z1, ?_⟩
              rw [k2 j z1] at z2
              exact Option.some.inj z2
          · rintro ⟨j, z1, z2⟩
            exact Or.inr ⟨j, z1, by rw [k2 j z1, z2]⟩
        constructor
        · unfold uUses wUses
          rw [← Nat.testBit_eq_decide_div_mod_eq]
          cases hz : (bitF (dstF met src tgt n m d) met src tgt n m p).testBit q with
          | true =>
            obtain ⟨j, z1, z2⟩ := (hbt q).mp hz
            exact anyB_t.mpr ⟨j, z1, by simp [z2]⟩
          | false =>
            refine anyB_f.mpr (fun j hj => ?_)
            apply decide_eq_false
            intro z2
            rw [(hbt q).mpr ⟨j, hj, z2⟩] at hz
            cases hz
        · unfold uHas wHas
          apply decide_eq_decide.mpr
          constructor
          · intro z e0
            have := (hbt (lnk p 0)).mpr ⟨0, z, rfl⟩
            rw [e0, Nat.zero_testBit] at this
            cases this
          · intro z
            obtain ⟨i, hi⟩ := Nat.exists_testBit_of_ne_zero z
            obtain ⟨j, z1, -⟩ := (hbt i).mp hi
            omega
    · refine zero (g1 (by omega)) (bitF_2 (by rw [hdp]; omega))
  · refine zero (h1 (by omega)) (bitF_1 (isP_f (by omega)))
end RR
