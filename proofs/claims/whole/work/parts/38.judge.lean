section XSIDE
variable {A : Nat → Nat → Int} {m : Nat} {z : eZ} {pr jc : Nat → Nat} {kn : Nat → Bool}
/-- the free part over the integers -/
def frP (z : eZ) (s c : Nat) : Int := (fPart (fun _ => false) z.2.2.2.1 z.2.2.1 s c).toInt
theorem fPart_kn {rop : Nat → Option Nat} {R : Nat → Nat → Int64} {s c : Nat} (h : kn s = false) : fPart kn rop R s c = fPart (fun _ => false) rop R s c := by
  unfold fPart
  rw [h]
theorem frP_jc (h : EX A m z pr jc 25) {q : Nat} (hq : q < z.1) {c : Nat} (hc : c < 25) : frP z (jc q) c = if c = jc q then 0 else RP A pr jc z.1 q c := by
  unfold frP fPart
  rw [(h.2.2.2.2.1 q hq).1]
  simp only [Bool.false_eq_true, if_false]
  by_cases e : jc q = c
  · rw [if_pos e, if_pos e.symm]; rfl
  · rw [if_neg e, if_neg (fun x => e x.symm), h.2.2.1 q hq c (by omega)]
theorem frP_no (h : EX A m z pr jc 25) {s : Nat} (hs : ¬ ∃ q, q < z.1 ∧ jc q = s) (c : Nat) : frP z s c = if s = c then 1 else 0 := by
  unfold frP fPart
  rw [h.2.2.2.2.2.1 s (fun q hq e => hs ⟨q, hq, e⟩)]
  simp only [Bool.false_eq_true, if_false]
  split <;> rfl
theorem frP_small (hb : Bd A m) (h : EX A m z pr jc 25) (s : Nat) {c : Nat} (hc : c < 25) : (frP z s c).natAbs ≤ 2985984 := by
  by_cases e : ∃ q, q < z.1 ∧ jc q = s
  · obtain ⟨q, hq, e⟩ := e
    rw [← e, frP_jc h hq hc]
    split
    · exact Nat.zero_le _
    · exact ((RP_small hb h.1 (by omega) hq).1 c hc).1
  · rw [frP_no h e]
    split <;> simp
theorem fr_0 {s c : Nat} : fPart (fun _ => false) z.2.2.2.1 z.2.2.1 s c = 0 ↔ frP z s c = 0 := i64_0 rfl
theorem uDet_iff (h : EX A m z pr jc 25) {s : Nat} (hs : s < 25) (hk : kn s = false) : uDet kn z.2.2.2.1 z.2.2.1 s = true ↔ IdA A m s := by
  rw [Id_iff h.1 hs]
  unfold uDet fFree
  rw [Option.isNone_iff_eq_none, fstN_none]
  have e0 : ∀ c, (!decide (fPart kn z.2.2.2.1 z.2.2.1 s c = 0)) = false ↔ frP z s c = 0 := by
    intro c
    rw [fPart_kn hk]
    simp [fr_0]
  constructor
  · intro h1
    by_cases e : ∃ q, q < z.1 ∧ jc q = s
    · obtain ⟨q, hq, e⟩ := e
      refine ⟨q, hq, e, fun c hc hcs => ?_⟩
      have := (e0 c).mp (h1 c hc)
      rw [← e, frP_jc h hq hc, if_neg (fun x => hcs (by omega))] at this
      exact this
    · have := (e0 s).mp (h1 s hs)
      rw [frP_no h e, if_pos rfl] at this
      exact absurd this (by omega)
  · rintro ⟨q, hq, e, h1⟩ c hc
    rw [e0, ← e, frP_jc h hq hc]
    split
    · rfl
    · exact h1 c hc (by omega)
theorem uDet_kn {rop : Nat → Option Nat} {R : Nat → Nat → Int64} {s : Nat} (hk : kn s = true) : uDet kn rop R s = true := by
  unfold uDet fFree
  rw [Option.isNone_iff_eq_none, fstN_none]
  intro c hc
  unfold fPart
  rw [hk]
  rfl
theorem uDetW_iff (hb : Bd A m) (h : EX A m z pr jc 25) {p s : Nat} (hp : p < 25) (hs : s < 25) (hkp : kn p = false) (hn : uDet kn z.2.2.2.1 z.2.2.1 p = false) : uDetW kn z.2.2.2.1 z.2.2.1 p s = true ↔ (kn s = true ∨ s = p) ∨ IdA (outA A p) m s := by
  unfold uDetW
  cases hf : fFree kn z.2.2.2.1 z.2.2.1 p with
  | none =>
    exfalso
    unfold uDet at hn
    rw [hf] at hn
    cases hn
  | some f =>
    obtain ⟨hf25, hff, -⟩ := fstN_some.mp hf
    rw [fPart_kn hkp] at hff
    simp only [Bool.not_eq_true', decide_eq_false_iff_not] at hff
    rw [fr_0] at hff
    simp only [Bool.not_eq_true', anyB_f, Bool.not_eq_false', decide_eq_true_eq]
    by_cases hks : kn s = true
    · constructor
      · intro _; exact Or.inl (Or.inl hks)
      · intro _ c hc
        have e0 : ∀ c, fPart kn z.2.2.2.1 z.2.2.1 s c = 0 := fun c => by unfold fPart; rw [hks]; rfl
        rw [e0, e0, Int64.zero_mul, Int64.zero_mul]
    · have hks : kn s = false := by cases e : kn s with
        | true => exact absurd e hks
        | false => rfl
      simp only [hks, Bool.false_eq_true, false_or]
      by_cases hsp : s = p
      · constructor
        · intro _; exact Or.inl hsp
        · intro _ c hc
          rw [hsp, Int64.mul_comm]
      · simp only [hsp, false_or]
        rw [out_iff h.1 (F := frP z) (fun q hq c hc => frP_jc h hq hc) (fun s _ hn c => frP_no h hn c) hp hs hf25 hsp hff]
        have eq : ∀ c, c < 25 → (fPart kn z.2.2.2.1 z.2.2.1 s c * fPart kn z.2.2.2.1 z.2.2.1 p f = fPart kn z.2.2.2.1 z.2.2.1 s f * fPart kn z.2.2.2.1 z.2.2.1 p c ↔ frP z s c * frP z p f = frP z s f * frP z p c) := by
          intro c hc
          rw [fPart_kn hks, fPart_kn hks, fPart_kn hkp, fPart_kn hkp]
          have m1 := mul_abs (frP_small hb h s hc) (frP_small hb h p hf25)
          have m2 := mul_abs (frP_small hb h s hf25) (frP_small hb h p hc)
          exact i64_eq (i64_mul rfl rfl (by omega)) (i64_mul rfl rfl (by omega))
        constructor
        · intro h1 c hc; exact (eq c hc).mp (h1 c hc)
        · intro h1 c hc; exact (eq c hc).mpr (h1 c hc)
theorem uSol_iff (h : EX A m z pr jc 25) : uSol m z.2.2.1 z.2.2.2.2 = true ↔ OkA A m := by
  rw [Ok_iff h.1]
  unfold uSol
  simp only [Bool.not_eq_true', anyB_f]
  constructor
  · intro h1 i hi
    by_cases e : ∃ q, q < z.1 ∧ pr q = i
    · obtain ⟨q, hq, e⟩ := e
      rw [← e]
      exact RN_pr h.1.1 hq 25
    · have hni : ∀ q, q < z.1 → ¬ pr q = i := fun q hq x => e ⟨q, hq, x⟩
      have h2 := h1 i hi
      rw [h.2.2.2.2.2.2 i hni] at h2
      simp at h2
      exact (i64_0 (h.2.2.2.1 i hi hni 25 (by omega))).mp h2
  · intro h1 i hi
    by_cases e : ∃ q, q < z.1 ∧ pr q = i
    · obtain ⟨q, hq, e⟩ := e
      rw [← e, (h.2.2.2.2.1 q hq).2]
      rfl
    · have hni : ∀ q, q < z.1 → ¬ pr q = i := fun q hq x => e ⟨q, hq, x⟩
      rw [(i64_0 (h.2.2.2.1 i hi hni 25 (by omega))).mpr (h1 i hi)]
      simp
/-- the value that the class gives -/
theorem uVal (hb : Bd A m) (h : EX A m z pr jc 25) {s : Nat} (hs : s < 25) (hI : IdA A m s) (pv : Nat → Int32) : ∃ (y : Nat → Int) (d b : Int), ¬ d = 0 ∧ (∀ c, c < 25 → sumZ (fun i => y i * A i c) m = if c = s then d else 0) ∧ sumZ (fun i => y i * A i 25) m = b ∧ (uNum z.2.2.2.1 z.2.2.1 z.2.1 pv s).toInt = (if 0 ≤ d then b else -b).tdiv (Nat.gcd d.natAbs b.natAbs : Nat) ∧ (uDen z.2.2.2.1 z.2.2.1 z.2.1 s).toInt = (d.natAbs : Int).tdiv (Nat.gcd d.natAbs b.natAbs : Nat) := by
  obtain ⟨q, hq, e, h0⟩ := (Id_iff h.1 hs).mp hI
  obtain ⟨y, hy, hy2⟩ := Id_val h.1 hq e h0
  refine ⟨y, cfD A pr jc z.1, RP A pr jc z.1 q 25, h.1.1, hy, hy2, ?_⟩
  have hr := (h.2.2.2.2.1 q hq).1
  rw [e] at hr
  have hR := h.2.2.1 q hq 25 (by omega)
  have hv := h.2.1
  have s1 := cfD_small hb h.1 (by omega)
  have s2 := (RP_small hb h.1 (by omega) hq).2
  have a1 := absL_i (x := z.2.1) (by rw [hv]; omega)
  have a2 := absL_i (x := z.2.2.1 (pr q) 25) (by rw [hR]; omega)
  rw [hv] at a1
  rw [hR] at a2
  have hg := gcdJ_i 49 100 (absL z.2.1) (absL (z.2.2.1 (pr q) 25)) (by omega) (by rw [a1]; omega) (by rw [a2]; omega) (by rw [a2]; omega)
  rw [a1, a2] at hg
  simp only [Int.natAbs_natCast] at hg
  have g0 : 0 < Nat.gcd (cfD A pr jc z.1).natAbs (RP A pr jc z.1 q 25).natAbs := Nat.gcd_pos_of_pos_left _ (by have := h.1.1; omega)
  have hq0 : ∀ {x : Int64} {a : Int}, x.toInt = a → a.natAbs < 9223372036854775808 → (quot x (gcdJ 100 (absL z.2.1) (absL (z.2.2.1 (pr q) 25)))).toInt = a.tdiv (Nat.gcd (cfD A pr jc z.1).natAbs (RP A pr jc z.1 q 25).natAbs : Nat) := by
    intro x a hx hxa
    unfold quot
    rw [if_neg (fun x => by have := (i64_0 hg).mp x; omega), i64_div hx hg hxa]
  unfold uNum uDen
  rw [hr]
  dsimp only
  constructor
  · refine hq0 ?_ (by split <;> omega)
    have h00 : (0 : Int64).toInt = 0 := rfl
    by_cases x : 0 ≤ z.2.1
    · rw [if_pos x, if_pos (by rw [i64_le, hv, h00] at x; exact x), hR]
    · rw [if_neg x, if_neg (by rw [i64_le, hv, h00] at x; exact x), i64_neg hR (by omega)]
  · exact hq0 a1 (by omega)
end XSIDE
section MSIDE
variable {A : Nat → Nat → Int} {m : Nat} {z : rZ} {pr jc : Nat → Nat}
theorem M_0 {t : Int} {x : Int64} {a : Int} (ht : ¬ t = 0) (h : a = t * x.toInt) : x = 0 ↔ a = 0 := by
  rw [i64_0 rfl, h]
  constructor
  · intro e; rw [e, Int.mul_zero]
  · intro e
    rcases Int.mul_eq_zero.mp e with y | y
    · exact absurd y ht
    · exact y
theorem M_piv (h : MX A m z pr jc 25) {s r : Nat} (hs : s < 25) (e : z.2.2 s = some r) : r < z.1 ∧ jc r = s ∧ ¬ z.2.1 r s = 0 := by
  by_cases x : ∃ q, q < z.1 ∧ jc q = s
  · obtain ⟨q, hq, x⟩ := x
    have h1 := h.2.2.2.2.2.1 q hq
    rw [x, e] at h1
    have h2 : r = q := Option.some.inj h1
    subst h2
    refine ⟨hq, x, fun y => ?_⟩
    obtain ⟨t, ht, hM⟩ := h.2.2.2.1 r hq
    have := (M_0 ht (hM s (by omega))).mp y
    rw [← x, RP_jc r hq, if_pos rfl] at this
    exact h.1.1 this
  · rw [h.2.2.2.2.2.2 s hs (fun q hq y => x ⟨q, hq, y⟩)] at e
    cases e
theorem wSure_iff (h : MX A m z pr jc 25) {has ism : Nat → Bool} {ex : Option Nat} {p : Nat} (hp : p < 25) : wSure has ism ex z.2.2 z.2.1 p = true ↔ has p = true ∧ (isX ism ex p = true ∨ IdA A m p) := by
  unfold wSure
  rw [Bool.and_eq_true, Bool.or_eq_true, Id_iff h.1 hp]
  refine and_congr_right (fun _ => or_congr_right ?_)
  by_cases x : ∃ q, q < z.1 ∧ jc q = p
  · obtain ⟨q, hq, x⟩ := x
    have h1 := h.2.2.2.2.2.1 q hq
    obtain ⟨t, ht, hM⟩ := h.2.2.2.1 q hq
    rw [x] at h1
    rw [h1]
    simp only [Bool.not_eq_true', anyB_f]
    constructor
    · intro h2
      refine ⟨q, hq, x, fun c hc hcp => ?_⟩
      have := h2 c hc
      simp [hcp] at this
      exact (M_0 ht (hM c (by omega))).mp this
    · rintro ⟨q', hq', x', h2⟩ c hc
      have : q' = q := jc_inj h.1.1 hq' hq (by rw [x, x'])
      subst this
      by_cases hcp : c = p
      · simp [hcp]
      · rw [(M_0 ht (hM c (by omega))).mpr (h2 c hc hcp)]
        simp
  · rw [h.2.2.2.2.2.2 p hp (fun q hq y => x ⟨q, hq, y⟩)]
    constructor
    · intro y; cases y
    · rintro ⟨q, hq, y, -⟩
      exact absurd ⟨q, hq, y⟩ x
theorem wAgr_iff (h : MX A m z pr jc 25) : wAgr m z.1 z.2.1 = true ↔ OkA A m := by
  rw [Ok_iff h.1]
  unfold wAgr
  simp only [Bool.not_eq_true', anyB_f]
  constructor
  · intro h1 i hi
    obtain ⟨i', hi', e⟩ := h.2.2.1 i hi
    rw [← e]
    by_cases x : i' < z.1
    · exact RN_pr h.1.1 x 25
    · obtain ⟨t, ht, hM⟩ := h.2.2.2.2.1 i' (by omega) hi'
      have h2 := h1 i' hi'
      simp [show z.1 ≤ i' by omega] at h2
      exact (M_0 ht (hM 25 (by omega))).mp h2
  · intro h1 i hi
    by_cases x : z.1 ≤ i
    · obtain ⟨t, ht, hM⟩ := h.2.2.2.2.1 i x hi
      rw [(M_0 ht (hM 25 (by omega))).mpr (h1 _ (h.2.1 i hi))]
      simp
    · simp [x]
/-- the value that the reference gives -/
theorem wVal (hb : Bd A m) (h : MX A m z pr jc 25) {s : Nat} (hs : s < 25) (hI : IdA A m s) : ∃ r, z.2.2 s = some r ∧ ∃ (y : Nat → Int) (t d b : Int), ¬ t = 0 ∧ ¬ d = 0 ∧ (∀ c, c < 25 → sumZ (fun i => y i * A i c) m = if c = s then t * d else 0) ∧ sumZ (fun i => y i * A i 25) m = t * b ∧ (z.2.1 r s).toInt = d ∧ (z.2.1 r 25).toInt = b ∧ d.natAbs ≤ 2985984 ∧ b.natAbs ≤ 1791411240960 := by
  obtain ⟨q, hq, e, h0⟩ := (Id_iff h.1 hs).mp hI
  obtain ⟨y, hy, hy2⟩ := Id_val h.1 hq e h0
  obtain ⟨t, ht, hM⟩ := h.2.2.2.1 q hq
  have h1 := h.2.2.2.2.2.1 q hq
  rw [e] at h1
  have h2 := hM s (by omega)
  have h25 := hM 25 (by omega)
  have sm := RP_small hb h.1 (by omega) hq
  have b1 := abs_t h2 ht
  have b2 := abs_t h25 ht
  have b3 := (sm.1 s hs).1
  have b4 := sm.2
  rw [← e, RP_jc q hq, if_pos rfl, e] at h2
  refine ⟨q, h1, y, t, _, _, ht, fun x => ?_, fun c hc => ?_, ?_, rfl, rfl, by omega, by omega⟩
  · rw [x, Int.mul_zero] at h2
    exact h.1.1 h2
  · rw [hy c hc, h2]
  · rw [hy2, h25]
theorem valJ_i {w : MS} {p r : Nat} {d b : Int} (hi : w_ism w p = false) (hr : w_pr w p = some r) (hd : (w_row w r p).toInt = d) (hb : (w_row w r 25).toInt = b) (h0 : ¬ d = 0) (s1 : d.natAbs ≤ 2985984) (s2 : b.natAbs ≤ 1791411240960) (part : Nat) : (valJ w p part).toInt = if part = 0 then (if 0 ≤ d then b else -b).tdiv (Nat.gcd d.natAbs b.natAbs : Nat) else (d.natAbs : Int).tdiv (Nat.gcd d.natAbs b.natAbs : Nat) := by
  unfold valJ
  rw [hi, hr]
  simp only [Bool.false_eq_true, if_false]
  have hg := cmn_i (a := w_row w r p) (b := w_row w r 25) (by rw [hd]; omega) (by rw [hb]; omega)
  rw [hd, hb] at hg
  have h00 : (0 : Int64).toInt = 0 := rfl
  have hs : (if 0 ≤ w_row w r p then (1 : Int64) else -1).toInt = if 0 ≤ d then 1 else -1 := by
    by_cases x : 0 ≤ w_row w r p
    · rw [if_pos x, if_pos (by rw [i64_le, hd, h00] at x; exact x)]; rfl
    · rw [if_neg x, if_neg (by rw [i64_le, hd, h00] at x; exact x)]; rfl
  by_cases hp : part = 0
  · rw [if_pos hp, if_pos hp]
    have h1 := i64_mul hs hb (by split <;> simp <;> omega)
    rw [i64_div h1 hg (by split <;> simp <;> omega)]
    congr 1
    split <;> simp
  · rw [if_neg hp, if_neg hp]
    have h1 := i64_mul hs hd (by split <;> simp <;> omega)
    rw [i64_div h1 hg (by split <;> simp <;> omega)]
    congr 1
    split <;> omega
end MSIDE
