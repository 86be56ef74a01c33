/-! what is determined, said without pivots -/
def IdA (A : Nat → Nat → Int) (m s : Nat) : Prop := ∃ (y : Nat → Int) (d : Int), ¬ d = 0 ∧ ∀ c, c < 25 → sumZ (fun i => y i * A i c) m = if c = s then d else 0
def OkA (A : Nat → Nat → Int) (m : Nat) : Prop := ∀ y : Nat → Int, (∀ c, c < 25 → sumZ (fun i => y i * A i c) m = 0) → sumZ (fun i => y i * A i 25) m = 0
section IDA
variable {A : Nat → Nat → Int} {pr jc : Nat → Nat} {k m : Nat}
/-- a column without a pivot is a mix of the pivots' columns -/
theorem ker_col (h : Cf A m pr jc k 25) {c : Nat} (h0 : ∀ i, i < m → RN A pr jc k i c = 0) (y : Nat → Int) : cfD A pr jc k * sumZ (fun i => y i * A i c) m = sumZ (fun q => RP A pr jc k q c * sumZ (fun i => y i * A i (jc q)) m) k := by
  rw [← sumZ_mul, sumZ_congr (g := fun i => sumZ (fun q => RP A pr jc k q c * (y i * A i (jc q))) k) (fun i hi => ?_), sumZ_swap]
  · exact sumZ_congr (fun q _ => sumZ_mul _ _ _)
  · have := RN_RP h.1 i c
    rw [h0 i hi] at this
    rw [Int.mul_left_comm, show cfD A pr jc k * A i c = sumZ (fun q => A i (jc q) * RP A pr jc k q c) k by omega, ← sumZ_mul]
    exact sumZ_congr (fun q _ => by rw [Int.mul_comm (RP A pr jc k q c), Int.mul_assoc])
theorem RP_rows (h : Cf A m pr jc k 25) (q : Nat) : ∃ y : Nat → Int, ∀ c, RP A pr jc k q c = sumZ (fun i => y i * A i c) m := rows_all h.2.1 _
theorem RN_rows (h : Cf A m pr jc k 25) {i : Nat} (hi : i < m) : ∃ y : Nat → Int, ∀ c, RN A pr jc k i c = sumZ (fun i => y i * A i c) m := by
  obtain ⟨y, hy⟩ := rows_all (A := A) h.2.1 (fun l => cof A pr jc k (fun q => A i (jc q)) l)
  refine ⟨fun j => (if j = i then cfD A pr jc k else 0) - y j, fun c => ?_⟩
  unfold RN
  rw [hy c, sumZ_congr (f := fun j => ((if j = i then cfD A pr jc k else 0) - y j) * A j c) (g := fun j => (if j = i then cfD A pr jc k else 0) * A j c - y j * A j c) (fun j _ => Int.sub_mul _ _ _), sumZ_sub, sumZ_delta (f := fun j => (if j = i then cfD A pr jc k else 0) * A j c) hi (fun j hj e => by rw [if_neg e, Int.zero_mul]), if_pos rfl]
/-- a mix of rows whose columns but s vanish: the pivot of s has no other column -/
theorem Id_iff (h : Cf A m pr jc k 25) {s : Nat} (hs : s < 25) : IdA A m s ↔ ∃ q, q < k ∧ jc q = s ∧ ∀ c, c < 25 → ¬ c = s → RP A pr jc k q c = 0 := by
  constructor
  · rintro ⟨y, d, hd, hy⟩
    have key : ∀ c, c < 25 → (∀ i, i < m → RN A pr jc k i c = 0) → cfD A pr jc k * (if c = s then d else 0) = sumZ (fun q => RP A pr jc k q c * (if jc q = s then d else 0)) k := by
      intro c hc h0
      rw [← hy c hc, ker_col h h0]
      exact sumZ_congr (fun q hq => by rw [hy _ (h.2.2.1 q hq)])
    by_cases hp : ∃ q, q < k ∧ jc q = s
    · obtain ⟨q, hq, e⟩ := hp
      refine ⟨q, hq, e, fun c hc hcs => ?_⟩
      rcases h.2.2.2.1 c hc with ⟨q', hq', e'⟩ | h0
      · rw [← e', RP_jc q hq', if_neg (fun x => hcs (by rw [← e', x, e]))]
      · have := key c hc h0
        rw [if_neg hcs, Int.mul_zero, sumZ_delta hq (fun j hj ne => by rw [if_neg (fun x => ne (jc_inj h.1 hj hq (by rw [x, e]))), Int.mul_zero]), if_pos e] at this
        rcases Int.mul_eq_zero.mp this.symm with z | z
        · exact z
        · exact absurd z hd
    · have h0 := (h.2.2.2.1 s hs).resolve_left hp
      have := key s hs h0
      rw [if_pos rfl, sumZ_0 (fun q hq => by rw [if_neg (fun x => hp ⟨q, hq, x⟩), Int.mul_zero])] at this
      rcases Int.mul_eq_zero.mp this with z | z
      · exact absurd z h.1
      · exact absurd z hd
  · rintro ⟨q, hq, e, h0⟩
    obtain ⟨y, hy⟩ := RP_rows h q
    refine ⟨y, cfD A pr jc k, h.1, fun c hc => ?_⟩
    rw [← hy c]
    by_cases x : c = s
    · rw [if_pos x, x, ← e, RP_jc q hq, if_pos rfl]
    · rw [if_neg x, h0 c hc x]
/-- the columns that have a pivot, said without pivots -/
theorem Pv_iff (h : Cf A m pr jc k 25) {c : Nat} (hc : c < 25) : (∃ q, q < k ∧ jc q = c) ↔ ∃ y : Nat → Int, (∀ j, j < c → sumZ (fun i => y i * A i j) m = 0) ∧ ¬ sumZ (fun i => y i * A i c) m = 0 := by
  constructor
  · rintro ⟨q, hq, e⟩
    obtain ⟨y, hy⟩ := RP_rows h q
    refine ⟨y, fun j hj => ?_, ?_⟩
    · rw [← hy j]
      exact h.2.2.2.2 q hq j (by omega)
    · rw [← hy c, ← e, RP_jc q hq, if_pos rfl]
      exact h.1
  · rintro ⟨y, h1, h2⟩
    refine Classical.byContradiction (fun hn => h2 ?_)
    have h0 := (h.2.2.2.1 c hc).resolve_left hn
    have h3 := ker_col h h0 y
    rw [sumZ_0 (f := fun q => RP A pr jc k q c * sumZ (fun i => y i * A i (jc q)) m) (fun q hq => by
      rcases Nat.lt_trichotomy (jc q) c with x | x | x
      · rw [h1 _ x, Int.mul_zero]
      · exact absurd ⟨q, hq, x⟩ hn
      · rw [h.2.2.2.2 q hq c x, Int.zero_mul])] at h3
    rcases Int.mul_eq_zero.mp h3 with z | z
    · exact absurd z h.1
    · exact z
theorem rank_le {pr' jc' : Nat → Nat} {k' : Nat} (h : Cf A m pr jc k 25) (h' : Cf A m pr' jc' k' 25) : k ≤ k' := by
  have g : ∀ q, ∃ q', q < k → q' < k' ∧ jc' q' = jc q := by
    intro q
    by_cases hq : q < k
    · obtain ⟨q', a, b⟩ := (Pv_iff h' (h.2.2.1 q hq)).mpr ((Pv_iff h (h.2.2.1 q hq)).mp ⟨q, hq, rfl⟩)
      exact ⟨q', fun _ => ⟨a, b⟩⟩
    · exact ⟨0, fun x => absurd x hq⟩
  have sp := fun q => Classical.choose_spec (g q)
  have := sumN_inj (m := k') (pr := fun q => Classical.choose (g q)) k (fun _ => 1) (fun q hq => (sp q hq).1) (fun q q2 hq hq2 e => jc_inj h.1 hq hq2 (by
    rw [← (sp q hq).2, ← (sp q2 hq2).2]
    exact congrArg jc' e))
  have e : ∀ n, sumN (fun _ => 1) n = n := by
    intro n
    induction n with
    | zero => rfl
    | succ n ih => simp only [sumN]; omega
  rw [e, e] at this
  exact this
theorem rank_eq {pr' jc' : Nat → Nat} {k' : Nat} (h : Cf A m pr jc k 25) (h' : Cf A m pr' jc' k' 25) : k = k' := Nat.le_antisymm (rank_le h h') (rank_le h' h)
theorem Ok_iff (h : Cf A m pr jc k 25) : OkA A m ↔ ∀ i, i < m → RN A pr jc k i 25 = 0 := by
  constructor
  · intro ho i hi
    obtain ⟨y, hy⟩ := RN_rows h hi
    rw [hy 25]
    refine ho y (fun c hc => ?_)
    rw [← hy c]
    rcases h.2.2.2.1 c hc with ⟨q, hq, e⟩ | h0
    · rw [← e]; exact RN_jc i hq
    · exact h0 i hi
  · intro h0 y hy
    have := ker_col h h0 y
    rw [sumZ_0 (f := fun q => RP A pr jc k q 25 * sumZ (fun i => y i * A i (jc q)) m) (fun q hq => by rw [hy _ (h.2.2.1 q hq), Int.mul_zero])] at this
    rcases Int.mul_eq_zero.mp this with z | z
    · exact absurd z h.1
    · exact z
/-- two ways to find the value of s -/
theorem val_eq (ho : OkA A m) {s : Nat} {y y' : Nat → Int} {d d' : Int} (h : ∀ c, c < 25 → sumZ (fun i => y i * A i c) m = if c = s then d else 0) (h' : ∀ c, c < 25 → sumZ (fun i => y' i * A i c) m = if c = s then d' else 0) : d' * sumZ (fun i => y i * A i 25) m = d * sumZ (fun i => y' i * A i 25) m := by
  have e : ∀ c, sumZ (fun i => (d' * y i - d * y' i) * A i c) m = d' * sumZ (fun i => y i * A i c) m - d * sumZ (fun i => y' i * A i c) m := by
    intro c
    rw [sumZ_congr (g := fun i => d' * (y i * A i c) - d * (y' i * A i c)) (fun i _ => by rw [Int.sub_mul, Int.mul_assoc, Int.mul_assoc]), sumZ_sub, sumZ_mul, sumZ_mul]
  have := ho (fun i => d' * y i - d * y' i) (fun c hc => by
    rw [e c, h c hc, h' c hc]
    split
    · rw [Int.mul_comm]; omega
    · omega)
  rw [e] at this
  omega
theorem Id_val (h : Cf A m pr jc k 25) {s q : Nat} (hq : q < k) (e : jc q = s) (h0 : ∀ c, c < 25 → ¬ c = s → RP A pr jc k q c = 0) : ∃ y : Nat → Int, (∀ c, c < 25 → sumZ (fun i => y i * A i c) m = if c = s then cfD A pr jc k else 0) ∧ sumZ (fun i => y i * A i 25) m = RP A pr jc k q 25 := by
  obtain ⟨y, hy⟩ := RP_rows h q
  refine ⟨y, fun c hc => ?_, (hy 25).symm⟩
  rw [← hy c]
  by_cases x : c = s
  · rw [if_pos x, x, ← e, RP_jc q hq, if_pos rfl]
  · rw [if_neg x, h0 c hc x]
/-- column p left out -/
def outA (A : Nat → Nat → Int) (p : Nat) : Nat → Nat → Int := fun i c => if c = p then 0 else A i c
theorem outA_sum {p c : Nat} (y : Nat → Int) : sumZ (fun i => y i * outA A p i c) m = if c = p then 0 else sumZ (fun i => y i * A i c) m := by
  unfold outA
  by_cases e : c = p
  · simp only [e, if_true]
    exact sumZ_0 (fun j _ => by simp)
  · simp only [e, if_false]
/-- with p known as well, s is determined just where their free parts are proportional -/
theorem out_iff (h : Cf A m pr jc k 25) {F : Nat → Nat → Int} (hF : ∀ q, q < k → ∀ c, c < 25 → F (jc q) c = if c = jc q then 0 else RP A pr jc k q c) (hG : ∀ s, s < 25 → (¬ ∃ q, q < k ∧ jc q = s) → ∀ c, F s c = if s = c then 1 else 0) {p s f : Nat} (hp : p < 25) (hs : s < 25) (hf : f < 25) (hne : ¬ s = p) (hpf : ¬ F p f = 0) : IdA (outA A p) m s ↔ ∀ c, c < 25 → F s c * F p f = F s f * F p c := by
  have hFj : ∀ q, q < k → ∀ q', q' < k → F (jc q) (jc q') = 0 := by
    intro q hq q' hq'
    rw [hF q hq _ (h.2.2.1 q' hq')]
    split
    · rfl
    · rename_i ne
      rw [RP_jc q hq', if_neg (fun x => ne (by rw [x]))]
  constructor
  · rintro ⟨y, d, hd, hy⟩
    -- the columns without a pivot
    have hy2 : ∀ c, c < 25 → ¬ c = p → sumZ (fun i => y i * A i c) m = if c = s then d else 0 := by
      intro c hc hcp
      rw [← hy c hc, outA_sum, if_neg hcp]
    obtain ⟨b, hb⟩ : ∃ b, b = sumZ (fun i => y i * A i p) m := ⟨_, rfl⟩
    have hy3 : ∀ c, c < 25 → sumZ (fun i => y i * A i c) m = (if c = s then d else 0) + (if c = p then b else 0) := by
      intro c hc
      by_cases e : c = p
      · rw [if_pos e, if_neg (by omega), e, hb]; omega
      · rw [if_neg e, hy2 c hc e]; omega
    -- for each column without a pivot: d z_s + b z_p = 0
    obtain ⟨sg, hsg⟩ : ∃ sg : Nat → Int, ∀ t, t < 25 → ¬ sg t = 0 ∧ ∀ c, c < 25 → (¬ ∃ q, q < k ∧ jc q = c) → (cfD A pr jc k * (if c = t then 1 else 0) - sumZ (fun q => RP A pr jc k q c * (if jc q = t then 1 else 0)) k) = sg t * F t c := by
      have : ∀ t, ∃ x : Int, t < 25 → ¬ x = 0 ∧ ∀ c, c < 25 → (¬ ∃ q, q < k ∧ jc q = c) → (cfD A pr jc k * (if c = t then 1 else 0) - sumZ (fun q => RP A pr jc k q c * (if jc q = t then 1 else 0)) k) = x * F t c := by
        intro t
        by_cases ht : ∃ q, q < k ∧ jc q = t
        · obtain ⟨q, hq, e⟩ := ht
          refine ⟨-1, fun _ => ⟨by omega, fun c hc hnc => ?_⟩⟩
          rw [if_neg (fun x => hnc ⟨q, hq, by omega⟩), sumZ_delta hq (fun j hj ne => by rw [if_neg (fun x => ne (jc_inj h.1 hj hq (by rw [x, e]))), Int.mul_zero]), if_pos e, ← e, hF q hq c hc, if_neg (fun x => hnc ⟨q, hq, x.symm⟩)]
          omega
        · refine ⟨cfD A pr jc k, fun ht2 => ⟨h.1, fun c hc hnc => ?_⟩⟩
          rw [sumZ_0 (fun q hq => by rw [if_neg (fun x => ht ⟨q, hq, x⟩), Int.mul_zero]), hG t ht2 ht c]
          by_cases x : c = t
          · rw [if_pos x, if_pos x.symm]; omega
          · rw [if_neg x, if_neg (fun z => x z.symm)]; omega
      exact ⟨fun t => Classical.choose (this t), fun t => Classical.choose_spec (this t)⟩
    have key : ∀ c, c < 25 → (¬ ∃ q, q < k ∧ jc q = c) → d * sg s * F s c + b * sg p * F p c = 0 := by
      intro c hc hnc
      have h0 := (h.2.2.2.1 c hc).resolve_left hnc
      have h1 := ker_col h h0 y
      rw [hy3 c hc, sumZ_congr (g := fun q => d * (RP A pr jc k q c * (if jc q = s then 1 else 0)) + b * (RP A pr jc k q c * (if jc q = p then 1 else 0))) (fun q hq => by
        rw [hy3 _ (h.2.2.1 q hq)]
        by_cases e1 : jc q = s
        · by_cases e2 : jc q = p
          · omega
          · simp [e1, hne, Int.mul_comm]
        · by_cases e2 : jc q = p
          · simp [e2, show ¬ p = s by omega, Int.mul_comm]
          · simp [e1, e2]), sumZ_add, sumZ_mul, sumZ_mul] at h1
      have hS := (hsg s hs).2 c hc hnc
      have hP := (hsg p hp).2 c hc hnc
      generalize sumZ (fun q => RP A pr jc k q c * (if jc q = s then 1 else 0)) k = u1 at h1 hS
      generalize sumZ (fun q => RP A pr jc k q c * (if jc q = p then 1 else 0)) k = u2 at h1 hP
      rw [Int.mul_assoc, Int.mul_assoc, ← hS, ← hP]
      by_cases e1 : c = s
      · have e2 : ¬ c = p := by omega
        rw [if_pos e1, if_neg e2] at h1
        rw [if_pos e1, if_neg e2]
        simp only [Int.mul_sub, Int.mul_one, Int.mul_zero, Int.add_zero] at h1 ⊢
        rw [Int.mul_comm] at h1
        omega
      · by_cases e2 : c = p
        · rw [if_neg e1, if_pos e2] at h1
          rw [if_neg e1, if_pos e2]
          simp only [Int.mul_sub, Int.mul_one, Int.mul_zero, Int.zero_add] at h1 ⊢
          rw [Int.mul_comm] at h1
          omega
        · rw [if_neg e1, if_neg e2] at h1
          rw [if_neg e1, if_neg e2]
          simp only [Int.mul_sub, Int.mul_one, Int.mul_zero, Int.zero_add] at h1 ⊢
          omega
    have hFz : ∀ t, t < 25 → ∀ c, c < 25 → (∃ q, q < k ∧ jc q = c) → F t c = 0 := by
      rintro t ht c hc ⟨q, hq, e⟩
      by_cases x : ∃ q', q' < k ∧ jc q' = t
      · obtain ⟨q', hq', e'⟩ := x
        rw [← e, ← e']
        exact hFj q' hq' q hq
      · rw [hG t ht x, if_neg (fun z => x ⟨q, hq, by omega⟩)]
    have hds : ¬ d * sg s = 0 := fun z => by
      rcases Int.mul_eq_zero.mp z with z | z
      · exact hd z
      · exact (hsg s hs).1 z
    have hfn : ¬ ∃ q, q < k ∧ jc q = f := fun x => hpf (hFz p hp f hf x)
    intro c hc
    by_cases x : ∃ q, q < k ∧ jc q = c
    · rw [hFz s hs c hc x, hFz p hp c hc x, Int.zero_mul, Int.mul_zero]
    · have h1 := key c hc x
      have h2 := key f hf hfn
      have h3 : d * sg s * (F s c * F p f) = d * sg s * (F s f * F p c) := by
        rw [← Int.mul_assoc, ← Int.mul_assoc, show d * sg s * F s c = -(b * sg p * F p c) by omega, show d * sg s * F s f = -(b * sg p * F p f) by omega, Int.neg_mul, Int.neg_mul, Int.mul_assoc, Int.mul_comm (F p c), ← Int.mul_assoc]
      exact Int.eq_of_mul_eq_mul_left hds h3
  · intro hc
    -- rows of the two
    have row : ∀ t, t < 25 → (∃ q, q < k ∧ jc q = t) → ∃ y : Nat → Int, ∀ c, c < 25 → sumZ (fun i => y i * A i c) m = if c = t then cfD A pr jc k else F t c := by
      rintro t ht ⟨q, hq, e⟩
      obtain ⟨y, hy⟩ := RP_rows h q
      refine ⟨y, fun c hc => ?_⟩
      rw [← hy c]
      by_cases x : c = t
      · rw [if_pos x, x, ← e, RP_jc q hq, if_pos rfl]
      · rw [if_neg x, ← e, hF q hq c hc, if_neg (fun z => x (by omega))]
    have self : ∀ t, t < 25 → (∃ q, q < k ∧ jc q = t) → F t t = 0 := by
      rintro t ht ⟨q, hq, e⟩
      rw [← e]
      exact hFj q hq q hq
    by_cases sp : ∃ q, q < k ∧ jc q = s
    · obtain ⟨y, hy⟩ := row s hs sp
      by_cases pp : ∃ q, q < k ∧ jc q = p
      · obtain ⟨y', hy'⟩ := row p hp pp
        refine ⟨fun i => F p f * y i - F s f * y' i, F p f * cfD A pr jc k, fun z => ?_, fun c hc2 => ?_⟩
        · rcases Int.mul_eq_zero.mp z with z | z
          · exact hpf z
          · exact h.1 z
        · rw [outA_sum]
          by_cases x : c = p
          · rw [if_pos x, if_neg (by omega)]
          · rw [if_neg x, sumZ_congr (g := fun i => F p f * (y i * A i c) - F s f * (y' i * A i c)) (fun i _ => by rw [Int.sub_mul, Int.mul_assoc, Int.mul_assoc]), sumZ_sub, sumZ_mul, sumZ_mul, hy c hc2, hy' c hc2, if_neg x]
            have h1 := hc c hc2
            by_cases z : c = s
            · rw [if_pos z, if_pos z, ← h1, z, self s hs sp]
              omega
            · rw [if_neg z, if_neg z, Int.mul_comm, h1]
              omega
      · refine ⟨y, cfD A pr jc k, h.1, fun c hc2 => ?_⟩
        rw [outA_sum]
        by_cases x : c = p
        · rw [if_pos x, if_neg (by omega)]
        · rw [if_neg x, hy c hc2]
          by_cases z : c = s
          · rw [if_pos z, if_pos z]
          · rw [if_neg z, if_neg z]
            have h1 := hc c hc2
            rw [hG p hp pp c, if_neg (fun z => x z.symm), Int.mul_zero] at h1
            rcases Int.mul_eq_zero.mp h1 with z | z
            · exact z
            · exact absurd z hpf
    · have h1 := hc s hs
      rw [hG s hs sp s, if_pos rfl, Int.one_mul, hG s hs sp f] at h1
      have e : s = f := by
        by_cases e : s = f
        · exact e
        · rw [if_neg e, Int.zero_mul] at h1
          exact absurd h1 hpf
      subst e
      have pp : ∃ q, q < k ∧ jc q = p := by
        by_cases pp : ∃ q, q < k ∧ jc q = p
        · exact pp
        · rw [hG p hp pp, if_neg (fun z => hne z.symm)] at hpf
          exact absurd rfl hpf
      obtain ⟨y', hy'⟩ := row p hp pp
      refine ⟨y', F p s, hpf, fun c hc2 => ?_⟩
      rw [outA_sum]
      by_cases x : c = p
      · rw [if_pos x, if_neg (by omega)]
      · rw [if_neg x, hy' c hc2, if_neg x]
        by_cases z : c = s
        · rw [if_pos z, z]
        · rw [if_neg z]
          have h1 := hc c hc2
          rw [hG s hs sp c, if_neg (fun y => z y.symm), hG s hs sp s, if_pos rfl] at h1
          omega
end IDA
