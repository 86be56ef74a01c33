/-! the law's start and its loop -/
/-- the two sides, new, agree -/
theorem lw_Rel0 : Rel uZ mZ := by
  have z0 : rng 0 9999 := ⟨by decide, by decide⟩
  have z1 : rng 0 249975 := ⟨by decide, by decide⟩
  refine ⟨⟨by decide, Nat.zero_le _, fun _ => Nat.le_of_ble_eq_true rfl, fun _ => Nat.le_of_ble_eq_true rfl, fun _ => Nat.zero_le _, fun _ => Nat.zero_le _, fun _ _ => Nat.le_of_ble_eq_true rfl⟩, ⟨by decide, by decide, Nat.zero_le _, fun _ => Nat.le_of_ble_eq_true rfl, fun _ => Nat.le_of_ble_eq_true rfl, fun _ => Nat.zero_le _⟩, ⟨rfl, rfl, rfl, rfl, rfl⟩, rt_empty _ _ _ _ _, fun s _ => ⟨rfl, z0⟩, ⟨fun l hl => absurd hl (Nat.not_lt_zero _), fun l _ => rfl⟩, ⟨fun v _ => ⟨⟨rfl, z1⟩, rfl, z1⟩, fun v _ _ => ⟨rfl, rfl⟩⟩, fun s _ => ⟨rfl, fun x => ?_⟩, fun s _ => ⟨rfl, fun _ => rfl⟩⟩
  cases x
theorem and31 (x : Int32) : ∃ k : Nat, k < 32 ∧ x &&& 31 = nI k := by
  refine ⟨(x &&& 31).toBitVec.toNat, ?_, ?_⟩
  · have : (x &&& 31).toBitVec = x.toBitVec &&& 31#32 := rfl
    rw [this, BitVec.toNat_and]
    exact Nat.lt_of_le_of_lt Nat.and_le_right (by decide)
  · apply Int32.toBitVec_inj.1
    show (x &&& 31).toBitVec = BitVec.ofNat 32 (x &&& 31).toBitVec.toNat
    simp
theorem lw_small4 {L i : Nat} (h : L < 4) (hi : i ≤ L) : nI L - nI 4 < nI i := by
  have h1 := pk_sub_toInt (a := L) (b := 4) (by omega) (by omega)
  have h2 := nI_toInt (n := i) (by omega)
  rw [Int32.lt_iff_toInt_lt, h1, h2]
  omega
/-- a case of the switch -/
def lawC (K : vK) (G : vG (XS × MS)) (x0 m0 b i pc : Nat) : Prop := ∀ (u : XS) (w : MS), Rel u w → vV K G (u, w) [(3, .int (nI i)), (2, .ref m0), (1, .ref x0), (0, .ref b)] [] pc
set_option maxRecDepth 100000 in
set_option maxHeartbeats 4000000 in
theorem law_sw {K : vK} {l : Launch} {D : va_G} {C : Nat → ClassId} {x0 m0 : Nat} {ax : (Nat → Nat) × (Nat → Nat) × (Nat → Nat)} {am : Nat → Nat} {b L i : Nat} {xs : Nat → Int32} (hKl : K.1.1.2.1 = l) (hE : eV K (gL D C x0 ax m0 am) cL_law 4 RL wsL_law room_1) (hC : scrA K b L xs) (hi : i + 3 < L) (hL : L ≤ 2048) (hk : lawC K (gL D C x0 ax m0 am) x0 m0 b i 889) {k : Nat} (hk32 : k < 32) {u : XS} {w : MS} (h : Rel u w) : vV K (gL D C x0 ax m0 am) (u, w) [(3, .int (nI i)), (2, .ref m0), (1, .ref x0), (0, .ref b)] [.int (nI k)] 32 := by
  have hkI : (nI k).toInt = (k : Int) := nI_toInt (by omega)
  by_cases hk28 : k < 28
  · rcases (show k = 0 ∨ k = 1 ∨ k = 2 ∨ k = 3 ∨ k = 4 ∨ k = 5 ∨ k = 6 ∨ k = 7 ∨ k = 8 ∨ k = 9 ∨ k = 10 ∨ k = 11 ∨ k = 12 ∨ k = 13 ∨ k = 14 ∨ k = 15 ∨ k = 16 ∨ k = 17 ∨ k = 18 ∨ k = 19 ∨ k = 20 ∨ k = 21 ∨ k = 22 ∨ k = 23 ∨ k = 24 ∨ k = 25 ∨ k = 26 ∨ k = 27 by omega) with rfl | rfl | rfl | rfl | rfl | rfl | rfl | rfl | rfl | rfl | rfl | rfl | rfl | rfl | rfl | rfl | rfl | rfl | rfl | rfl | rfl | rfl | rfl | rfl | rfl | rfl | rfl | rfl
    · exact v_tabIn hE 160 dL_law_32 (by rw [hkI]; decide) (by rw [hkI]; decide) (by rw [hkI]; rfl) (by decide) (law_c0 hKl hE hC hi hL h hk)
    · exact v_tabIn hE 183 dL_law_32 (by rw [hkI]; decide) (by rw [hkI]; decide) (by rw [hkI]; rfl) (by decide) (law_c1 hKl hE hC hi hL h hk)
    · exact v_tabIn hE 226 dL_law_32 (by rw [hkI]; decide) (by rw [hkI]; decide) (by rw [hkI]; rfl) (by decide) (law_c2 hKl hE hC hi hL h hk)
    · exact v_tabIn hE 259 dL_law_32 (by rw [hkI]; decide) (by rw [hkI]; decide) (by rw [hkI]; rfl) (by decide) (law_c3 hKl hE hC hi hL h hk)
    · exact v_tabIn hE 292 dL_law_32 (by rw [hkI]; decide) (by rw [hkI]; decide) (by rw [hkI]; rfl) (by decide) (law_c4 hKl hE hC hi hL h hk)
    · exact v_tabIn hE 335 dL_law_32 (by rw [hkI]; decide) (by rw [hkI]; decide) (by rw [hkI]; rfl) (by decide) (law_c5 hKl hE hC hi hL h hk)
    · exact v_tabIn hE 378 dL_law_32 (by rw [hkI]; decide) (by rw [hkI]; decide) (by rw [hkI]; rfl) (by decide) (law_c6 hKl hE hC hi hL h hk)
    · exact v_tabIn hE 401 dL_law_32 (by rw [hkI]; decide) (by rw [hkI]; decide) (by rw [hkI]; rfl) (by decide) (law_c7 hKl hE hC hi hL h hk)
    · exact v_tabIn hE 414 dL_law_32 (by rw [hkI]; decide) (by rw [hkI]; decide) (by rw [hkI]; rfl) (by decide) (law_c8 hKl hE hC hi hL h hk)
    · exact v_tabIn hE 447 dL_law_32 (by rw [hkI]; decide) (by rw [hkI]; decide) (by rw [hkI]; rfl) (by decide) (law_c9 hKl hE hC hi hL h hk)
    · exact v_tabIn hE 470 dL_law_32 (by rw [hkI]; decide) (by rw [hkI]; decide) (by rw [hkI]; rfl) (by decide) (law_c10 hKl hE hC hi hL h hk)
    · exact v_tabIn hE 493 dL_law_32 (by rw [hkI]; decide) (by rw [hkI]; decide) (by rw [hkI]; rfl) (by decide) (law_c11 hKl hE hC hi hL h hk)
    · exact v_tabIn hE 516 dL_law_32 (by rw [hkI]; decide) (by rw [hkI]; decide) (by rw [hkI]; rfl) (by decide) (law_c12 hKl hE hC hi hL h hk)
    · exact v_tabIn hE 549 dL_law_32 (by rw [hkI]; decide) (by rw [hkI]; decide) (by rw [hkI]; rfl) (by decide) (law_c13 hKl hE hC hi hL h hk)
    · exact v_tabIn hE 582 dL_law_32 (by rw [hkI]; decide) (by rw [hkI]; decide) (by rw [hkI]; rfl) (by decide) (law_c14 hKl hE hC hi hL h hk)
    · exact v_tabIn hE 595 dL_law_32 (by rw [hkI]; decide) (by rw [hkI]; decide) (by rw [hkI]; rfl) (by decide) (law_c15 hKl hE hC hi hL h hk)
    · exact v_tabIn hE 608 dL_law_32 (by rw [hkI]; decide) (by rw [hkI]; decide) (by rw [hkI]; rfl) (by decide) (law_c16 hKl hE hC hi hL h hk)
    · exact v_tabIn hE 641 dL_law_32 (by rw [hkI]; decide) (by rw [hkI]; decide) (by rw [hkI]; rfl) (by decide) (law_c17 hKl hE hC hi hL h hk)
    · exact v_tabIn hE 654 dL_law_32 (by rw [hkI]; decide) (by rw [hkI]; decide) (by rw [hkI]; rfl) (by decide) (law_c18 hKl hE hC hi hL h hk)
    · exact v_tabIn hE 688 dL_law_32 (by rw [hkI]; decide) (by rw [hkI]; decide) (by rw [hkI]; rfl) (by decide) (law_c19 hKl hE hC hi hL h hk)
    · exact v_tabIn hE 722 dL_law_32 (by rw [hkI]; decide) (by rw [hkI]; decide) (by rw [hkI]; rfl) (by decide) (law_c20 hKl hE hC hi hL h hk)
    · exact v_tabIn hE 735 dL_law_32 (by rw [hkI]; decide) (by rw [hkI]; decide) (by rw [hkI]; rfl) (by decide) (law_c21 hKl hE hC hi hL h hk)
    · exact v_tabIn hE 758 dL_law_32 (by rw [hkI]; decide) (by rw [hkI]; decide) (by rw [hkI]; rfl) (by decide) (law_c22 hKl hE hC hi hL h hk)
    · exact v_tabIn hE 771 dL_law_32 (by rw [hkI]; decide) (by rw [hkI]; decide) (by rw [hkI]; rfl) (by decide) (law_c23 hKl hE hC hi hL h hk)
    · exact v_tabIn hE 794 dL_law_32 (by rw [hkI]; decide) (by rw [hkI]; decide) (by rw [hkI]; rfl) (by decide) (law_c24 hKl hE hC hi hL h hk)
    · exact v_tabIn hE 817 dL_law_32 (by rw [hkI]; decide) (by rw [hkI]; decide) (by rw [hkI]; rfl) (by decide) (law_c25 hKl hE hC hi hL h hk)
    · exact v_tabIn hE 851 dL_law_32 (by rw [hkI]; decide) (by rw [hkI]; decide) (by rw [hkI]; rfl) (by decide) (law_c26 hKl hE hC hi hL h hk)
    · exact v_tabIn hE 875 dL_law_32 (by rw [hkI]; decide) (by rw [hkI]; decide) (by rw [hkI]; rfl) (by decide) (law_c27 hKl hE hC hi hL h hk)
  · exact v_tabOut hE 889 dL_law_32 (Or.inr (by rw [hkI]; omega)) (by decide) (hk u w h)
set_option maxRecDepth 100000 in
set_option maxHeartbeats 4000000 in
theorem law_loop {K : vK} {l : Launch} {D : va_G} {C : Nat → ClassId} {x0 m0 : Nat} {ax : (Nat → Nat) × (Nat → Nat) × (Nat → Nat)} {am : Nat → Nat} {b L : Nat} {xs : Nat → Int32} (hKl : K.1.1.2.1 = l) (hE : eV K (gL D C x0 ax m0 am) cL_law 4 RL wsL_law room_1) (hC : scrA K b L xs) (hL : L ≤ 2048) (hend : ∀ (i : Nat) (u : XS) (w : MS), vV K (gL D C x0 ax m0 am) (u, w) [(3, .int (nI i)), (2, .ref m0), (1, .ref x0), (0, .ref b)] [] 895) : ∀ n i : Nat, i ≤ L → L < i + n → lawC K (gL D C x0 ax m0 am) x0 m0 b i 18 := by
  intro n
  induction n with
  | zero => intro i h1 h2; omega
  | succ n ih =>
    intro i hi hn u w h
    have hgo : i + 3 < L → vV K (gL D C x0 ax m0 am) (u, w) [(3, .int (nI i)), (2, .ref m0), (1, .ref x0), (0, .ref b)] [] 26 := by
      intro h4
      refine v_aload_n 27 hE dL_law_26 rfl rfl ?_
      refine v_iload_n 28 hE dL_law_27 rfl rfl ?_
      refine v_sld 29 hE hC (i := i) (by omega) (by omega) dL_law_28 rfl ?_
      refine v_bipush 31 hE (v := 31) dL_law_29 (by decide) rfl ?_
      refine v_iand 32 hE dL_law_31 rfl ?_
      obtain ⟨k, hk, e⟩ := and31 (xs i)
      rw [e]
      refine law_sw hKl hE hC h4 hL (fun u w h => ?_) hk h
      refine v_iinc 892 hE (v := nI (i + 4)) [(3, .int (nI (i + 4))), (2, .ref m0), (1, .ref x0), (0, .ref b)] dL_law_889 rfl (by rw [show Int32.ofInt 4 = nI 4 by decide]; exact nI_add i 4) (by decide) rfl rfl ?_
      refine v_goto hE 18 dL_law_892 (by decide) ?_
      exact ih (i + 4) (by omega) (by omega) u w h
    refine v_iload_n 19 hE dL_law_18 rfl rfl ?_
    refine v_aload_n 20 hE dL_law_19 rfl rfl ?_
    refine v_slen 21 hE hC dL_law_20 rfl ?_
    refine v_iconst 22 hE (v := nI 4) dL_law_21 (by decide) rfl ?_
    by_cases h4 : L < 4
    · refine v_isub 23 hE dL_law_22 rfl ?_
      exact v_ic_gt 26 hE 895 dL_law_23 (by decide) rfl (fun _ => hend i u w) (fun e => absurd (lw_small4 h4 hi) e)
    · refine v_isubN 23 hE dL_law_22 (by omega) rfl ?_
      exact v_ic_gtN 26 hE 895 dL_law_23 (by decide) (by omega) (by omega) rfl (fun _ => hend i u w) (fun e => hgo (by omega))
