/-! Arrays.fill and System.arraycopy over a world -/
theorem arrV_congr {c : ClassId} {N : Nat} {f g : Nat → Value} (h : ∀ j, j < N → f j = g j) : arrV c N f = arrV c N g := by
  unfold arrV
  congr 2
  funext j
  exact h j.val j.isLt
abbrev gFi (D : va_G) (cA : ClassId) (a N : Nat) : vG (Nat → Int32) := (D, [(cA, .int)], [], fun f => [(a, .inl (cA, N, .inl f))])
abbrev gFl (D : va_G) (cA : ClassId) (a N : Nat) : vG (Nat → Int64) := (D, [(cA, .long)], [], fun f => [(a, .inl (cA, N, .inr (.inl f)))])
theorem vV.same {S : Type} {K : vK} {G : vG S} {u u' : S} {lv : List (Nat × Value)} {st : List Value} {pc : Nat} (h : ∀ H : Heap, va_P G.1 vwCl (G.2.2.2 u) H → va_P G.1 vwCl (G.2.2.2 u') H) (k : vV K G u' lv st pc) : vV K G u lv st pc := fun H locs ls hP hS hl => k H locs ls (h H hP) hS hl
set_option maxRecDepth 100000 in
set_option maxHeartbeats 4000000 in
theorem kFi (l : Launch) (D : va_G) (cA : ClassId) (a N : Nat) (hN : N < 2 ^ 31) (f : Nat → Int32) (x : Int32) : mV l (gFi D cA a N) yJ7_fill_53178 wsJ7_fill_53178 ({ frames := 0, cells := 0, slots := 0, locals := 0 }) [.ref a, .int x] f (fun _ => x) := by
  refine mV_of (cc := cJ7_fill_53178) (nL := 4) (own := RJ7) (by decide) rfl rfl (fun v => rfl) (Nat.le_of_ble_eq_true rfl) ?_
  intro K hKl hE hret
  show vV K (gFi D cA a N) f [(0, .ref a), (1, .int x)] [] 0
  refine v_iconst 1 hE (v := nI 0) dJ7_fill_53178_0 (by decide) rfl ?_
  refine v_istore_n 2 hE [_, _, _] dJ7_fill_53178_1 rfl (by decide) rfl rfl ?_
  refine v_aload_n 3 hE dJ7_fill_53178_2 rfl rfl ?_
  refine v_alen 4 hE 0 0 rfl rfl dJ7_fill_53178_3 rfl ?_
  refine v_istore_n 5 hE [_, _, _, _] dJ7_fill_53178_4 rfl (by decide) rfl rfl ?_
  refine vV.sub [2, 3, 1, 0] rfl ?_
  have L5 : ∀ (n i : Nat) (g : Nat → Int32), i ≤ N → (∀ j, j < i → g j = x) → N + 1 ≤ i + n → vV K (gFi D cA a N) g [(0, .ref a), (1, .int x), (2, .int (nI i)), (3, .int (nI N))] [] 5 := by
    intro n
    induction n with
    | zero => intro i g hi hg hfu; exact absurd hfu (by omega)
    | succ n ih =>
      intro i g hi hg hfu
      refine v_iload_n 6 hE dJ7_fill_53178_5 rfl rfl ?_
      refine v_iload_n 7 hE dJ7_fill_53178_6 rfl rfl ?_
      refine v_ic_geN 10 hE 20 dJ7_fill_53178_7 (by decide) (by omega) (by omega) rfl (fun c => ?_) (fun c => ?_)
      · refine vV.same (u' := fun _ => x) (fun H hP k q hq => ?_) (hret _ _ dJ7_fill_53178_20)
        match k, hq with
        | 0, hq =>
          cases hq
          have h := hP 0 _ rfl
          show H[a]? = some (vp_cell cA (N, .inl (fun _ => x)))
          rw [vp_cell_i, arrV_congr (g := fun j => .int (g j)) (fun j hj => by rw [hg j (by omega)])]
          exact h
        | k + 1, hq => cases hq
      · refine v_aload_n 11 hE dJ7_fill_53178_10 rfl rfl ?_
        refine v_iload_n 12 hE dJ7_fill_53178_11 rfl rfl ?_
        refine v_iload_n 13 hE dJ7_fill_53178_12 rfl rfl ?_
        refine v_iast 14 hE 0 0 (u' := upd g i x) rfl rfl (by omega) hN rfl dJ7_fill_53178_13 rfl ?_
        refine v_iincN 17 hE [_, _, _, _] dJ7_fill_53178_14 rfl (by decide) rfl rfl ?_
        refine v_goto hE 5 dJ7_fill_53178_17 (by decide) ?_
        refine vV.sub [1, 2, 0, 3] rfl ?_
        exact ih _ _ (by omega) (fun j hj => by
          by_cases e : j = i
          · subst e; simp [upd]
          · simp [upd, e, hg j (by omega)]) (by omega)
  exact L5 (N + 1) _ _ (by omega) (by intro j hj; omega) (by omega)
set_option maxRecDepth 100000 in
set_option maxHeartbeats 4000000 in
theorem kFl (l : Launch) (D : va_G) (cA : ClassId) (a N : Nat) (hN : N < 2 ^ 31) (f : Nat → Int64) (x : Int64) : mV l (gFl D cA a N) yJ7_fill_d0a16 wsJ7_fill_d0a16 ({ frames := 0, cells := 0, slots := 0, locals := 0 }) [.ref a, .long x] f (fun _ => x) := by
  refine mV_of (cc := cJ7_fill_d0a16) (nL := 5) (own := RJ7) (by decide) rfl rfl (fun v => rfl) (Nat.le_of_ble_eq_true rfl) ?_
  intro K hKl hE hret
  show vV K (gFl D cA a N) f [(0, .ref a), (1, .long x)] [] 0
  refine v_iconst 1 hE (v := nI 0) dJ7_fill_d0a16_0 (by decide) rfl ?_
  refine v_istore_n 2 hE [_, _, _] dJ7_fill_d0a16_1 rfl (by decide) rfl rfl ?_
  refine v_aload_n 3 hE dJ7_fill_d0a16_2 rfl rfl ?_
  refine v_alen 4 hE 0 0 rfl rfl dJ7_fill_d0a16_3 rfl ?_
  refine v_istore 6 hE [_, _, _, _] dJ7_fill_d0a16_4 (by decide) rfl rfl ?_
  refine vV.sub [2, 3, 1, 0] rfl ?_
  have L6 : ∀ (n i : Nat) (g : Nat → Int64), i ≤ N → (∀ j, j < i → g j = x) → N + 1 ≤ i + n → vV K (gFl D cA a N) g [(0, .ref a), (1, .long x), (3, .int (nI i)), (4, .int (nI N))] [] 6 := by
    intro n
    induction n with
    | zero => intro i g hi hg hfu; exact absurd hfu (by omega)
    | succ n ih =>
      intro i g hi hg hfu
      refine v_iload_n 7 hE dJ7_fill_d0a16_6 rfl rfl ?_
      refine v_iload 9 hE dJ7_fill_d0a16_7 rfl rfl ?_
      refine v_ic_geN 12 hE 22 dJ7_fill_d0a16_9 (by decide) (by omega) (by omega) rfl (fun c => ?_) (fun c => ?_)
      · refine vV.same (u' := fun _ => x) (fun H hP k q hq => ?_) (hret _ _ dJ7_fill_d0a16_22)
        match k, hq with
        | 0, hq =>
          cases hq
          have h := hP 0 _ rfl
          show H[a]? = some (vp_cell cA (N, .inr (.inl (fun _ => x))))
          rw [vp_cell_l, arrV_congr (g := fun j => .long (g j)) (fun j hj => by rw [hg j (by omega)])]
          exact h
        | k + 1, hq => cases hq
      · refine v_aload_n 13 hE dJ7_fill_d0a16_12 rfl rfl ?_
        refine v_iload_n 14 hE dJ7_fill_d0a16_13 rfl rfl ?_
        refine v_lload_n 15 hE dJ7_fill_d0a16_14 rfl rfl ?_
        refine v_last 16 hE 0 0 (u' := vp_updL g i x) rfl rfl (by omega) hN rfl dJ7_fill_d0a16_15 rfl ?_
        refine v_iincN 19 hE [_, _, _, _] dJ7_fill_d0a16_16 rfl (by decide) rfl rfl ?_
        refine v_goto hE 6 dJ7_fill_d0a16_19 (by decide) ?_
        refine vV.sub [1, 2, 0, 3] rfl ?_
        exact ih _ _ (by omega) (fun j hj => by
          by_cases e : j = i
          · subst e; simp [vp_updL]
          · simp [vp_updL, e, hg j (by omega)]) (by omega)
  exact L6 (N + 1) _ _ (by omega) (by intro j hj; omega) (by omega)
section FILL
variable {S : Type} {K : vK} {G : vG S} {cc : ByteArray} {nL : Nat} {own : String} {Ts : List Cond} {rm : Room} {u u' : S} {lv : List (Nat × Value)} {st : List Value} {pc : Nat}
/-- one cell of the world was written by a callee -/
theorem vBack_set {S' : Type} {G' : vG S'} {v v' : S'} {A : Nat → Prop} (hD : va_D A (G.2.2.2 u)) (h1 : G'.1 = G.1) (q0 : Nat) {a : Nat} {e0 e1 : va_E} (ha : (G.2.2.2 u)[q0]? = some (a, e0)) (hv : G'.2.2.2 v = [(a, e0)]) (hv' : G'.2.2.2 v' = [(a, e1)]) (hu : (G.2.2.2 u).set q0 (a, e1) = G.2.2.2 u') : vBack G G' u u' v v' := by
  intro H H1 hP hk hP1
  rw [← hu]
  rw [hv'] at hP1
  rw [h1] at hP1
  have hlt := (List.getElem?_eq_some_iff.mp ha).1
  intro k q hq
  rw [List.getElem?_set] at hq
  by_cases e : q0 = k
  · subst e
    rw [if_pos rfl, if_pos hlt] at hq
    cases hq
    exact hP1 0 _ rfl
  · rw [if_neg e] at hq
    have h0 := hP k q hq
    refine h0.kept (hk q.1 h0.lt ?_)
    rw [hv]
    rintro (⟨j, e2, hj⟩ | hj)
    · have hj0 : j < 1 := (List.getElem?_eq_some_iff.mp hj).1
      rw [show j = 0 by omega] at hj
      have e3 : a = q.1 := by
        have := Option.some.inj hj
        exact congrArg Prod.fst this
      exact e (hD.1 q0 k (a, e0) q ha hq e3)
    · exact absurd h0.lt (Nat.not_lt.mpr hj)
theorem vP_one {D : va_G} {w : va_W} {H : Heap} (q0 : Nat) {q : Nat × va_E} (ha : w[q0]? = some q) (hP : va_P D vwCl w H) : va_P D vwCl [q] H := fun k x hx => by
  match k, hx with
  | 0, hx => cases hx; exact hP q0 _ ha
  | k + 1, hx => cases hx
theorem vD_one {A : Nat → Prop} {w : va_W} (q0 : Nat) {q : Nat × va_E} (ha : w[q0]? = some q) (hD : va_D A w) : va_D A [q] := by
  refine ⟨fun i j x y hx hy _ => ?_, fun k x hx => ?_⟩
  · have h1 : i < 1 := (List.getElem?_eq_some_iff.mp hx).1
    have h2 : j < 1 := (List.getElem?_eq_some_iff.mp hy).1
    omega
  · have h1 : k < 1 := (List.getElem?_eq_some_iff.mp hx).1
    rw [show k = 0 by omega] at hx
    cases hx
    exact hD.2 q0 _ ha
theorem v_fillI (n : Nat) (hE : eV K G cc nL own Ts rm) (q0 t0 : Nat) {a : Nat} {cA : ClassId} {N idx : Nat} {f : Nat → Int32} {x : Int32} (ha : (G.2.2.2 u)[q0]? = some (a, .inl (cA, N, .inl f))) (ht : G.2.1[t0]? = some (cA, .int)) (hN : N < 2 ^ 31) (hG : GoodIn Ts (va_wsS own idx yJ7_fill_53178 wsJ7_fill_53178)) (hrm : 1 ≤ rm.frames ∧ 23 ≤ rm.locals) (hcat : (st.map fun v => v.category).sum ≤ 8) (hu : (G.2.2.2 u).set q0 (a, .inl (cA, N, .inl (fun _ => x))) = G.2.2.2 u') (hd : decode cc pc = .ok (.invokestatic idx, 3)) (hn : pc + 3 = n) (k : vV K G u' lv st n) : vV K G u lv (.int x :: .ref a :: st) pc := by
  have hs : vSub K G (gFi G.1 cA a N) u f := ⟨fun H hP => vP_one q0 ha hP, ⟨hE.2.1.1, fun k q hq => by
    match k, hq with
    | 0, hq => cases hq; exact hE.2.1.2 t0 _ ht
    | k + 1, hq => cases hq⟩, vD_one q0 ha (hE.2.2.1 u), fun _ h => absurd h List.not_mem_nil⟩
  exact v_cv n hE hs (v_runS 2 hE hs (kFi _ G.1 cA a N hN f x) hG rfl (by decide +kernel) rfl ⟨rfl, rfl, hrm.1, hrm.2⟩ rfl hcat hd) (vBack_set (hE.2.2.1 u) rfl q0 ha rfl rfl hu) hn k
theorem v_fillL (n : Nat) (hE : eV K G cc nL own Ts rm) (q0 t0 : Nat) {a : Nat} {cA : ClassId} {N idx : Nat} {f : Nat → Int64} {x : Int64} (ha : (G.2.2.2 u)[q0]? = some (a, .inl (cA, N, .inr (.inl f)))) (ht : G.2.1[t0]? = some (cA, .long)) (hN : N < 2 ^ 31) (hG : GoodIn Ts (va_wsS own idx yJ7_fill_d0a16 wsJ7_fill_d0a16)) (hrm : 1 ≤ rm.frames ∧ 24 ≤ rm.locals) (hcat : (st.map fun v => v.category).sum ≤ 8) (hu : (G.2.2.2 u).set q0 (a, .inl (cA, N, .inr (.inl (fun _ => x)))) = G.2.2.2 u') (hd : decode cc pc = .ok (.invokestatic idx, 3)) (hn : pc + 3 = n) (k : vV K G u' lv st n) : vV K G u lv (.long x :: .ref a :: st) pc := by
  have hs : vSub K G (gFl G.1 cA a N) u f := ⟨fun H hP => vP_one q0 ha hP, ⟨hE.2.1.1, fun k q hq => by
    match k, hq with
    | 0, hq => cases hq; exact hE.2.1.2 t0 _ ht
    | k + 1, hq => cases hq⟩, vD_one q0 ha (hE.2.2.1 u), fun _ h => absurd h List.not_mem_nil⟩
  exact v_cv n hE hs (v_runS 2 hE hs (kFl _ G.1 cA a N hN f x) hG rfl (by decide +kernel) rfl ⟨rfl, rfl, hrm.1, hrm.2⟩ rfl hcat hd) (vBack_set (hE.2.2.1 u) rfl q0 ha rfl rfl hu) hn k
theorem v_copyL (n : Nat) (hE : eV K G cc nL own Ts rm) (q0 q1 t0 : Nat) {a0 a : Nat} {cA : ClassId} {N idx : Nat} {f g : Nat → Int64} (ha0 : (G.2.2.2 u)[q0]? = some (a0, .inl (cA, N, .inr (.inl f)))) (ha1 : (G.2.2.2 u)[q1]? = some (a, .inl (cA, N, .inr (.inl g)))) (ht : G.2.1[t0]? = some (cA, .long)) (hN : N < 2 ^ 31) (hlink : Cond.methodLink own idx arraycopyName ∈ Ts) (hnat : Cond.native arraycopyName ∈ Ts) (hstat : Cond.static arraycopyName ∈ Ts) (hini : Cond.initialized "java/lang/System" ∈ Ts) (hrm : 1 ≤ rm.frames ∧ (st.map fun v => v.category).sum + (nativeFrameWords "java/lang/System" "arraycopy" 5 + 11) ≤ rm.locals) (hu : (G.2.2.2 u).set q1 (a, .inl (cA, N, .inr (.inl (va_cpy f g 0 0 N)))) = G.2.2.2 u') (hd : decode cc pc = .ok (.invokestatic idx, 3)) (hn : pc + 3 = n) (k : vV K G u' lv st n) : vV K G u lv (.int (nI N) :: .int (nI 0) :: .ref a :: .int (nI 0) :: .ref a0 :: st) pc := by
  intro H locs ls hP hS hl
  have hR : K.1.1.2.2.2 = rm := hE.2.2.2.2.2.1
  have hts := hE.1.2.2.2.2
  have e0 : (nI 0).toNatClampNeg = 0 := by decide
  have eN : (nI N).toNatClampNeg = N := nI_clamp hN
  refine va_copyl hE.1.1 hE.1.2.1 (by rw [hE.1.2.2.1, hl.1, hE.2.2.2.2.2.2.1]) hE.1.2.2.2.1 (hts _ hlink) (hts _ hnat) (hts _ hstat) (hts _ hini) hE.2.1 hP (hE.2.2.1 u) hS q0 q1 t0 t0 ha0 ha1 ht ht rfl (nI_pos (by decide)) (nI_pos (by decide)) (nI_pos hN) (by rw [e0, eN]; omega) (by rw [e0, eN]; omega) (fun i _ => rfl) (by rw [hR]; exact hrm.1) (by rw [hR]; exact hrm.2) hd (fun H1 locs1 hP1 _ hS1 => ?_)
  subst hn
  rw [e0, eN, hu] at hP1
  exact k H1 locs1 ls hP1 hS1 hl
end FILL
section FILLX
variable {K : vK} {Y : yG} {cc : ByteArray} {nL : Nat} {own : String} {Ts : List Cond} {rm : Room} {u : XS} {lv : List (Nat × Value)} {st : List Value} {pc : Nat}
theorem fX_len (n : Nat) (hE : eV K (gX Y) cc nL own Ts rm) {idx : Nat} {x : Nat} (hG : GoodIn Ts (va_wsS own idx yJ7_fill_53178 wsJ7_fill_53178)) (hrm : 1 ≤ rm.frames ∧ 23 ≤ rm.locals) (hcat : (st.map fun v => v.category).sum ≤ 8) (hd : decode cc pc = .ok (.invokestatic idx, 3)) (hn : pc + 3 = n) (k : vV K (gX Y) (xs_len u (fun _ => x)) lv st n) : vV K (gX Y) u lv (.int (nI x) :: .ref (yA Y 9) :: st) pc := v_fillI n hE 9 0 rfl rfl (by decide) hG hrm hcat rfl hd hn k
theorem fX_cost (n : Nat) (hE : eV K (gX Y) cc nL own Ts rm) {idx : Nat} {x : Nat} (hG : GoodIn Ts (va_wsS own idx yJ7_fill_53178 wsJ7_fill_53178)) (hrm : 1 ≤ rm.frames ∧ 23 ≤ rm.locals) (hcat : (st.map fun v => v.category).sum ≤ 8) (hd : decode cc pc = .ok (.invokestatic idx, 3)) (hn : pc + 3 = n) (k : vV K (gX Y) (xs_cost u (fun _ => x)) lv st n) : vV K (gX Y) u lv (.int (nI x) :: .ref (yA Y 11) :: st) pc := v_fillI n hE 11 0 rfl rfl (by decide) hG hrm hcat rfl hd hn k
theorem fX_dem (n : Nat) (hE : eV K (gX Y) cc nL own Ts rm) {idx : Nat} {x : Int32} (hG : GoodIn Ts (va_wsS own idx yJ7_fill_53178 wsJ7_fill_53178)) (hrm : 1 ≤ rm.frames ∧ 23 ≤ rm.locals) (hcat : (st.map fun v => v.category).sum ≤ 8) (hd : decode cc pc = .ok (.invokestatic idx, 3)) (hn : pc + 3 = n) (k : vV K (gX Y) (xs_dem u (fun _ => x)) lv st n) : vV K (gX Y) u lv (.int x :: .ref (yA Y 2) :: st) pc := v_fillI n hE 2 0 rfl rfl (by decide) hG hrm hcat rfl hd hn k
theorem fX_load (n : Nat) (hE : eV K (gX Y) cc nL own Ts rm) {idx : Nat} {x : Int32} (hG : GoodIn Ts (va_wsS own idx yJ7_fill_53178 wsJ7_fill_53178)) (hrm : 1 ≤ rm.frames ∧ 23 ≤ rm.locals) (hcat : (st.map fun v => v.category).sum ≤ 8) (hd : decode cc pc = .ok (.invokestatic idx, 3)) (hn : pc + 3 = n) (k : vV K (gX Y) (xs_load u (fun _ => x)) lv st n) : vV K (gX Y) u lv (.int x :: .ref (yA Y 12) :: st) pc := v_fillI n hE 12 0 rfl rfl (by decide) hG hrm hcat rfl hd hn k
theorem fX_out (n : Nat) (hE : eV K (gX Y) cc nL own Ts rm) {idx : Nat} {x : Int32} (hG : GoodIn Ts (va_wsS own idx yJ7_fill_53178 wsJ7_fill_53178)) (hrm : 1 ≤ rm.frames ∧ 23 ≤ rm.locals) (hcat : (st.map fun v => v.category).sum ≤ 8) (hd : decode cc pc = .ok (.invokestatic idx, 3)) (hn : pc + 3 = n) (k : vV K (gX Y) (xs_out u (fun _ => x)) lv st n) : vV K (gX Y) u lv (.int x :: .ref (yA Y 13) :: st) pc := v_fillI n hE 13 0 rfl rfl (by decide) hG hrm hcat rfl hd hn k
theorem fX_inn (n : Nat) (hE : eV K (gX Y) cc nL own Ts rm) {idx : Nat} {x : Int32} (hG : GoodIn Ts (va_wsS own idx yJ7_fill_53178 wsJ7_fill_53178)) (hrm : 1 ≤ rm.frames ∧ 23 ≤ rm.locals) (hcat : (st.map fun v => v.category).sum ≤ 8) (hd : decode cc pc = .ok (.invokestatic idx, 3)) (hn : pc + 3 = n) (k : vV K (gX Y) (xs_inn u (fun _ => x)) lv st n) : vV K (gX Y) u lv (.int x :: .ref (yA Y 14) :: st) pc := v_fillI n hE 14 0 rfl rfl (by decide) hG hrm hcat rfl hd hn k
theorem fX_pv (n : Nat) (hE : eV K (gX Y) cc nL own Ts rm) {idx : Nat} {x : Int32} (hG : GoodIn Ts (va_wsS own idx yJ7_fill_53178 wsJ7_fill_53178)) (hrm : 1 ≤ rm.frames ∧ 23 ≤ rm.locals) (hcat : (st.map fun v => v.category).sum ≤ 8) (hd : decode cc pc = .ok (.invokestatic idx, 3)) (hn : pc + 3 = n) (k : vV K (gX Y) (xs_pv u (fun _ => x)) lv st n) : vV K (gX Y) u lv (.int x :: .ref (yA Y 15) :: st) pc := v_fillI n hE 15 0 rfl rfl (by decide) hG hrm hcat rfl hd hn k
theorem fX_rop (n : Nat) (hE : eV K (gX Y) cc nL own Ts rm) {idx : Nat}  (hG : GoodIn Ts (va_wsS own idx yJ7_fill_53178 wsJ7_fill_53178)) (hrm : 1 ≤ rm.frames ∧ 23 ≤ rm.locals) (hcat : (st.map fun v => v.category).sum ≤ 8) (hd : decode cc pc = .ok (.invokestatic idx, 3)) (hn : pc + 3 = n) (k : vV K (gX Y) (xs_rop u (fun _ => none)) lv st n) : vV K (gX Y) u lv (.int (-1) :: .ref (yA Y 17) :: st) pc := v_fillI n hE 17 0 rfl rfl (by decide) hG hrm hcat rfl hd hn k
theorem fX_por (n : Nat) (hE : eV K (gX Y) cc nL own Ts rm) {idx : Nat}  (hG : GoodIn Ts (va_wsS own idx yJ7_fill_53178 wsJ7_fill_53178)) (hrm : 1 ≤ rm.frames ∧ 23 ≤ rm.locals) (hcat : (st.map fun v => v.category).sum ≤ 8) (hd : decode cc pc = .ok (.invokestatic idx, 3)) (hn : pc + 3 = n) (k : vV K (gX Y) (xs_por u (fun _ => none)) lv st n) : vV K (gX Y) u lv (.int (-1) :: .ref (yA Y 18) :: st) pc := v_fillI n hE 18 0 rfl rfl (by decide) hG hrm hcat rfl hd hn k
theorem fX_val (n : Nat) (hE : eV K (gX Y) cc nL own Ts rm) {idx : Nat} {x : Int64} (hG : GoodIn Ts (va_wsS own idx yJ7_fill_d0a16 wsJ7_fill_d0a16)) (hrm : 1 ≤ rm.frames ∧ 24 ≤ rm.locals) (hcat : (st.map fun v => v.category).sum ≤ 8) (hd : decode cc pc = .ok (.invokestatic idx, 3)) (hn : pc + 3 = n) (k : vV K (gX Y) (xs_val u (fun _ => x)) lv st n) : vV K (gX Y) u lv (.long x :: .ref (yA Y 20) :: st) pc := v_fillL n hE 20 1 rfl rfl (by decide) hG hrm hcat rfl hd hn k
theorem cX_rowF (Y : yG) (u : XS) {i : Nat} (hi : i < 12) (f : Nat → Int64) : (cX Y u).set (i + 47) (yW Y i, .inl (yC Y 1, 26, .inr (.inl f))) = cX Y (xs_row u (va_up (x_row u) i f)) := by
  unfold cX
  rw [show i + 47 = (i + 25) + 22 from rfl]
  simp only [List.set_cons_succ]
  congr 22
  rw [List.set_append_right _ _ (by simp)]
  simp only [List.length_map, List.length_range, Nat.add_sub_cancel]
  rw [set_map]
  congr 1
  apply List.map_congr_left
  intro t _
  show va_up _ i _ t = ((yW Y t, .inl (yC Y 1, 26, .inr (.inl (va_up (x_row u) i f t)))) : Nat × va_E)
  by_cases e : t = i
  · subst e
    simp only [va_up_self]
  · simp only [va_up_ne _ _ e]
theorem fX_row (n : Nat) (hE : eV K (gX Y) cc nL own Ts rm) {i idx : Nat} {x : Int64} (hi : i < 12) (hG : GoodIn Ts (va_wsS own idx yJ7_fill_d0a16 wsJ7_fill_d0a16)) (hrm : 1 ≤ rm.frames ∧ 24 ≤ rm.locals) (hcat : (st.map fun v => v.category).sum ≤ 8) (hd : decode cc pc = .ok (.invokestatic idx, 3)) (hn : pc + 3 = n) (k : vV K (gX Y) (xs_row u (va_up (x_row u) i (fun _ => x))) lv st n) : vV K (gX Y) u lv (.long x :: .ref (yW Y i) :: st) pc := v_fillL n hE (i + 47) 1 (cX_row Y u hi) rfl (by decide) hG hrm hcat (cX_rowF Y u hi _) hd hn k
theorem copyX_rem (n : Nat) (hE : eV K (gX Y) cc nL own Ts rm) {idx : Nat} (hlink : Cond.methodLink own idx arraycopyName ∈ Ts) (hnat : Cond.native arraycopyName ∈ Ts) (hstat : Cond.static arraycopyName ∈ Ts) (hini : Cond.initialized "java/lang/System" ∈ Ts) (hrm : 1 ≤ rm.frames ∧ (st.map fun v => v.category).sum + (nativeFrameWords "java/lang/System" "arraycopy" 5 + 11) ≤ rm.locals) (hd : decode cc pc = .ok (.invokestatic idx, 3)) (hn : pc + 3 = n) (k : vV K (gX Y) (xs_rem u (va_cpy (x_val u) (x_rem u) 0 0 25)) lv st n) : vV K (gX Y) u lv (.int (nI 25) :: .int (nI 0) :: .ref (yA Y 21) :: .int (nI 0) :: .ref (yA Y 20) :: st) pc := v_copyL n hE 20 21 1 rfl rfl rfl (by decide) hlink hnat hstat hini hrm rfl hd hn k
end FILLX
