/-! making: worlds that grow -/
def va_AOA (ty : FieldType) (U : State) : Prop := (Cond.arrayOver (.array ty)).before #[] U = true
theorem va_AOA.use {ty : FieldType} {A : Array Value} {U : State} (h : va_AOA ty U) : (Cond.arrayOver (.array ty)).before A U = true := h
theorem va_AOA.moved {ty : FieldType} {u U : State} (hvm : u.vm.Alike U.vm) (h : va_AOA ty u) : va_AOA ty U := arrayOver_alikeB (args := #[]) (first := u) (o := none) (idx := []) hvm h
/-! ===== BEGIN new T[n][m]: the outer array a place, the inner ones among the pooled ===== -/
/-- f, but v at every address of l -/
def vr_up {α : Type} (f : Nat → α) (l : List Nat) (v : α) : Nat → α := fun a => if a ∈ l then v else f a
theorem vr_up_in {α : Type} {f : Nat → α} {l : List Nat} {v : α} {a : Nat} (h : a ∈ l) : vr_up f l v a = v := if_pos h
theorem vr_up_ne {α : Type} {f : Nat → α} {l : List Nat} {v : α} {a : Nat} (h : a ∉ l) : vr_up f l v a = f a := if_neg h
theorem vr_rows {L l : List Nat} {f : Nat → va_E} {e : va_E} (h : ∀ a, a ∈ l → a ∉ L) : va_pl L f ++ l.map (fun a => (a, e)) = va_pl (L ++ l) (vr_up f l e) := by
  unfold va_pl
  rw [List.map_append]
  congr 1
  · apply List.map_congr_left
    intro a ha
    rw [vr_up_ne (fun q => h a q ha)]
  · apply List.map_congr_left
    intro a ha
    rw [vr_up_in ha]
theorem vr_lay {X rows : va_W} {x : Nat × va_E} {pl : va_W} {D : va_G} {cl : List vw_C} {H : Heap} (hP : va_P D cl (((X ++ pl) ++ [x]) ++ rows) H) : va_P D cl ((X ++ [x]) ++ (pl ++ rows)) H := by
  rw [List.append_assoc (X ++ pl)] at hP
  have h := va_P.swap hP
  rw [← List.append_assoc X] at h
  have h2 := va_P.swap h
  rw [List.append_assoc (X ++ [x])] at h2
  exact h2
theorem vr_layD {X rows : va_W} {x : Nat × va_E} {pl : va_W} {A : Nat → Prop} (hD : va_D A (((X ++ pl) ++ [x]) ++ rows)) : va_D A ((X ++ [x]) ++ (pl ++ rows)) := by
  rw [List.append_assoc (X ++ pl)] at hD
  have h := va_D.swap hD
  rw [← List.append_assoc X] at h
  have h2 := va_D.swap h
  rw [List.append_assoc (X ++ [x])] at h2
  exact h2
theorem vr_outer (c : ClassId) (N h0 : Nat) : ∀ i : Nat, Jvm.Free.Multi.outerC c N h0 i = arrV c N (fun j => va_rf (if j < i then some (h0 + 1 + j) else none))
  | 0 => by
    show ({ cls := c, slots := Array.replicate N .null, vm := .none } : Cell) = _
    rw [arrV_new]
    refine congrArg (arrV c N) (funext fun j => ?_)
    simp [va_rf]
  | i + 1 => by
    show (Jvm.Free.Multi.outerC c N h0 i).setSlot i (.ref (h0 + 1 + i)) = _
    rw [vr_outer c N h0 i, arrV_store]
    refine congrArg (arrV c N) (funext fun j => ?_)
    by_cases e : j = i
    · subst e
      simp [updV, va_rf]
    · by_cases h : j < i
      · simp [updV, e, h, Nat.lt_succ_of_lt h]
      · simp [updV, e, h, show ¬ j < i + 1 by omega]
section VGM
variable {p : Program} {l : Launch} {e : Env} {R : Room} {s : State} {m : MethodId} {args : Array Value} {below : List Frame} {meth : Method} {c : Code} {H : Heap} {locs : List Loc} {cells slots : Nat} {Q : State → Prop}
variable {cc : ByteArray} {pc : Nat} {ls : Array Slot} {rest : List Value} {D : va_G} {cl : List vw_C} {A : Nat → Prop} {a : Nat} {tys : List (ClassId × FieldType)} {ws : va_W} {H0 : Heap}
theorem va_mna {X : va_W} {L : List Nat} {f : Nat → va_E} {cc : ByteArray} (hexec : p.tables.exec = Jvm.exec) (hb : c.code = cc) {own : String} {index : Nat} {ty : FieldType} {cy : ClassId} (hown : s.vm.findClass own = some m.cls) (hclink : (Cond.classLink own index ("[" ++ (FieldType.array ty).toString)).before args s = true) (hover : va_AOA ty s) (harr : (Cond.arrayClass ty).before args s = true) (hcy : s.vm.findClass (FieldType.array ty).toString = some cy)
    (hK : va_K D cl tys s) (hP : va_P D cl (X ++ va_pl L f) H) (hD : va_D A (X ++ va_pl L f)) (hS : va_S A H0 H locs) (hA : ∀ q, H0.size ≤ q → A q) {n k : Int32} {N' K' : Nat} {z : vp_A} (hn : ¬ n < 0) (hk : ¬ k < 0) (hN : n.toNatClampNeg = N') (hM : k.toNatClampNeg = K')
    (hb1 : N' * 4 ≤ 536870912) (hb2 : K' * componentBytes ty ≤ 536870912) (hb3 : K' ≤ 536870912) (hdf : fits ty (defaultValue ty) = true) (hdd : (defaultValue ty).isDefault = true) (hcells : cells + (1 + N') ≤ R.cells) (hslots : slots + (N' + N' * K') ≤ R.slots) (hz : ∀ c : ClassId, Jvm.Free.Multi.innerC c K' (defaultValue ty) = vp_cell c z) (hdg : decode cc pc = .ok (.multianewarray index 2, 4))
    (kk : ∀ (q : Nat) (r : Nat → Nat) (cA : ClassId) (H1 : Heap), (∀ i j : Nat, i < N' → j < N' → r i = r j → i = j) → (∀ i : Nat, i < N' → r i ∉ L) → va_K D cl (tys ++ [(cA, .array ty)]) s →
      va_P D cl ((X ++ [(q, .inl (cA, N', .inr (.inr (.inr (.inr (fun i => if i < N' then some (r i) else none))))))]) ++ va_pl (L ++ (List.range N').map r) (vr_up f ((List.range N').map r) (.inl (cy, z)))) H1 → va_D A ((X ++ [(q, .inl (cA, N', .inr (.inr (.inr (.inr (fun i => if i < N' then some (r i) else none))))))]) ++ va_pl (L ++ (List.range N').map r) (vr_up f ((List.range N').map r) (.inl (cy, z)))) → va_S A H0 H1 locs →
      W p l e R s m args below meth c H1 locs (cells + 1 + N') (slots + N' + N' * K') Q (F0 m (pc + 4) ls (.ref q :: rest))) : W p l e R s m args below meth c H locs cells slots Q (F0 m pc ls (.int k :: .int n :: rest)) := by
  subst hN
  subst hM
  intro T hT Xs
  obtain ⟨vm₁, cA, comp, -, fA, fC, hO, -, X', step⟩ := Xs.multianewarray2F hexec hown hclink (va_AOA.use hover) harr (g := F0 m pc ls (.int k :: .int n :: rest)) rfl (by rw [hb]; exact hdg) rfl hn hk hb1 hb2 hb3 hdf hdd hcells hslots
  have ec : some cy = some comp := hcy.symm.trans fC
  cases ec
  generalize hF : Jvm.Free.Multi.fill (T.setVm vm₁) cA cy n.toNatClampNeg k.toNatClampNeg (defaultValue ty) n.toNatClampNeg = F at X' step
  have hTh : (T.setVm vm₁).heap = H := hT
  obtain ⟨f1, f2, -, -⟩ := Jvm.Free.Multi.fill_facts (T.setVm vm₁) cA cy n.toNatClampNeg k.toNatClampNeg (defaultValue ty) n.toNatClampNeg
  rw [hF, hTh] at f1 f2
  have hold : ∀ x : Nat, x < H.size → F.heap[x]? = H[x]? := fun x hx => by
    have := Jvm.Free.Multi.fill_old (T.setVm vm₁) cA cy n.toNatClampNeg k.toNatClampNeg (defaultValue ty) (a := x) (by rw [hTh]; exact hx) n.toNatClampNeg
    rw [hF, hTh] at this
    exact this
  have hrow : ∀ j : Nat, j < n.toNatClampNeg → F.heap[H.size + 1 + j]? = some (vp_cell cy z) := fun j hj => by
    have := Jvm.Free.Multi.fill_inner (T.setVm vm₁) cA cy n.toNatClampNeg k.toNatClampNeg (defaultValue ty) n.toNatClampNeg j hj
    rw [hF, hTh, hz] at this
    exact this
  have hout : Jvm.Free.Multi.outerC cA n.toNatClampNeg H.size n.toNatClampNeg = vp_cell cA (n.toNatClampNeg, .inr (.inr (.inr (.inr (fun i => if i < n.toNatClampNeg then some (H.size + 1 + i) else none))))) := by
    rw [vp_cell_q]
    exact vr_outer cA n.toNatClampNeg H.size n.toNatClampNeg
  rw [hout] at f2
  have hlt : ∀ a, a ∈ L → a < H.size := fun a ha => by
    obtain ⟨k9, hk9⟩ := va_pl_get (X := X) (f := f) ha
    exact (hP k9 _ hk9).lt
  have hnl : ∀ i : Nat, i < n.toNatClampNeg → H.size + 1 + i ∉ L := fun i _ h => by
    have := hlt _ h
    omega
  have hnm : ∀ a, a ∈ (List.range n.toNatClampNeg).map (fun i => H.size + 1 + i) → a ∉ L := fun a ha h => by
    obtain ⟨i, -, rfl⟩ := List.mem_map.mp ha
    have := hlt _ h
    omega
  have hP0 : va_P D cl (X ++ va_pl L f) F.heap := hP.kept (fun k9 x hx => hold x.1 ((hP k9 x hx).lt))
  have hP1 : va_P D cl ((X ++ va_pl L f) ++ [(H.size, .inl (cA, n.toNatClampNeg, .inr (.inr (.inr (.inr (fun i => if i < n.toNatClampNeg then some (H.size + 1 + i) else none))))))]) F.heap := hP0.app (fun k9 x hx => by
    have h0 : k9 < 1 := (List.getElem?_eq_some_iff.mp hx).1
    rw [show k9 = 0 by omega] at hx
    cases hx
    exact f2)
  have hP2 : va_P D cl (((X ++ va_pl L f) ++ [(H.size, .inl (cA, n.toNatClampNeg, .inr (.inr (.inr (.inr (fun i => if i < n.toNatClampNeg then some (H.size + 1 + i) else none))))))]) ++ ((List.range n.toNatClampNeg).map (fun i => H.size + 1 + i)).map (fun a => (a, .inl (cy, z)))) F.heap := hP1.app (fun k9 x hx => by
    obtain ⟨a, ha, rfl⟩ := List.mem_map.mp (List.mem_of_getElem? hx)
    obtain ⟨i, hi, rfl⟩ := List.mem_map.mp ha
    exact hrow i (List.mem_range.mp hi))
  have hD2 : va_D A (((X ++ va_pl L f) ++ [(H.size, .inl (cA, n.toNatClampNeg, .inr (.inr (.inr (.inr (fun i => if i < n.toNatClampNeg then some (H.size + 1 + i) else none))))))]) ++ ((List.range n.toNatClampNeg).map (fun i => H.size + 1 + i)).map (fun a => (a, .inl (cy, z)))) := by
    have hD1 := hD.push (e := .inl (cA, n.toNatClampNeg, .inr (.inr (.inr (.inr (fun i => if i < n.toNatClampNeg then some (H.size + 1 + i) else none)))))) hP rfl (hA _ hS.1)
    generalize hW1 : (X ++ va_pl L f) ++ [(H.size, .inl (cA, n.toNatClampNeg, .inr (.inr (.inr (.inr (fun i => if i < n.toNatClampNeg then some (H.size + 1 + i) else none))))))] = W1 at hD1 hP1 ⊢
    have hle : ∀ (k9 : Nat) (x : Nat × va_E), W1[k9]? = some x → x.1 ≤ H.size := fun k9 x hx => by
      rw [← hW1] at hx
      by_cases hl : k9 < (X ++ va_pl L f).length
      · rw [List.getElem?_append_left hl] at hx
        exact Nat.le_of_lt ((hP k9 x hx).lt)
      · rw [List.getElem?_append_right (by omega)] at hx
        have h0 : k9 - (X ++ va_pl L f).length < 1 := (List.getElem?_eq_some_iff.mp hx).1
        rw [show k9 - (X ++ va_pl L f).length = 0 by omega] at hx
        cases hx
        exact Nat.le_refl _
    have hr : ∀ (k9 : Nat) (x : Nat × va_E), (((List.range n.toNatClampNeg).map (fun i => H.size + 1 + i)).map (fun a => ((a, .inl (cy, z)) : Nat × va_E)))[k9]? = some x → x.1 = H.size + 1 + k9 := fun k9 x hx => by
      rw [List.getElem?_map, List.getElem?_map] at hx
      by_cases h9 : k9 < n.toNatClampNeg
      · rw [List.getElem?_range h9] at hx
        cases hx
        rfl
      · have hn0 : (List.range n.toNatClampNeg)[k9]? = none := List.getElem?_eq_none (by rw [List.length_range]; omega)
        rw [hn0] at hx
        cases hx
    refine ⟨fun i j x y hi hj hxy => ?_, fun k9 x hx => ?_⟩
    · by_cases h1 : i < W1.length <;> by_cases h2 : j < W1.length
      · rw [List.getElem?_append_left h1] at hi
        rw [List.getElem?_append_left h2] at hj
        exact hD1.1 i j x y hi hj hxy
      · rw [List.getElem?_append_left h1] at hi
        rw [List.getElem?_append_right (by omega)] at hj
        have := hle _ _ hi
        have := hr _ _ hj
        omega
      · rw [List.getElem?_append_right (by omega)] at hi
        rw [List.getElem?_append_left h2] at hj
        have := hle _ _ hj
        have := hr _ _ hi
        omega
      · rw [List.getElem?_append_right (by omega)] at hi hj
        have := hr _ _ hi
        have := hr _ _ hj
        omega
    · by_cases h1 : k9 < W1.length
      · rw [List.getElem?_append_left h1] at hx
        exact hD1.2 k9 x hx
      · rw [List.getElem?_append_right (by omega)] at hx
        have := hr _ _ hx
        exact hA _ (by have := hS.1; omega)
  have hAr : ArrOfT s cA (.array ty) := fun N9 z9 => by
    obtain ⟨-, k9, hk9, cm9, hkk9⟩ := (hO 0 0 0).1
    exact ⟨(fun q hq => by cases hq), k9, hk9, cm9, hkk9⟩
  have hK2 : va_K D cl (tys ++ [(cA, .array ty)]) s := ⟨hK.1, fun k9 x hx => by
    by_cases hl : k9 < tys.length
    · rw [List.getElem?_append_left hl] at hx
      exact hK.2 k9 x hx
    · rw [List.getElem?_append_right (by omega)] at hx
      have h0 : k9 - tys.length < 1 := (List.getElem?_eq_some_iff.mp hx).1
      rw [show k9 - tys.length = 0 by omega] at hx
      cases hx
      exact ⟨hAr, fA⟩⟩
  obtain ⟨t, a1, b1⟩ := kk H.size (fun i => H.size + 1 + i) cA F.heap (fun i j _ _ h => by have h9 : H.size + 1 + i = H.size + 1 + j := h; omega) hnl hK2 (by rw [← vr_rows hnm]; exact vr_lay hP2) (by rw [← vr_rows hnm]; exact vr_layD hD2) ⟨by rw [f1]; have := hS.1; omega, fun x h1 h2 => (hold x (Nat.lt_of_lt_of_le h1 hS.1)).trans (hS.2.1 x h1 h2), hS.2.2⟩ F rfl X'
  refine ⟨t, step t ?_, b1⟩
  have e : T.heap.size = H.size := by rw [hT]
  rw [e]
  exact a1
end VGM
/-! ===== END ===== -/
abbrev gU (D : va_G) (T : List (ClassId × FieldType)) (ns : List vN) (ws : va_W) : vG Unit := (D, T, ns, fun _ => ws)
abbrev kUp (K : vK) (c s : Nat) : vK := ((K.1.1, K.1.2.1, K.1.2.2.1, (K.1.2.2.2.1 + c, K.1.2.2.2.2 + s)), K.2)
section MAKE
variable {K : vK} {D : va_G} {T : List (ClassId × FieldType)} {ns : List vN} {ws : va_W} {cc : ByteArray} {nL : Nat} {own : String} {Ts : List Cond} {rm : Room} {lv : List (Nat × Value)} {st : List Value} {pc : Nat}
theorem eV_up (hE : eV K (gU D T ns ws) cc nL own Ts rm) {ws' : va_W} (hD : va_D K.2.1 ws') {c s : Nat} (hc : K.1.2.2.2.1 + c ≤ rm.cells) (hs : K.1.2.2.2.2 + s ≤ rm.slots) : eV (kUp K c s) (gU D T ns ws') cc nL own Ts rm := ⟨hE.1, hE.2.1, fun _ => hD, hE.2.2.2.1, hE.2.2.2.2.1, hE.2.2.2.2.2.1, hE.2.2.2.2.2.2.1, hc, hs⟩
theorem eV_set (hE : eV K (gU D T ns ws) cc nL own Ts rm) {ws' : va_W} (hD : va_D K.2.1 ws') : eV K (gU D T ns ws') cc nL own Ts rm := ⟨hE.1, hE.2.1, fun _ => hD, hE.2.2.2.1, hE.2.2.2.2.1, hE.2.2.2.2.2.1, hE.2.2.2.2.2.2.1, hE.2.2.2.2.2.2.2.1, hE.2.2.2.2.2.2.2.2⟩
theorem v_obj (n : Nat) {S : Type} {G : vG S} {u : S} (hE : eV K G cc nL own Ts rm) {idx a : Nat} (h1 : Cond.methodLink own idx objectInit ∈ Ts) (h2 : Cond.instanceMethod objectInit ∈ Ts) (h3 : Cond.code objectInit ⟨#[0xb1]⟩ 1 none ∈ Ts) (hr : 1 ≤ rm.frames) (hcat : 8 + 12 ≤ rm.locals) (hc : (st.map fun v => v.category).sum ≤ 8) (hd : decode cc pc = .ok (.invokespecial idx, 3)) (hn : pc + 3 = n) (k : vV K G u lv st n) : vV K G u lv (.ref a :: st) pc := by
  intro H locs ls hP hS hl
  have hR : K.1.1.2.2.2 = rm := hE.2.2.2.2.2.1
  have hroom : 2 * (F0 (eM K.1) pc ls (.ref a :: st)).monitorRoom + (st.map fun v => v.category).sum ≤ 8 := lv_room hc
  refine W.objInit hE.1.1 hE.1.2.1 hE.1.2.2.2.1 (hE.1.2.2.2.2 _ h1) (hE.1.2.2.2.2 _ h2) (hE.1.2.2.2.2 _ h3) rfl (by rw [hE.1.2.2.1]; exact hl.1.trans hE.2.2.2.2.2.2.1) rfl hd (by rw [hR]; exact hr) (by rw [hR]; omega) ?_
  subst hn
  exact k H locs ls hP hS hl
theorem v_newa (n : Nat) (hE : eV K (gU D T ns ws) cc nL own Ts rm) {atype : ArrayType} {ty : FieldType} (hty : newarray.typeOf atype = ty) (harr : Cond.arrayClass (newarray.typeOf atype) ∈ Ts) {t0 : Nat} {cA : ClassId} (ht : T[t0]? = some (cA, ty)) {x : Int32} {N : Nat} {a0 : vp_A} (ha : ∀ cA : ClassId, vp_cell cA a0 = arrV cA N (fun _ => defaultValue ty)) (hx : ¬ x < 0) (hN : x.toNatClampNeg = N) (hbytes : N * componentBytes ty ≤ 536870912) (hc : K.1.2.2.2.1 + 1 ≤ rm.cells) (hs : K.1.2.2.2.2 + N ≤ rm.slots) (hd : decode cc pc = .ok (.newarray atype, 2)) (hn : pc + 2 = n)
    (k : ∀ q : Nat, eV (kUp K 1 N) (gU D T ns (ws ++ [(q, .inl (cA, a0))])) cc nL own Ts rm → vV (kUp K 1 N) (gU D T ns (ws ++ [(q, .inl (cA, a0))])) () lv (.ref q :: st) n) : vV K (gU D T ns ws) () lv (.int x :: st) pc := by
  intro H locs ls hP hS hl
  have hR : K.1.1.2.2.2 = rm := hE.2.2.2.2.2.1
  refine va_newa hE.1.1 hE.1.2.1 (hE.1.2.2.2.2 _ harr) hty hE.2.1 hP (hE.2.2.1 ()) hS hE.2.2.2.1 ha hx hN hbytes (by rw [hR]; exact hc) (by rw [hR]; exact hs) hd (fun q cA' H1 hK1 hP1 hD1 hS1 => ?_)
  have e1 := (hE.2.1.2 t0 _ ht).2
  have e2 := (hK1.2 T.length (cA', ty) (by rw [List.getElem?_append_right (Nat.le_refl _), Nat.sub_self]; rfl)).2
  have e : cA' = cA := by
    subst hty
    cases atype <;> exact Option.some.inj (e2.symm.trans e1)
  subst e
  subst hn
  exact k q (eV_up hE hD1 hc hs) H1 locs ls hP1 hS1 hl
theorem v_newc (n : Nat) (hE : eV K (gU D T ns ws) cc nL own Ts rm) {C : String} {TT : u_T} {N ci index : Nat} (hin : ∀ w ∈ u_ws C TT N, w ∈ Ts) (ty : Nat → FieldType) (hty : ∀ k, k < N → parseFieldDescriptor (TT k).2.2.1 = some (ty k)) (hcl : Cond.classLink own index C ∈ Ts) (hinst : Cond.instantiable C N ∈ Ts) (hini : Cond.initialized C ∈ Ts) (hci : vwCl[ci]? = some (C, TT, N)) {fs : List Value} (hfs : ∀ j, j < N → defaultValue (ty j) = vp_V fs j) (hc : K.1.2.2.2.1 + 1 ≤ rm.cells) (hs : K.1.2.2.2.2 + N ≤ rm.slots) (hd : decode cc pc = .ok (.new index, 3)) (hn : pc + 3 = n)
    (k : ∀ q : Nat, eV (kUp K 1 N) (gU D T ns (ws ++ [(q, .inr (ci, fs))])) cc nL own Ts rm → vV (kUp K 1 N) (gU D T ns (ws ++ [(q, .inr (ci, fs))])) () lv (.ref q :: st) n) : vV K (gU D T ns ws) () lv st pc := by
  intro H locs ls hP hS hl
  have hR : K.1.1.2.2.2 = rm := hE.2.2.2.2.2.1
  refine va_new hE.1.1 hE.1.2.1 hE.1.2.2.2.2 hin ty hty hE.1.2.2.2.1 (hE.1.2.2.2.2 _ hcl) (hE.1.2.2.2.2 _ hinst) (hE.1.2.2.2.2 _ hini) hE.2.1 hP (hE.2.2.1 ()) hS hE.2.2.2.1 hci hfs (by rw [hR]; exact hc) (by rw [hR]; exact hs) hd (fun q H1 hP1 hD1 hS1 => ?_)
  subst hn
  exact k q (eV_up hE hD1 hc hs) H1 locs ls hP1 hS1 hl
theorem v_mna (n : Nat) (hE : eV K (gU D T ns ws) cc nL own Ts rm) {index : Nat} {ty : FieldType} (hcl : Cond.classLink own index ("[" ++ (FieldType.array ty).toString) ∈ Ts) (hov : va_AOA ty (eS K.1)) (harr : Cond.arrayClass ty ∈ Ts) {t0 t1 : Nat} {cA cB : ClassId} (ht0 : T[t0]? = some (cA, ty)) (hp0 : va_RA (eS K.1) cA ty → (eS K.1).vm.findClass (FieldType.array ty).toString = some cA) (ht1 : T[t1]? = some (cB, .array ty)) {x y : Int32} {N M : Nat} {z : vp_A} (hx : ¬ x < 0) (hy : ¬ y < 0) (hN : x.toNatClampNeg = N) (hM : y.toNatClampNeg = M) (hb1 : N * 4 ≤ 536870912) (hb2 : M * componentBytes ty ≤ 536870912) (hb3 : M ≤ 536870912) (hdf : fits ty (defaultValue ty) = true) (hdd : (defaultValue ty).isDefault = true) (hc : K.1.2.2.2.1 + (1 + N) ≤ rm.cells) (hs : K.1.2.2.2.2 + (N + N * M) ≤ rm.slots) (hz : ∀ c : ClassId, Jvm.Free.Multi.innerC c M (defaultValue ty) = vp_cell c z) (hd : decode cc pc = .ok (.multianewarray index 2, 4)) (hn : pc + 4 = n)
    (k : ∀ (q : Nat) (r : Nat → Nat), eV (kUp (kUp K 1 N) N (N * M)) (gU D T ns (ws ++ ((q, .inl (cB, N, .inr (.inr (.inr (.inr (fun i => if i < N then some (r i) else none)))))) :: (List.range N).map (fun i => ((r i, .inl (cA, z)) : Nat × va_E))))) cc nL own Ts rm → vV (kUp (kUp K 1 N) N (N * M)) (gU D T ns (ws ++ ((q, .inl (cB, N, .inr (.inr (.inr (.inr (fun i => if i < N then some (r i) else none)))))) :: (List.range N).map (fun i => ((r i, .inl (cA, z)) : Nat × va_E))))) () lv (.ref q :: st) n) : vV K (gU D T ns ws) () lv (.int y :: .int x :: st) pc := by
  intro H locs ls hP hS hl
  have hR : K.1.1.2.2.2 = rm := hE.2.2.2.2.2.1
  have hn0 : ws ++ va_pl [] (fun _ => .inl (cA, z)) = ws := List.append_nil ws
  refine va_mna (X := ws) (L := []) (f := fun _ => .inl (cA, z)) hE.1.1 hE.1.2.1 hE.1.2.2.2.1 (hE.1.2.2.2.2 _ hcl) hov (hE.1.2.2.2.2 _ harr) (hp0 (hE.2.1.2 t0 _ ht0).2) hE.2.1 (by rw [hn0]; exact hP) (by rw [hn0]; exact hE.2.2.1 ()) hS hE.2.2.2.1 hx hy hN hM hb1 hb2 hb3 hdf hdd (by rw [hR]; exact hc) (by rw [hR]; exact hs) hz hd (fun q r cA' H1 hr1 hr2 hK1 hP1 hD1 hS1 => ?_)
  have e1 := (hE.2.1.2 t1 _ ht1).2
  have e2 := (hK1.2 T.length (cA', .array ty) (by rw [List.getElem?_append_right (Nat.le_refl _), Nat.sub_self]; rfl)).2
  have e : cA' = cB := Option.some.inj (e2.symm.trans e1)
  subst e
  subst hn
  have hw : (ws ++ [(q, .inl (cA', N, .inr (.inr (.inr (.inr (fun i => if i < N then some (r i) else none))))))]) ++ va_pl ([] ++ (List.range N).map r) (vr_up (fun _ => .inl (cA, z)) ((List.range N).map r) (.inl (cA, z))) = ws ++ ((q, .inl (cA', N, .inr (.inr (.inr (.inr (fun i => if i < N then some (r i) else none)))))) :: (List.range N).map (fun i => ((r i, .inl (cA, z)) : Nat × va_E))) := by
    rw [← vr_rows (L := []) (l := (List.range N).map r) (f := fun _ => .inl (cA, z)) (e := .inl (cA, z)) (fun a _ h => by cases h)]
    rw [List.append_assoc]
    congr 1
    show (q, _) :: ((List.range N).map r).map (fun a => (a, _)) = _
    rw [List.map_map]
    rfl
  rw [hw] at hP1 hD1
  exact k q r (eV_up (K := kUp K 1 N) (eV_up hE hD1 (by omega) (by omega)) hD1 (show K.1.2.2.2.1 + 1 + N ≤ rm.cells by omega) (show K.1.2.2.2.2 + N + N * M ≤ rm.slots by omega)) H1 locs ls hP1 hS1 hl
theorem v_putF (n : Nat) (hE : eV K (gU D T ns ws) cc nL own Ts rm) (hnm0 : K.1.2.2.1.1.name = "<init>") {C : String} {TT : u_T} {N ci index a : Nat} (hin : ∀ w ∈ u_ws C TT N, w ∈ Ts) (ty0 : Nat → FieldType) (hty : ∀ k, k < N → parseFieldDescriptor (TT k).2.2.1 = some (ty0 k)) (hnm : ∀ a, a < N → ∀ b, b < N → a ≠ b → (TT a).2.1 ≠ (TT b).2.1) (q0 : Nat) {fs : List Value} (he : ws[q0]? = some (a, .inr (ci, fs))) (hc : vwCl[ci]? = some (C, TT, N)) (j : Nat) (hj : j < N) (hlink : Cond.fieldLink own index (TT j).1 (TT j).2.1 (TT j).2.2.1 ∈ Ts) (hfin : (TT j).2.2.2 = true) (hdecl : (TT j).1 = own) {ty : FieldType} {v : Value} (hdt : parseFieldDescriptor (TT j).2.2.1 = some ty) (hnw : narrow ty v = v) (hfit : fits ty v = true) (hlf : j < fs.length) {ws' : va_W} (hu : ws.set q0 (a, .inr (ci, fs.set j v)) = ws') (hd : decode cc pc = .ok (.putfield index, 3)) (hn : pc + 3 = n) (k : eV K (gU D T ns ws') cc nL own Ts rm → vV K (gU D T ns ws') () lv st n) : vV K (gU D T ns ws) () lv (v :: .ref a :: st) pc := by
  intro H locs ls hP hS hl
  subst hu
  refine va_putF hE.1.1 hE.1.2.1 hE.1.2.2.2.2 hin ty0 hty hnm hE.1.2.2.2.1 hE.2.1 hP (hE.2.2.1 ()) hS q0 he hc j hj (hE.1.2.2.2.2 _ hlink) (fun x h => h) hfin hnm0 hdecl hdt hnw hfit hlf hd (fun H1 locs1 hP1 hD1 hS1 => ?_)
  subst hn
  exact k (eV_set hE hD1) H1 locs1 ls hP1 hS1 hl
theorem v_putU (n : Nat) (hE : eV K (gU D T ns ws) cc nL own Ts rm) {C : String} {TT : u_T} {N ci index a : Nat} (hin : ∀ w ∈ u_ws C TT N, w ∈ Ts) (ty0 : Nat → FieldType) (hty : ∀ k, k < N → parseFieldDescriptor (TT k).2.2.1 = some (ty0 k)) (hnm : ∀ a, a < N → ∀ b, b < N → a ≠ b → (TT a).2.1 ≠ (TT b).2.1) (q0 : Nat) {fs : List Value} (he : ws[q0]? = some (a, .inr (ci, fs))) (hc : vwCl[ci]? = some (C, TT, N)) (j : Nat) (hj : j < N) (hlink : Cond.fieldLink own index (TT j).1 (TT j).2.1 (TT j).2.2.1 ∈ Ts) (hfin : (TT j).2.2.2 = false) {ty : FieldType} {v : Value} (hdt : parseFieldDescriptor (TT j).2.2.1 = some ty) (hnw : narrow ty v = v) (hfit : fits ty v = true) (hlf : j < fs.length) {ws' : va_W} (hu : ws.set q0 (a, .inr (ci, fs.set j v)) = ws') (hd : decode cc pc = .ok (.putfield index, 3)) (hn : pc + 3 = n) (k : eV K (gU D T ns ws') cc nL own Ts rm → vV K (gU D T ns ws') () lv st n) : vV K (gU D T ns ws) () lv (v :: .ref a :: st) pc := by
  intro H locs ls hP hS hl
  subst hu
  refine va_put hE.1.1 hE.1.2.1 hE.1.2.2.2.2 hin ty0 hty hnm hE.1.2.2.2.1 hE.2.1 hP (hE.2.2.1 ()) hS q0 he hc j hj (hE.1.2.2.2.2 _ hlink) (fun x h => h) hfin hdt hnw hfit hlf hd (fun H1 locs1 hP1 hD1 hS1 => ?_)
  subst hn
  exact k (eV_set hE hD1) H1 locs1 ls hP1 hS1 hl
end MAKE
/-! contracts of constructors -/
abbrev oU (h0 ci : Nat) (fs : List Value) : va_W := [(h0, .inr (ci, fs))]
abbrev cPc (D : va_G) (T : List (ClassId × FieldType)) (ns : List vN) (h0 ci : Nat) (fs : List Value) (sz : Nat) : Array Value → State → Prop := va_Pc [.ref h0] (fun U => U.heap.size = sz ∧ va_P D vwCl (oU h0 ci fs) U.heap ∧ va_K D vwCl T U ∧ va_D (fun _ => True) (oU h0 ci fs) ∧ vNs ns U ∧ va_AOA .int U ∧ va_AOA .long U)
abbrev cQ {S : Type} (D : va_G) (T : List (ClassId × FieldType)) (Wd : S → va_W) (A : Nat → Prop) : Array Value → State → Outcome → State → Prop := va_Qv (fun _ : S => True) (fun a t => va_P D vwCl (Wd a) t.heap ∧ va_K D vwCl T t ∧ va_D A (Wd a)) A
def mC {S : Type} (l : Launch) (D : va_G) (T : List (ClassId × FieldType)) (ns : List vN) (y : MethodName) (ws : List Cond) (rm : Room) (h0 ci : Nat) (fs : List Value) (Wd : S → va_W) (mc ms : Nat) : Prop :=
  ∀ sz : Nat, Met l y ws rm (cPc D T ns h0 ci fs sz) (cQ D T Wd (va_A (oU h0 ci fs) sz)) mc ms (va_A (oU h0 ci fs) sz)
theorem cPc.blind (D : va_G) (T : List (ClassId × FieldType)) (ns : List vN) (h0 ci : Nat) (fs : List Value) (sz : Nat) : FrameBlind (cPc D T ns h0 ci fs sz) := fun a U g mk q => by
  obtain ⟨q0, q1, qP, qK, qD, qN, qi, ql⟩ := q
  exact ⟨q0, q1, qP, va_K.moved (u := U) (U := U.calling g mk a) (Vm.Alike.refl U.vm) qK, qD, vNs.same (u := U) (U := U.calling g mk a) rfl qN, va_AOA.moved (u := U) (U := U.calling g mk a) (Vm.Alike.refl U.vm) qi, va_AOA.moved (u := U) (U := U.calling g mk a) (Vm.Alike.refl U.vm) ql⟩
theorem mC_of {S : Type} {l : Launch} {D : va_G} {T : List (ClassId × FieldType)} {ns : List vN} {y : MethodName} {ws ws' : List Cond} {rm : Room} {h0 ci : Nat} {fs : List Value} {Wd : S → va_W} {mc ms : Nat} {cc : ByteArray} {own : String} (hy : plainName y.cls = true) (hw : ws = Cond.code y cc 1 none :: ws') (hcl : y.cls = own) (hyn : y.name = "<init>")
    (body : ∀ (P1 : Program × Launch × Env × Room) (P2 : State × MethodId × Array Value × List Frame) (P3 : Method × Code) (A : Nat → Prop) (Q : State → Prop), P1.2.1 = l → P3.1.name = "<init>" → va_AOA .int P2.1 → va_AOA .long P2.1 → eV (((P1, P2, P3, (0, 0)), A, 1, Q) : vK) (gU D T ns (oU h0 ci fs)) cc 1 own ws rm →
      (∀ (a : S) (pc : Nat) (lv : List (Nat × Value)), eV (((P1, P2, P3, (mc, ms)), A, 1, Q) : vK) (gU D T ns (Wd a)) cc 1 own ws rm → decode cc pc = .ok (.return_, 1) → vV (((P1, P2, P3, (mc, ms)), A, 1, Q) : vK) (gU D T ns (Wd a)) () lv [] pc) → vV (((P1, P2, P3, (0, 0)), A, 1, Q) : vK) (gU D T ns (oU h0 ci fs)) () [(0, .ref h0)] [] 0) : mC l D T ns y ws rm h0 ci fs Wd mc ms := by
  intro sz
  refine Met.ofW (cc := cc) (maxL := 1) (ret := none) hy hw ?_
  intro p e s m args below meth c s₁ B hml hv
  obtain ⟨rfl, hsz, hP, hK, hD0, hN, hai, hal⟩ := hv
  have hts := atoms_spec (ws := ws) B.pre
  have hown : s.vm.findClass own = some m.cls := by rw [← hcl]; exact findClass_of_methodNamed B.named
  have hin : meth.name = "<init>" := by rw [← hyn]; exact (name_of_methodNamed B.named B.method).1
  subst hsz
  have hD := hD0.self (sz := s.heap.size)
  have hl := lv_entry [.ref h0] (n := 1) (Nat.le_of_ble_eq_true rfl)
  rw [lg_entry_eq]
  exact body (p, l, e, rm) (s, m, [Value.ref h0].toArray, below) (meth, c) (va_A (oU h0 ci fs) s.heap.size) _ rfl hin hai hal ⟨⟨B.exec, B.bytes, hml, hown, hts⟩, hK, fun _ => hD, fun q h => Or.inr h, hN, rfl, rfl, Nat.zero_le _, Nat.zero_le _⟩ (fun a pc lv hE hd H locs ls hP hS hl => W.vret B.exec B.bytes B.returns (fun t ht hW => ⟨⟨a, rfl, trivial, by rw [ht]; exact hP, va_K.moved hW.alike hK, hE.2.2.1 ()⟩, hS.F ht⟩) hS.2.2 hd) s.heap [] _ hP va_S.rf hl
theorem vj_last {D : va_G} {ws w1 : va_W} {x : Nat × va_E} {A0 : Nat → Prop} {H H1 : Heap} (hP : va_P D vwCl (ws ++ [x]) H) (hD : va_D A0 (ws ++ [x])) (hk : ∀ q : Nat, q < H.size → ¬ va_A [x] H.size q → H1[q]? = H[q]?) (hF : ∀ q, va_A [x] H.size q → A0 q) (hP1 : va_P D vwCl w1 H1) (hD1 : va_D (va_A [x] H.size) w1) : va_P D vwCl (ws ++ w1) H1 ∧ va_D A0 (ws ++ w1) := by
  have up : ∀ (k : Nat) (q : Nat × va_E), ws[k]? = some q → (ws ++ [x])[k]? = some q := fun k q hq => by
    have hl := (List.getElem?_eq_some_iff.mp hq).1
    rw [List.getElem?_append_left hl]
    exact hq
  have apart : ∀ (k : Nat) (q : Nat × va_E), ws[k]? = some q → q.1 < H.size ∧ ¬ va_A [x] H.size q.1 := by
    intro k q hq
    have hlt := (hP k q (up k q hq)).lt
    refine ⟨hlt, fun h => ?_⟩
    rcases h with ⟨k2, e, h⟩ | h
    · have h0 : k2 < 1 := (List.getElem?_eq_some_iff.mp h).1
      rw [show k2 = 0 by omega] at h
      have hx : x = (q.1, e) := Option.some.inj h
      have := hD.1 k ws.length q x (up k q hq) (by rw [List.getElem?_append_right (Nat.le_refl _), Nat.sub_self]; rfl) (by rw [hx])
      have hl := (List.getElem?_eq_some_iff.mp hq).1
      omega
    · omega
  refine ⟨va_P.app (fun k q hq => ?_) hP1, va_D.app ⟨fun i j p q hp hq e => hD.1 i j p q (up i p hp) (up j q hq) e, fun k q hq => hD.2 k q (up k q hq)⟩ (hD1.weaken (fun k q _ h => hF q.1 h)) (fun i j y z hy hz hyz => ?_)⟩
  · obtain ⟨g1, g2⟩ := apart k q hq
    exact (hP k q (up k q hq)).kept (hk q.1 g1 g2)
  · exact (apart i y hy).2 (by rw [hyz]; exact hD1.2 j z hz)
section CC
variable {S : Type} {K : vK} {D : va_G} {T : List (ClassId × FieldType)} {ns : List vN} {ws : va_W} {cc : ByteArray} {nL : Nat} {own : String} {Ts : List Cond} {rm : Room} {lv : List (Nat × Value)} {st : List Value} {pc : Nat}
theorem v_lst {x : Nat × va_E} {A : Nat → Prop} {H : Heap} (hP : va_P D vwCl (ws ++ [x]) H) (hD : va_D A (ws ++ [x])) (hS : ∀ q, H.size ≤ q → A q) : va_P D vwCl [x] H ∧ va_D A [x] ∧ ∀ q, va_A [x] H.size q → A q := by
  have hx : (ws ++ [x])[ws.length]? = some x := by rw [List.getElem?_append_right (Nat.le_refl _), Nat.sub_self]; rfl
  have one : ∀ (k : Nat) (q : Nat × va_E), [x][k]? = some q → k = 0 ∧ q = x := fun k q hk => by
    have h0 : k < 1 := (List.getElem?_eq_some_iff.mp hk).1
    have : k = 0 := by omega
    subst this
    exact ⟨rfl, (Option.some.inj hk).symm⟩
  refine ⟨fun k q hk => ?_, ⟨fun i j p q hp hq _ => ?_, fun k q hk => ?_⟩, fun q h => ?_⟩
  · rw [(one k q hk).2]; exact hP _ _ hx
  · rw [(one i p hp).1, (one j q hq).1]
  · rw [(one k q hk).2]; exact hD.2 _ _ hx
  · rcases h with ⟨k, e, h⟩ | h
    · have := (one k _ h).2
      have h2 := hD.2 _ _ hx
      rw [← this] at h2
      exact h2
    · exact hS q h
/-- a constructor of a nest mate, on the cell made last -/
theorem v_ccN (n : Nat) {b ci : Nat} {fs : List Value} (hE : eV K (gU D T ns (ws ++ [(b, .inr (ci, fs))])) cc nL own Ts rm) (hai : va_AOA .int (eS K.1)) (hal : va_AOA .long (eS K.1)) {y : MethodName} {wy wy' : List Cond} {rm' : Room} {Wd : S → va_W} {mc ms idx maxL : Nat} {host : String} {bytes : ByteArray} (hM : mC K.1.1.2.1 D T ns y wy rm' b ci fs Wd mc ms) (hG : GoodIn Ts wy) (hnest : (own, idx, y, host) ∈ ns) (hini : Cond.initialized y.cls ∈ Ts) (hinst : Cond.instanceMethod y ∈ Ts) (hw : wy = Cond.code y bytes maxL none :: wy') (hy : y.cls ≠ "java/lang/invoke/MethodHandle" ∧ y.cls ≠ "java/lang/invoke/VarHandle" ∧ (parseMethodDescriptor y.desc).map (fun d => d.parameters.length) = some 0) (hyn : y.name = "<init>") (hrm : rm'.cells = mc ∧ rm'.slots = ms ∧ rm'.frames + 1 ≤ rm.frames ∧ 8 + (maxL + 11) + rm'.locals ≤ rm.locals) (hc : K.1.2.2.2.1 + mc ≤ rm.cells) (hs : K.1.2.2.2.2 + ms ≤ rm.slots) (hcat : (st.map fun v => v.category).sum ≤ 8) (hd : decode cc pc = .ok (.invokespecial idx, 3)) (hn : pc + 3 = n)
    (k : ∀ a : S, eV (kUp K mc ms) (gU D T ns (ws ++ Wd a)) cc nL own Ts rm → vV (kUp K mc ms) (gU D T ns (ws ++ Wd a)) () lv st n) : vV K (gU D T ns (ws ++ [(b, .inr (ci, fs))])) () lv (.ref b :: st) pc := by
  intro H locs ls hP hS hl
  have hR : K.1.1.2.2.2 = rm := hE.2.2.2.2.2.1
  have hDw := hE.2.2.1 ()
  obtain ⟨hPc, hDc, hF⟩   := v_lst hP hDw (fun q h => hE.2.2.2.1 q (Nat.le_trans hS.1 h))
  refine va_callv (va_runIN (As := []) (rest := st) hE.1 (hM H.size) ⟨va_cnB 0 hE.1.2.2.2.2 hG hw hrm.1 hrm.2.1 (hE.2.2.2.2.1 _ hnest) (hE.1.2.2.2.2 _ hini) hy ⟨by rw [hR]; exact hrm.2.2.1, by rw [hR]; exact hrm.2.2.2⟩, hyn, hE.1.2.2.2.2 _ hinst⟩ ⟨cPc.blind _ _ _ _ _ _ _, fun U hU hW => ⟨rfl, by rw [hU], by rw [hU]; exact hPc, va_K.moved hW.alike hE.2.1, hDc.weaken (fun _ _ _ _ => trivial), hE.2.2.2.2.1.warm hW, hai.moved hW.alike, hal.moved hW.alike⟩⟩ rfl rfl (hl.1.trans hE.2.2.2.2.2.2.1) rfl (lv_room hcat) hd ⟨by rw [hR]; exact hc, by rw [hR]; exact hs⟩) hS (fun q _ h => hF q h) hF (fun a t H1 locs1 ht hvm _ hB hz1 hk1 hS1 => ?_)
  obtain ⟨hP1, -, hD1⟩ := hB
  rw [ht] at hP1
  obtain ⟨hP2, hD2⟩ := vj_last hP hDw hk1 hF hP1 hD1
  subst hn
  exact k a (eV_up hE hD2 hc hs) H1 locs1 ls hP2 hS1 hl
/-- a constructor, on the cell made last -/
theorem v_ccI (n : Nat) {b ci : Nat} {fs : List Value} (hE : eV K (gU D T ns (ws ++ [(b, .inr (ci, fs))])) cc nL own Ts rm) (hai : va_AOA .int (eS K.1)) (hal : va_AOA .long (eS K.1)) {y : MethodName} {wy wy' : List Cond} {rm' : Room} {Wd : S → va_W} {mc ms idx maxL : Nat} {bytes : ByteArray} (hM : mC K.1.1.2.1 D T ns y wy rm' b ci fs Wd mc ms) (hG : GoodIn Ts wy) (hlink : Cond.methodLink own idx y ∈ Ts) (hini : Cond.initialized y.cls ∈ Ts) (hinst : Cond.instanceMethod y ∈ Ts) (hw : wy = Cond.code y bytes maxL none :: wy') (hy : y.cls ≠ "java/lang/invoke/MethodHandle" ∧ y.cls ≠ "java/lang/invoke/VarHandle" ∧ (parseMethodDescriptor y.desc).map (fun d => d.parameters.length) = some 0) (hyn : y.name = "<init>") (hrm : rm'.cells = mc ∧ rm'.slots = ms ∧ rm'.frames + 1 ≤ rm.frames ∧ 8 + (maxL + 11) + rm'.locals ≤ rm.locals) (hc : K.1.2.2.2.1 + mc ≤ rm.cells) (hs : K.1.2.2.2.2 + ms ≤ rm.slots) (hcat : (st.map fun v => v.category).sum ≤ 8) (hd : decode cc pc = .ok (.invokespecial idx, 3)) (hn : pc + 3 = n)
    (k : ∀ a : S, eV (kUp K mc ms) (gU D T ns (ws ++ Wd a)) cc nL own Ts rm → vV (kUp K mc ms) (gU D T ns (ws ++ Wd a)) () lv st n) : vV K (gU D T ns (ws ++ [(b, .inr (ci, fs))])) () lv (.ref b :: st) pc := by
  intro H locs ls hP hS hl
  have hR : K.1.1.2.2.2 = rm := hE.2.2.2.2.2.1
  have hDw := hE.2.2.1 ()
  obtain ⟨hPc, hDc, hF⟩   := v_lst hP hDw (fun q h => hE.2.2.2.1 q (Nat.le_trans hS.1 h))
  refine va_callv (va_runI (As := []) (rest := st) hE.1 (hM H.size) (cwI 0 hE.1.2.2.2.2 hG hw hrm.1 hrm.2.1 (hE.1.2.2.2.2 _ hini) (hE.1.2.2.2.2 _ hlink) (hE.1.2.2.2.2 _ hinst) hyn hy ⟨by rw [hR]; exact hrm.2.2.1, by rw [hR]; exact hrm.2.2.2⟩) ⟨cPc.blind _ _ _ _ _ _ _, fun U hU hW => ⟨rfl, by rw [hU], by rw [hU]; exact hPc, va_K.moved hW.alike hE.2.1, hDc.weaken (fun _ _ _ _ => trivial), hE.2.2.2.2.1.warm hW, hai.moved hW.alike, hal.moved hW.alike⟩⟩ rfl rfl (hl.1.trans hE.2.2.2.2.2.2.1) rfl (lv_room hcat) hd ⟨by rw [hR]; exact hc, by rw [hR]; exact hs⟩) hS (fun q _ h => hF q h) hF (fun a t H1 locs1 ht hvm _ hB hz1 hk1 hS1 => ?_)
  obtain ⟨hP1, -, hD1⟩ := hB
  rw [ht] at hP1
  obtain ⟨hP2, hD2⟩ := vj_last hP hDw hk1 hF hP1 hD1
  subst hn
  exact k a (eV_up hE hD2 hc hs) H1 locs1 ls hP2 hS1 hl
end CC
