/-! the walk's own judgement: vV K G u lv st pc: from pc, with locals lv, operands st and the world of cells that u spells, the machine comes to the end that K names -/
abbrev vE : Type := (Program × Launch × Env × Room) × (State × MethodId × Array Value × List Frame) × (Method × Code) × (Nat × Nat)
abbrev eS (E : vE) : State := E.2.1.1
abbrev eM (E : vE) : MethodId := E.2.1.2.1
abbrev eR (E : vE) : Room := E.1.2.2.2
abbrev eA (E : vE) : Array Value := E.2.1.2.2.1
abbrev vW (E : vE) (H : Heap) (locs : List Loc) (Q : State → Prop) (g : JFrame) : Prop := W E.1.1 E.1.2.1 E.1.2.2.1 E.1.2.2.2 E.2.1.1 E.2.1.2.1 E.2.1.2.2.1 E.2.1.2.2.2 E.2.2.1.1 E.2.2.1.2 H locs E.2.2.2.1 E.2.2.2.2 Q g
abbrev vN : Type := String × Nat × MethodName × String
abbrev vG (S : Type) : Type := va_G × List (ClassId × FieldType) × List vN × (S → va_W)
abbrev vK : Type := vE × (Nat → Prop) × Nat × (State → Prop)
def vNs (ns : List vN) (U : State) : Prop := ∀ q ∈ ns, va_Nw (.methodLinkNest q.1 q.2.1 q.2.2.1 q.2.2.2) U
def vV {S : Type} (K : vK) (G : vG S) (u : S) (lv : List (Nat × Value)) (st : List Value) (pc : Nat) : Prop :=
  ∀ (H : Heap) (locs : List Loc) (ls : Array Slot), va_P G.1 vwCl (G.2.2.2 u) H → va_S K.2.1 (eS K.1).heap H locs → lv_has ls K.2.2.1 lv → vW K.1 H locs K.2.2.2 (F0 (eM K.1) pc ls st)
/-- what stands all along a method's walk -/
def eV {S : Type} (K : vK) (G : vG S) (cc : ByteArray) (nL : Nat) (own : String) (Ts : List Cond) (rm : Room) : Prop :=
  CallFix K.1.1.1 (eM K.1) K.1.2.2.1.2 cc nL (eS K.1) (eA K.1) Ts own ∧ va_K G.1 vwCl G.2.1 (eS K.1) ∧ (∀ u : S, va_D K.2.1 (G.2.2.2 u)) ∧ (∀ q, (eS K.1).heap.size ≤ q → K.2.1 q) ∧ vNs G.2.2.1 (eS K.1) ∧ eR K.1 = rm ∧ K.2.2.1 = nL ∧ K.1.2.2.2.1 ≤ rm.cells ∧ K.1.2.2.2.2 ≤ rm.slots
def bI (b : Bool) : Int32 := if b then 1 else 0
theorem bI_0 {b : Bool} : bI b = 0 ↔ b = false := by cases b <;> decide
theorem bI_1 {b : Bool} : bI b = 1 ↔ b = true := by cases b <;> decide
theorem bI_n (b : Bool) : narrow .boolean (.int (bI b)) = .int (bI b) := by cases b <;> decide
theorem bI_nar (b : Bool) : vp_nar .boolean (bI b) = bI b := by cases b <;> decide
section VV
variable {S : Type} {K : vK} {G : vG S} {cc : ByteArray} {nL : Nat} {own : String} {Ts : List Cond} {rm : Room} {u : S} {lv : List (Nat × Value)} {st : List Value} {pc : Nat}
theorem vV.cast {u' : S} {st' : List Value} (k : vV K G u' lv st' pc) (hu : u = u') (hs : st = st') : vV K G u lv st pc := by subst hu; subst hs; exact k
theorem vV.sub {lv' : List (Nat × Value)} (ks : List Nat) (hl : lv_pick lv ks = lv') (k : vV K G u lv' st pc) : vV K G u lv st pc := fun H locs ls hP hS h => k H locs ls hP hS (lv_sub h ks hl)
theorem v_lk {ls : Array Slot} {n : Nat} {l : List (Nat × Value)} (h : lv_has ls n l) {i : Nat} {v : Value} (hk : List.lookup i l = some v) : ls[i]? = some (.val v) := by
  refine h.2.2 (i, v) ?_
  clear h
  induction l with
  | nil => cases hk
  | cons q t ih =>
    obtain ⟨a, b⟩ := q
    simp only [List.lookup] at hk
    split at hk
    next e =>
      rw [beq_iff_eq] at e
      cases hk
      subst e
      exact List.mem_cons_self
    next e => exact List.mem_cons_of_mem _ (ih hk)

theorem v_iconst (n : Nat) (hE : eV K G cc nL own Ts rm) {i : Int} {v : Int32} (hd : decode cc pc = .ok (.iconst i, 1)) (hv : Int32.ofInt i = v) (hn : pc + 1 = n) (k : vV K G u lv (.int v :: st) n) : vV K G u lv (st) pc := fun H locs ls hP hS hl => lv_iconst hE.1.1 hE.1.2.1 hd hv (by subst hn; exact k H locs ls hP hS hl)
theorem v_bipush (n : Nat) (hE : eV K G cc nL own Ts rm) {i : Int} {v : Int32} (hd : decode cc pc = .ok (.bipush i, 2)) (hv : (Int8.ofInt i).toInt32 = v) (hn : pc + 2 = n) (k : vV K G u lv (.int v :: st) n) : vV K G u lv (st) pc := fun H locs ls hP hS hl => lv_bipush hE.1.1 hE.1.2.1 hd hv (by subst hn; exact k H locs ls hP hS hl)
theorem v_sipush (n : Nat) (hE : eV K G cc nL own Ts rm) {i : Int} {v : Int32} (hd : decode cc pc = .ok (.sipush i, 3)) (hv : (Int16.ofInt i).toInt32 = v) (hn : pc + 3 = n) (k : vV K G u lv (.int v :: st) n) : vV K G u lv (st) pc := fun H locs ls hP hS hl => lv_sipush hE.1.1 hE.1.2.1 hd hv (by subst hn; exact k H locs ls hP hS hl)
theorem v_lconst (n : Nat) (hE : eV K G cc nL own Ts rm) {i : Fin 2} {v : Int64} (hd : decode cc pc = .ok (.lconst i, 1)) (hv : Int64.ofNat (i : Nat) = v) (hn : pc + 1 = n) (k : vV K G u lv (.long v :: st) n) : vV K G u lv (st) pc := fun H locs ls hP hS hl => lv_lconst hE.1.1 hE.1.2.1 hd hv (by subst hn; exact k H locs ls hP hS hl)
theorem v_iload_n (n : Nat) (hE : eV K G cc nL own Ts rm) {j : Fin 4} {x : Int32} (hd : decode cc pc = .ok (.iload_n j, 1)) (hk : List.lookup (j : Nat) lv = some (.int x)) (hn : pc + 1 = n) (k : vV K G u lv (.int x :: st) n) : vV K G u lv st pc := fun H locs ls hP hS hl => lv_iload_n hE.1.1 hE.1.2.1 hd rfl (v_lk hl hk) (by subst hn; exact k H locs ls hP hS hl)
theorem v_iload (n : Nat) (hE : eV K G cc nL own Ts rm) {j : Nat} {x : Int32} (hd : decode cc pc = .ok (.iload j, 2)) (hk : List.lookup j lv = some (.int x)) (hn : pc + 2 = n) (k : vV K G u lv (.int x :: st) n) : vV K G u lv st pc := fun H locs ls hP hS hl => lv_iload hE.1.1 hE.1.2.1 hd (v_lk hl hk) (by subst hn; exact k H locs ls hP hS hl)
theorem v_lload_n (n : Nat) (hE : eV K G cc nL own Ts rm) {j : Fin 4} {x : Int64} (hd : decode cc pc = .ok (.lload_n j, 1)) (hk : List.lookup (j : Nat) lv = some (.long x)) (hn : pc + 1 = n) (k : vV K G u lv (.long x :: st) n) : vV K G u lv st pc := fun H locs ls hP hS hl => lv_lload_n hE.1.1 hE.1.2.1 hd rfl (v_lk hl hk) (by subst hn; exact k H locs ls hP hS hl)
theorem v_lload (n : Nat) (hE : eV K G cc nL own Ts rm) {j : Nat} {x : Int64} (hd : decode cc pc = .ok (.lload j, 2)) (hk : List.lookup j lv = some (.long x)) (hn : pc + 2 = n) (k : vV K G u lv (.long x :: st) n) : vV K G u lv st pc := fun H locs ls hP hS hl => lv_lload hE.1.1 hE.1.2.1 hd (v_lk hl hk) (by subst hn; exact k H locs ls hP hS hl)
theorem v_aload_n (n : Nat) (hE : eV K G cc nL own Ts rm) {j : Fin 4} {x : Nat} (hd : decode cc pc = .ok (.aload_n j, 1)) (hk : List.lookup (j : Nat) lv = some (.ref x)) (hn : pc + 1 = n) (k : vV K G u lv (.ref x :: st) n) : vV K G u lv st pc := fun H locs ls hP hS hl => lv_aload_n hE.1.1 hE.1.2.1 hd rfl (v_lk hl hk) (by subst hn; exact k H locs ls hP hS hl)
theorem v_aload (n : Nat) (hE : eV K G cc nL own Ts rm) {j : Nat} {x : Nat} (hd : decode cc pc = .ok (.aload j, 2)) (hk : List.lookup j lv = some (.ref x)) (hn : pc + 2 = n) (k : vV K G u lv (.ref x :: st) n) : vV K G u lv st pc := fun H locs ls hP hS hl => lv_aload hE.1.1 hE.1.2.1 hd (v_lk hl hk) (by subst hn; exact k H locs ls hP hS hl)
theorem v_istore_n (n : Nat) (hE : eV K G cc nL own Ts rm) {j : Fin 4} {i : Nat} {x : Int32} (lv' : List (Nat × Value)) (hd : decode cc pc = .ok (.istore_n j, 1)) (hi : (j : Nat) = i) (hb : i < nL) (hl' : (i, Value.int x) :: lv.filter (fun q => !(q.1 == i) && !(q.1 + 1 == i && q.2.category == 2)) = lv') (hn : pc + 1 = n) (k : vV K G u lv' st n) : vV K G u lv (.int x :: st) pc := fun H locs ls hP hS hl => lv_istore_n hE.1.1 hE.1.2.1 hd hi hl (by rw [hE.2.2.2.2.2.2.1]; exact hb) hl' (fun ls' hl2 => by subst hn; exact k H locs ls' hP hS hl2)
theorem v_istore (n : Nat) (hE : eV K G cc nL own Ts rm) {i : Nat} {x : Int32} (lv' : List (Nat × Value)) (hd : decode cc pc = .ok (.istore i, 2)) (hb : i < nL) (hl' : (i, Value.int x) :: lv.filter (fun q => !(q.1 == i) && !(q.1 + 1 == i && q.2.category == 2)) = lv') (hn : pc + 2 = n) (k : vV K G u lv' st n) : vV K G u lv (.int x :: st) pc := fun H locs ls hP hS hl => lv_istore hE.1.1 hE.1.2.1 hd hl (by rw [hE.2.2.2.2.2.2.1]; exact hb) hl' (fun ls' hl2 => by subst hn; exact k H locs ls' hP hS hl2)
theorem v_astore_n (n : Nat) (hE : eV K G cc nL own Ts rm) {j : Fin 4} {i : Nat} {x : Nat} (lv' : List (Nat × Value)) (hd : decode cc pc = .ok (.astore_n j, 1)) (hi : (j : Nat) = i) (hb : i < nL) (hl' : (i, Value.ref x) :: lv.filter (fun q => !(q.1 == i) && !(q.1 + 1 == i && q.2.category == 2)) = lv') (hn : pc + 1 = n) (k : vV K G u lv' st n) : vV K G u lv (.ref x :: st) pc := fun H locs ls hP hS hl => lv_astore_n hE.1.1 hE.1.2.1 hd hi hl (by rw [hE.2.2.2.2.2.2.1]; exact hb) hl' (fun ls' hl2 => by subst hn; exact k H locs ls' hP hS hl2)
theorem v_astore (n : Nat) (hE : eV K G cc nL own Ts rm) {i : Nat} {x : Nat} (lv' : List (Nat × Value)) (hd : decode cc pc = .ok (.astore i, 2)) (hb : i < nL) (hl' : (i, Value.ref x) :: lv.filter (fun q => !(q.1 == i) && !(q.1 + 1 == i && q.2.category == 2)) = lv') (hn : pc + 2 = n) (k : vV K G u lv' st n) : vV K G u lv (.ref x :: st) pc := fun H locs ls hP hS hl => lv_astore hE.1.1 hE.1.2.1 hd hl (by rw [hE.2.2.2.2.2.2.1]; exact hb) hl' (fun ls' hl2 => by subst hn; exact k H locs ls' hP hS hl2)
theorem v_lstore_n (n : Nat) (hE : eV K G cc nL own Ts rm) {j : Fin 4} {i : Nat} {x : Int64} (lv' : List (Nat × Value)) (hd : decode cc pc = .ok (.lstore_n j, 1)) (hi : (j : Nat) = i) (hb : i + 1 < nL) (hl' : (i, Value.long x) :: lv.filter (fun q => !(q.1 == i) && (!(q.1 == i + 1) && !(q.1 + 1 == i && q.2.category == 2))) = lv') (hn : pc + 1 = n) (k : vV K G u lv' st n) : vV K G u lv (.long x :: st) pc := fun H locs ls hP hS hl => lv_lstore_n hE.1.1 hE.1.2.1 hd hi hl (by rw [hE.2.2.2.2.2.2.1]; exact hb) hl' (fun ls' hl2 => by subst hn; exact k H locs ls' hP hS hl2)
theorem v_lstore (n : Nat) (hE : eV K G cc nL own Ts rm) {i : Nat} {x : Int64} (lv' : List (Nat × Value)) (hd : decode cc pc = .ok (.lstore i, 2)) (hb : i + 1 < nL) (hl' : (i, Value.long x) :: lv.filter (fun q => !(q.1 == i) && (!(q.1 == i + 1) && !(q.1 + 1 == i && q.2.category == 2))) = lv') (hn : pc + 2 = n) (k : vV K G u lv' st n) : vV K G u lv (.long x :: st) pc := fun H locs ls hP hS hl => lv_lstore hE.1.1 hE.1.2.1 hd hl (by rw [hE.2.2.2.2.2.2.1]; exact hb) hl' (fun ls' hl2 => by subst hn; exact k H locs ls' hP hS hl2)
theorem v_pl {l : List (Nat × Value)} {i : Nat} {v : Value} (hk : List.lookup i l = some v) : ∃ k : Nat, l[k]? = some (i, v) := by
  induction l with
  | nil => cases hk
  | cons q t ih =>
    obtain ⟨a, b⟩ := q
    simp only [List.lookup] at hk
    split at hk
    next e =>
      rw [beq_iff_eq] at e
      cases hk
      subst e
      exact ⟨0, rfl⟩
    next e =>
      obtain ⟨k, hk⟩ := ih hk
      exact ⟨k + 1, hk⟩
theorem v_iinc (n : Nat) (hE : eV K G cc nL own Ts rm) {i : Nat} {z : Int} {x v : Int32} (lv' : List (Nat × Value)) (hd : decode cc pc = .ok (.iinc i z, 3)) (hk : List.lookup i lv = some (.int x)) (hv : x + Int32.ofInt z = v) (hb : i < nL) (hl' : (i, Value.int v) :: lv.filter (fun q => !(q.1 == i) && !(q.1 + 1 == i && q.2.category == 2)) = lv') (hn : pc + 3 = n) (k : vV K G u lv' st n) : vV K G u lv st pc := by
  intro H locs ls hP hS hl
  obtain ⟨k9, hk9⟩ := v_pl hk
  exact lv_iinc hE.1.1 hE.1.2.1 hd hl hk9 hv (by rw [hE.2.2.2.2.2.2.1]; exact hb) hl' (fun ls' hl2 => by subst hn; exact k H locs ls' hP hS hl2)
theorem v_iincN (n : Nat) (hE : eV K G cc nL own Ts rm) {i j : Nat} (lv' : List (Nat × Value)) (hd : decode cc pc = .ok (.iinc i 1, 3)) (hk : List.lookup i lv = some (.int (nI j))) (hb : i < nL) (hl' : (i, Value.int (nI (j + 1))) :: lv.filter (fun q => !(q.1 == i) && !(q.1 + 1 == i && q.2.category == 2)) = lv') (hn : pc + 3 = n) (k : vV K G u lv' st n) : vV K G u lv st pc := v_iinc n hE lv' hd hk (nI_1 j) hb hl' hn k
theorem v_iadd (n : Nat) (hE : eV K G cc nL own Ts rm) {x y : Int32} (hd : decode cc pc = .ok (.iadd, 1))  (hn : pc + 1 = n) (k : vV K G u lv (.int (x + y) :: st) n) : vV K G u lv (.int y :: .int x :: st) pc := fun H locs ls hP hS hl => lv_iadd hE.1.1 hE.1.2.1 hd  (by subst hn; exact k H locs ls hP hS hl)
theorem v_isub (n : Nat) (hE : eV K G cc nL own Ts rm) {x y : Int32} (hd : decode cc pc = .ok (.isub, 1))  (hn : pc + 1 = n) (k : vV K G u lv (.int (x - y) :: st) n) : vV K G u lv (.int y :: .int x :: st) pc := fun H locs ls hP hS hl => lv_isub hE.1.1 hE.1.2.1 hd  (by subst hn; exact k H locs ls hP hS hl)
theorem v_imul (n : Nat) (hE : eV K G cc nL own Ts rm) {x y : Int32} (hd : decode cc pc = .ok (.imul, 1))  (hn : pc + 1 = n) (k : vV K G u lv (.int (x * y) :: st) n) : vV K G u lv (.int y :: .int x :: st) pc := fun H locs ls hP hS hl => lv_imul hE.1.1 hE.1.2.1 hd  (by subst hn; exact k H locs ls hP hS hl)
theorem v_iand (n : Nat) (hE : eV K G cc nL own Ts rm) {x y : Int32} (hd : decode cc pc = .ok (.iand, 1))  (hn : pc + 1 = n) (k : vV K G u lv (.int (x &&& y) :: st) n) : vV K G u lv (.int y :: .int x :: st) pc := fun H locs ls hP hS hl => lv_iand hE.1.1 hE.1.2.1 hd  (by subst hn; exact k H locs ls hP hS hl)
theorem v_ior (n : Nat) (hE : eV K G cc nL own Ts rm) {x y : Int32} (hd : decode cc pc = .ok (.ior, 1))  (hn : pc + 1 = n) (k : vV K G u lv (.int (x ||| y) :: st) n) : vV K G u lv (.int y :: .int x :: st) pc := fun H locs ls hP hS hl => lv_ior hE.1.1 hE.1.2.1 hd  (by subst hn; exact k H locs ls hP hS hl)
theorem v_ishl (n : Nat) (hE : eV K G cc nL own Ts rm) {x y : Int32} (hd : decode cc pc = .ok (.ishl, 1))  (hn : pc + 1 = n) (k : vV K G u lv (.int (x <<< (y &&& 31)) :: st) n) : vV K G u lv (.int y :: .int x :: st) pc := fun H locs ls hP hS hl => lv_ishl hE.1.1 hE.1.2.1 hd  (by subst hn; exact k H locs ls hP hS hl)
theorem v_ishr (n : Nat) (hE : eV K G cc nL own Ts rm) {x y : Int32} (hd : decode cc pc = .ok (.ishr, 1))  (hn : pc + 1 = n) (k : vV K G u lv (.int (x >>> (y &&& 31)) :: st) n) : vV K G u lv (.int y :: .int x :: st) pc := fun H locs ls hP hS hl => lv_ishr hE.1.1 hE.1.2.1 hd  (by subst hn; exact k H locs ls hP hS hl)
theorem v_ladd (n : Nat) (hE : eV K G cc nL own Ts rm) {x y : Int64} (hd : decode cc pc = .ok (.ladd, 1))  (hn : pc + 1 = n) (k : vV K G u lv (.long (x + y) :: st) n) : vV K G u lv (.long y :: .long x :: st) pc := fun H locs ls hP hS hl => lv_ladd hE.1.1 hE.1.2.1 hd  (by subst hn; exact k H locs ls hP hS hl)
theorem v_lsub (n : Nat) (hE : eV K G cc nL own Ts rm) {x y : Int64} (hd : decode cc pc = .ok (.lsub, 1))  (hn : pc + 1 = n) (k : vV K G u lv (.long (x - y) :: st) n) : vV K G u lv (.long y :: .long x :: st) pc := fun H locs ls hP hS hl => lv_lsub hE.1.1 hE.1.2.1 hd  (by subst hn; exact k H locs ls hP hS hl)
theorem v_lmul (n : Nat) (hE : eV K G cc nL own Ts rm) {x y : Int64} (hd : decode cc pc = .ok (.lmul, 1))  (hn : pc + 1 = n) (k : vV K G u lv (.long (x * y) :: st) n) : vV K G u lv (.long y :: .long x :: st) pc := fun H locs ls hP hS hl => lv_lmul hE.1.1 hE.1.2.1 hd  (by subst hn; exact k H locs ls hP hS hl)
theorem v_idiv (n : Nat) (hE : eV K G cc nL own Ts rm) {x y : Int32} (hd : decode cc pc = .ok (.idiv, 1)) (hz : ¬ y = 0) (hn : pc + 1 = n) (k : vV K G u lv (.int (x / y) :: st) n) : vV K G u lv (.int y :: .int x :: st) pc := fun H locs ls hP hS hl => lv_idiv hE.1.1 hE.1.2.1 hd hz (by subst hn; exact k H locs ls hP hS hl)
theorem v_irem (n : Nat) (hE : eV K G cc nL own Ts rm) {x y : Int32} (hd : decode cc pc = .ok (.irem, 1)) (hz : ¬ y = 0) (hn : pc + 1 = n) (k : vV K G u lv (.int (x - x / y * y) :: st) n) : vV K G u lv (.int y :: .int x :: st) pc := fun H locs ls hP hS hl => lv_irem hE.1.1 hE.1.2.1 hd hz (by subst hn; exact k H locs ls hP hS hl)
theorem v_ldiv (n : Nat) (hE : eV K G cc nL own Ts rm) {x y : Int64} (hd : decode cc pc = .ok (.ldiv, 1)) (hz : ¬ y = 0) (hn : pc + 1 = n) (k : vV K G u lv (.long (x / y) :: st) n) : vV K G u lv (.long y :: .long x :: st) pc := fun H locs ls hP hS hl => lv_ldiv hE.1.1 hE.1.2.1 hd hz (by subst hn; exact k H locs ls hP hS hl)
theorem v_lrem (n : Nat) (hE : eV K G cc nL own Ts rm) {x y : Int64} (hd : decode cc pc = .ok (.lrem, 1)) (hz : ¬ y = 0) (hn : pc + 1 = n) (k : vV K G u lv (.long (x - x / y * y) :: st) n) : vV K G u lv (.long y :: .long x :: st) pc := fun H locs ls hP hS hl => lv_lrem hE.1.1 hE.1.2.1 hd hz (by subst hn; exact k H locs ls hP hS hl)
theorem v_lneg (n : Nat) (hE : eV K G cc nL own Ts rm) {x : Int64} (hd : decode cc pc = .ok (.lneg, 1))  (hn : pc + 1 = n) (k : vV K G u lv (.long (-x) :: st) n) : vV K G u lv (.long x :: st) pc := fun H locs ls hP hS hl => lv_lneg hE.1.1 hE.1.2.1 hd  (by subst hn; exact k H locs ls hP hS hl)
theorem v_i2l (n : Nat) (hE : eV K G cc nL own Ts rm) {x : Int32} (hd : decode cc pc = .ok (.i2l, 1))  (hn : pc + 1 = n) (k : vV K G u lv (.long x.toInt64 :: st) n) : vV K G u lv (.int x :: st) pc := fun H locs ls hP hS hl => lv_i2l hE.1.1 hE.1.2.1 hd rfl (by subst hn; exact k H locs ls hP hS hl)
theorem v_dup (n : Nat) (hE : eV K G cc nL own Ts rm) {a : Value} (hd : decode cc pc = .ok (.dup, 1)) (ha : a.category = 1) (hn : pc + 1 = n) (k : vV K G u lv (a :: a :: st) n) : vV K G u lv (a :: st) pc := fun H locs ls hP hS hl => lv_dup hE.1.1 hE.1.2.1 hd ha (by subst hn; exact k H locs ls hP hS hl)
theorem v_dup2 (n : Nat) (hE : eV K G cc nL own Ts rm) {a b : Value} (hd : decode cc pc = .ok (.dup2, 1)) (ha : a.category = 1) (hb : b.category = 1) (hn : pc + 1 = n) (k : vV K G u lv (a :: b :: a :: b :: st) n) : vV K G u lv (a :: b :: st) pc := fun H locs ls hP hS hl => lv_dup2_11 hE.1.1 hE.1.2.1 hd ha hb (by subst hn; exact k H locs ls hP hS hl)
theorem v_iaddN (n : Nat) (hE : eV K G cc nL own Ts rm) {x y : Nat} (hd : decode cc pc = .ok (.iadd, 1)) (hn : pc + 1 = n) (k : vV K G u lv (.int (nI (x + y)) :: st) n) : vV K G u lv (.int (nI y) :: .int (nI x) :: st) pc := v_iadd n hE hd hn (by rw [nI_add]; exact k)
theorem v_imulN (n : Nat) (hE : eV K G cc nL own Ts rm) {x y : Nat} (hd : decode cc pc = .ok (.imul, 1)) (hn : pc + 1 = n) (k : vV K G u lv (.int (nI (x * y)) :: st) n) : vV K G u lv (.int (nI y) :: .int (nI x) :: st) pc := v_imul n hE hd hn (by rw [pk_mul]; exact k)
theorem v_isubN (n : Nat) (hE : eV K G cc nL own Ts rm) {x y : Nat} (hd : decode cc pc = .ok (.isub, 1)) (hle : y ≤ x) (hn : pc + 1 = n) (k : vV K G u lv (.int (nI (x - y)) :: st) n) : vV K G u lv (.int (nI y) :: .int (nI x) :: st) pc := v_isub n hE hd hn (by rw [pk_sub hle]; exact k)
theorem v_idivN (n : Nat) (hE : eV K G cc nL own Ts rm) {x y : Nat} (hd : decode cc pc = .ok (.idiv, 1)) (hx : x < 2 ^ 31) (h0 : 0 < y) (hy : y < 2 ^ 31) (hn : pc + 1 = n) (k : vV K G u lv (.int (nI (x / y)) :: st) n) : vV K G u lv (.int (nI y) :: .int (nI x) :: st) pc := v_idiv n hE hd (nI_ne0 h0 hy) hn (by rw [pk_div hx h0 hy]; exact k)
theorem v_iremN (n : Nat) (hE : eV K G cc nL own Ts rm) {x y : Nat} (hd : decode cc pc = .ok (.irem, 1)) (hx : x < 2 ^ 31) (h0 : 0 < y) (hy : y < 2 ^ 31) (hn : pc + 1 = n) (k : vV K G u lv (.int (nI (x % y)) :: st) n) : vV K G u lv (.int (nI y) :: .int (nI x) :: st) pc := v_irem n hE hd (nI_ne0 h0 hy) hn (by rw [pk_rem hx h0 hy]; exact k)
theorem v_if_eq (n : Nat) (hE : eV K G cc nL own Ts rm) {x : Int32} {off : Int} (tgt : Nat) (hd : decode cc pc = .ok (.ifCond .eq off, 3)) (ht : (pc : Int) + off = (tgt : Int)) (hn : pc + 3 = n) (kt : x = 0 → vV K G u lv st tgt) (kf : ¬ x = 0 → vV K G u lv st n) : vV K G u lv (.int x :: st) pc := fun H locs ls hP hS hl => lv_if_eq hE.1.1 hE.1.2.1 hd ht (fun h => kt h H locs ls hP hS hl) (fun h => by subst hn; exact kf h H locs ls hP hS hl)
theorem v_ic_eq (n : Nat) (hE : eV K G cc nL own Ts rm) {x y : Int32} {off : Int} (tgt : Nat) (hd : decode cc pc = .ok (.if_icmp .eq off, 3)) (ht : (pc : Int) + off = (tgt : Int)) (hn : pc + 3 = n) (kt : x = y → vV K G u lv st tgt) (kf : ¬ x = y → vV K G u lv st n) : vV K G u lv (.int y :: .int x :: st) pc := fun H locs ls hP hS hl => lv_icmp_eq hE.1.1 hE.1.2.1 hd ht (fun h => kt h H locs ls hP hS hl) (fun h => by subst hn; exact kf h H locs ls hP hS hl)
theorem v_if_ne (n : Nat) (hE : eV K G cc nL own Ts rm) {x : Int32} {off : Int} (tgt : Nat) (hd : decode cc pc = .ok (.ifCond .ne off, 3)) (ht : (pc : Int) + off = (tgt : Int)) (hn : pc + 3 = n) (kt : ¬ x = 0 → vV K G u lv st tgt) (kf : x = 0 → vV K G u lv st n) : vV K G u lv (.int x :: st) pc := fun H locs ls hP hS hl => lv_if_ne hE.1.1 hE.1.2.1 hd ht (fun h => kt h H locs ls hP hS hl) (fun h => by subst hn; exact kf h H locs ls hP hS hl)
theorem v_ic_ne (n : Nat) (hE : eV K G cc nL own Ts rm) {x y : Int32} {off : Int} (tgt : Nat) (hd : decode cc pc = .ok (.if_icmp .ne off, 3)) (ht : (pc : Int) + off = (tgt : Int)) (hn : pc + 3 = n) (kt : ¬ x = y → vV K G u lv st tgt) (kf : x = y → vV K G u lv st n) : vV K G u lv (.int y :: .int x :: st) pc := fun H locs ls hP hS hl => lv_icmp_ne hE.1.1 hE.1.2.1 hd ht (fun h => kt h H locs ls hP hS hl) (fun h => by subst hn; exact kf h H locs ls hP hS hl)
theorem v_if_lt (n : Nat) (hE : eV K G cc nL own Ts rm) {x : Int32} {off : Int} (tgt : Nat) (hd : decode cc pc = .ok (.ifCond .lt off, 3)) (ht : (pc : Int) + off = (tgt : Int)) (hn : pc + 3 = n) (kt : x < 0 → vV K G u lv st tgt) (kf : ¬ x < 0 → vV K G u lv st n) : vV K G u lv (.int x :: st) pc := fun H locs ls hP hS hl => lv_if_lt hE.1.1 hE.1.2.1 hd ht (fun h => kt h H locs ls hP hS hl) (fun h => by subst hn; exact kf h H locs ls hP hS hl)
theorem v_ic_lt (n : Nat) (hE : eV K G cc nL own Ts rm) {x y : Int32} {off : Int} (tgt : Nat) (hd : decode cc pc = .ok (.if_icmp .lt off, 3)) (ht : (pc : Int) + off = (tgt : Int)) (hn : pc + 3 = n) (kt : x < y → vV K G u lv st tgt) (kf : ¬ x < y → vV K G u lv st n) : vV K G u lv (.int y :: .int x :: st) pc := fun H locs ls hP hS hl => lv_icmp_lt hE.1.1 hE.1.2.1 hd ht (fun h => kt h H locs ls hP hS hl) (fun h => by subst hn; exact kf h H locs ls hP hS hl)
theorem v_if_ge (n : Nat) (hE : eV K G cc nL own Ts rm) {x : Int32} {off : Int} (tgt : Nat) (hd : decode cc pc = .ok (.ifCond .ge off, 3)) (ht : (pc : Int) + off = (tgt : Int)) (hn : pc + 3 = n) (kt : 0 ≤ x → vV K G u lv st tgt) (kf : ¬ 0 ≤ x → vV K G u lv st n) : vV K G u lv (.int x :: st) pc := fun H locs ls hP hS hl => lv_if_ge hE.1.1 hE.1.2.1 hd ht (fun h => kt h H locs ls hP hS hl) (fun h => by subst hn; exact kf h H locs ls hP hS hl)
theorem v_ic_ge (n : Nat) (hE : eV K G cc nL own Ts rm) {x y : Int32} {off : Int} (tgt : Nat) (hd : decode cc pc = .ok (.if_icmp .ge off, 3)) (ht : (pc : Int) + off = (tgt : Int)) (hn : pc + 3 = n) (kt : y ≤ x → vV K G u lv st tgt) (kf : ¬ y ≤ x → vV K G u lv st n) : vV K G u lv (.int y :: .int x :: st) pc := fun H locs ls hP hS hl => lv_icmp_ge hE.1.1 hE.1.2.1 hd ht (fun h => kt h H locs ls hP hS hl) (fun h => by subst hn; exact kf h H locs ls hP hS hl)
theorem v_if_gt (n : Nat) (hE : eV K G cc nL own Ts rm) {x : Int32} {off : Int} (tgt : Nat) (hd : decode cc pc = .ok (.ifCond .gt off, 3)) (ht : (pc : Int) + off = (tgt : Int)) (hn : pc + 3 = n) (kt : 0 < x → vV K G u lv st tgt) (kf : ¬ 0 < x → vV K G u lv st n) : vV K G u lv (.int x :: st) pc := fun H locs ls hP hS hl => lv_if_gt hE.1.1 hE.1.2.1 hd ht (fun h => kt h H locs ls hP hS hl) (fun h => by subst hn; exact kf h H locs ls hP hS hl)
theorem v_ic_gt (n : Nat) (hE : eV K G cc nL own Ts rm) {x y : Int32} {off : Int} (tgt : Nat) (hd : decode cc pc = .ok (.if_icmp .gt off, 3)) (ht : (pc : Int) + off = (tgt : Int)) (hn : pc + 3 = n) (kt : y < x → vV K G u lv st tgt) (kf : ¬ y < x → vV K G u lv st n) : vV K G u lv (.int y :: .int x :: st) pc := fun H locs ls hP hS hl => lv_icmp_gt hE.1.1 hE.1.2.1 hd ht (fun h => kt h H locs ls hP hS hl) (fun h => by subst hn; exact kf h H locs ls hP hS hl)
theorem v_if_le (n : Nat) (hE : eV K G cc nL own Ts rm) {x : Int32} {off : Int} (tgt : Nat) (hd : decode cc pc = .ok (.ifCond .le off, 3)) (ht : (pc : Int) + off = (tgt : Int)) (hn : pc + 3 = n) (kt : x ≤ 0 → vV K G u lv st tgt) (kf : ¬ x ≤ 0 → vV K G u lv st n) : vV K G u lv (.int x :: st) pc := fun H locs ls hP hS hl => lv_if_le hE.1.1 hE.1.2.1 hd ht (fun h => kt h H locs ls hP hS hl) (fun h => by subst hn; exact kf h H locs ls hP hS hl)
theorem v_ic_le (n : Nat) (hE : eV K G cc nL own Ts rm) {x y : Int32} {off : Int} (tgt : Nat) (hd : decode cc pc = .ok (.if_icmp .le off, 3)) (ht : (pc : Int) + off = (tgt : Int)) (hn : pc + 3 = n) (kt : x ≤ y → vV K G u lv st tgt) (kf : ¬ x ≤ y → vV K G u lv st n) : vV K G u lv (.int y :: .int x :: st) pc := fun H locs ls hP hS hl => lv_icmp_le hE.1.1 hE.1.2.1 hd ht (fun h => kt h H locs ls hP hS hl) (fun h => by subst hn; exact kf h H locs ls hP hS hl)
theorem v_ic_eqN (n : Nat) (hE : eV K G cc nL own Ts rm) {x y : Nat} {off : Int} (tgt : Nat) (hd : decode cc pc = .ok (.if_icmp .eq off, 3)) (ht : (pc : Int) + off = (tgt : Int)) (hx : x < 2 ^ 31) (hy : y < 2 ^ 31) (hn : pc + 3 = n) (kt : x = y → vV K G u lv st tgt) (kf : ¬ x = y → vV K G u lv st n) : vV K G u lv (.int (nI y) :: .int (nI x) :: st) pc := by
  have h := nI_eq hx hy
  exact v_ic_eq n hE tgt hd ht hn (fun q => kt (h.mp q)) (fun q => kf (fun z => q (h.mpr z)))
theorem v_ic_neN (n : Nat) (hE : eV K G cc nL own Ts rm) {x y : Nat} {off : Int} (tgt : Nat) (hd : decode cc pc = .ok (.if_icmp .ne off, 3)) (ht : (pc : Int) + off = (tgt : Int)) (hx : x < 2 ^ 31) (hy : y < 2 ^ 31) (hn : pc + 3 = n) (kt : ¬ x = y → vV K G u lv st tgt) (kf : x = y → vV K G u lv st n) : vV K G u lv (.int (nI y) :: .int (nI x) :: st) pc := by
  have h := nI_eq hx hy
  exact v_ic_ne n hE tgt hd ht hn (fun q => kt (fun z => q (h.mpr z))) (fun q => kf (h.mp q))
theorem v_ic_ltN (n : Nat) (hE : eV K G cc nL own Ts rm) {x y : Nat} {off : Int} (tgt : Nat) (hd : decode cc pc = .ok (.if_icmp .lt off, 3)) (ht : (pc : Int) + off = (tgt : Int)) (hx : x < 2 ^ 31) (hy : y < 2 ^ 31) (hn : pc + 3 = n) (kt : x < y → vV K G u lv st tgt) (kf : y ≤ x → vV K G u lv st n) : vV K G u lv (.int (nI y) :: .int (nI x) :: st) pc := by
  have h := nI_ltI hx hy
  exact v_ic_lt n hE tgt hd ht hn (fun q => kt (h.mp q)) (fun q => kf (Nat.not_lt.mp (fun z => q (h.mpr z))))
theorem v_ic_geN (n : Nat) (hE : eV K G cc nL own Ts rm) {x y : Nat} {off : Int} (tgt : Nat) (hd : decode cc pc = .ok (.if_icmp .ge off, 3)) (ht : (pc : Int) + off = (tgt : Int)) (hx : x < 2 ^ 31) (hy : y < 2 ^ 31) (hn : pc + 3 = n) (kt : y ≤ x → vV K G u lv st tgt) (kf : x < y → vV K G u lv st n) : vV K G u lv (.int (nI y) :: .int (nI x) :: st) pc := by
  have h := nI_leI hy hx
  exact v_ic_ge n hE tgt hd ht hn (fun q => kt (h.mp q)) (fun q => kf (Nat.not_le.mp (fun z => q (h.mpr z))))
theorem v_ic_gtN (n : Nat) (hE : eV K G cc nL own Ts rm) {x y : Nat} {off : Int} (tgt : Nat) (hd : decode cc pc = .ok (.if_icmp .gt off, 3)) (ht : (pc : Int) + off = (tgt : Int)) (hx : x < 2 ^ 31) (hy : y < 2 ^ 31) (hn : pc + 3 = n) (kt : y < x → vV K G u lv st tgt) (kf : x ≤ y → vV K G u lv st n) : vV K G u lv (.int (nI y) :: .int (nI x) :: st) pc := by
  have h := nI_ltI hy hx
  exact v_ic_gt n hE tgt hd ht hn (fun q => kt (h.mp q)) (fun q => kf (Nat.not_lt.mp (fun z => q (h.mpr z))))
theorem v_ic_leN (n : Nat) (hE : eV K G cc nL own Ts rm) {x y : Nat} {off : Int} (tgt : Nat) (hd : decode cc pc = .ok (.if_icmp .le off, 3)) (ht : (pc : Int) + off = (tgt : Int)) (hx : x < 2 ^ 31) (hy : y < 2 ^ 31) (hn : pc + 3 = n) (kt : x ≤ y → vV K G u lv st tgt) (kf : y < x → vV K G u lv st n) : vV K G u lv (.int (nI y) :: .int (nI x) :: st) pc := by
  have h := nI_leI hx hy
  exact v_ic_le n hE tgt hd ht hn (fun q => kt (h.mp q)) (fun q => kf (Nat.not_le.mp (fun z => q (h.mpr z))))
theorem nI_eq0 {x : Nat} (hx : x < 2 ^ 31) : nI x = 0 ↔ x = 0 := by rw [← nI_0]; exact nI_eq hx (by decide)
theorem nI_gt0 {x : Nat} (hx : x < 2 ^ 31) : 0 < nI x ↔ 0 < x := by rw [← nI_0]; exact nI_ltI (by decide) hx
theorem nI_le0 {x : Nat} (hx : x < 2 ^ 31) : nI x ≤ 0 ↔ x = 0 := by rw [← nI_0, nI_leI hx (by decide)]; omega
theorem v_if_eqN (n : Nat) (hE : eV K G cc nL own Ts rm) {x : Nat} {off : Int} (tgt : Nat) (hd : decode cc pc = .ok (.ifCond .eq off, 3)) (ht : (pc : Int) + off = (tgt : Int)) (hx : x < 2 ^ 31) (hn : pc + 3 = n) (kt : x = 0 → vV K G u lv st tgt) (kf : ¬ x = 0 → vV K G u lv st n) : vV K G u lv (.int (nI x) :: st) pc := by
  have h := nI_eq0 hx
  exact v_if_eq n hE tgt hd ht hn (fun q => kt (h.mp q)) (fun q => kf (fun z => q (h.mpr z)))
theorem v_if_neN (n : Nat) (hE : eV K G cc nL own Ts rm) {x : Nat} {off : Int} (tgt : Nat) (hd : decode cc pc = .ok (.ifCond .ne off, 3)) (ht : (pc : Int) + off = (tgt : Int)) (hx : x < 2 ^ 31) (hn : pc + 3 = n) (kt : ¬ x = 0 → vV K G u lv st tgt) (kf : x = 0 → vV K G u lv st n) : vV K G u lv (.int (nI x) :: st) pc := by
  have h := nI_eq0 hx
  exact v_if_ne n hE tgt hd ht hn (fun q => kt (fun z => q (h.mpr z))) (fun q => kf (h.mp q))
theorem v_if_leN (n : Nat) (hE : eV K G cc nL own Ts rm) {x : Nat} {off : Int} (tgt : Nat) (hd : decode cc pc = .ok (.ifCond .le off, 3)) (ht : (pc : Int) + off = (tgt : Int)) (hx : x < 2 ^ 31) (hn : pc + 3 = n) (kt : x = 0 → vV K G u lv st tgt) (kf : 0 < x → vV K G u lv st n) : vV K G u lv (.int (nI x) :: st) pc := by
  have h := nI_le0 hx
  exact v_if_le n hE tgt hd ht hn (fun q => kt (h.mp q)) (fun q => kf (Nat.pos_of_ne_zero (fun z => q (h.mpr z))))
theorem v_if_gtN (n : Nat) (hE : eV K G cc nL own Ts rm) {x : Nat} {off : Int} (tgt : Nat) (hd : decode cc pc = .ok (.ifCond .gt off, 3)) (ht : (pc : Int) + off = (tgt : Int)) (hx : x < 2 ^ 31) (hn : pc + 3 = n) (kt : 0 < x → vV K G u lv st tgt) (kf : x = 0 → vV K G u lv st n) : vV K G u lv (.int (nI x) :: st) pc := by
  have h := nI_gt0 hx
  exact v_if_gt n hE tgt hd ht hn (fun q => kt (h.mp q)) (fun q => kf (Nat.eq_zero_of_not_pos (fun z => q (h.mpr z))))
theorem v_if_eqB (n : Nat) (hE : eV K G cc nL own Ts rm) {b : Bool} {off : Int} (tgt : Nat) (hd : decode cc pc = .ok (.ifCond .eq off, 3)) (ht : (pc : Int) + off = (tgt : Int)) (hn : pc + 3 = n) (kt : b = false → vV K G u lv st tgt) (kf : b = true → vV K G u lv st n) : vV K G u lv (.int (bI b) :: st) pc := v_if_eq n hE tgt hd ht hn (fun q => kt (bI_0.mp q)) (fun q => kf (by cases b; exact absurd rfl q; rfl))
theorem v_if_neB (n : Nat) (hE : eV K G cc nL own Ts rm) {b : Bool} {off : Int} (tgt : Nat) (hd : decode cc pc = .ok (.ifCond .ne off, 3)) (ht : (pc : Int) + off = (tgt : Int)) (hn : pc + 3 = n) (kt : b = true → vV K G u lv st tgt) (kf : b = false → vV K G u lv st n) : vV K G u lv (.int (bI b) :: st) pc := v_if_ne n hE tgt hd ht hn (fun q => kt (by cases b; exact absurd rfl q; rfl)) (fun q => kf (bI_0.mp q))
theorem v_lcmp (n : Nat) (hE : eV K G cc nL own Ts rm) {x y : Int64} (hd : decode cc pc = .ok (.lcmp, 1)) (hn : pc + 1 = n) (k : vV K G u lv (.int (lg_cmp x y) :: st) n) : vV K G u lv (.long y :: .long x :: st) pc := fun H locs ls hP hS hl => W.lcmp hE.1.1 hE.1.2.1 hd (by subst hn; exact k H locs ls hP hS hl)
theorem v_lc_eq (n1 n : Nat) (hE : eV K G cc nL own Ts rm) {x y : Int64} {off : Int} (tgt : Nat) (hd1 : decode cc pc = .ok (.lcmp, 1)) (hd : decode cc n1 = .ok (.ifCond .eq off, 3)) (ht : (n1 : Int) + off = (tgt : Int)) (hn1 : pc + 1 = n1) (hn : n1 + 3 = n) (kt : x = y → vV K G u lv st tgt) (kf : ¬ x = y → vV K G u lv st n) : vV K G u lv (.long y :: .long x :: st) pc := by
  have h := lg_cmp_eq x y
  exact v_lcmp n1 hE hd1 hn1 (v_if_eq n hE tgt hd ht hn (fun q => kt (h.mp q)) (fun q => kf (fun z => q (h.mpr z))))
theorem v_lc_ne (n1 n : Nat) (hE : eV K G cc nL own Ts rm) {x y : Int64} {off : Int} (tgt : Nat) (hd1 : decode cc pc = .ok (.lcmp, 1)) (hd : decode cc n1 = .ok (.ifCond .ne off, 3)) (ht : (n1 : Int) + off = (tgt : Int)) (hn1 : pc + 1 = n1) (hn : n1 + 3 = n) (kt : ¬ x = y → vV K G u lv st tgt) (kf : x = y → vV K G u lv st n) : vV K G u lv (.long y :: .long x :: st) pc := by
  have h := lg_cmp_eq x y
  exact v_lcmp n1 hE hd1 hn1 (v_if_ne n hE tgt hd ht hn (fun q => kt (fun z => q (h.mpr z))) (fun q => kf (h.mp q)))
theorem v_lc_lt (n1 n : Nat) (hE : eV K G cc nL own Ts rm) {x y : Int64} {off : Int} (tgt : Nat) (hd1 : decode cc pc = .ok (.lcmp, 1)) (hd : decode cc n1 = .ok (.ifCond .lt off, 3)) (ht : (n1 : Int) + off = (tgt : Int)) (hn1 : pc + 1 = n1) (hn : n1 + 3 = n) (kt : x < y → vV K G u lv st tgt) (kf : ¬ x < y → vV K G u lv st n) : vV K G u lv (.long y :: .long x :: st) pc := by
  have h := lg_cmp_lt x y
  exact v_lcmp n1 hE hd1 hn1 (v_if_lt n hE tgt hd ht hn (fun q => kt (h.mp q)) (fun q => kf (fun z => q (h.mpr z))))
theorem v_lc_ge (n1 n : Nat) (hE : eV K G cc nL own Ts rm) {x y : Int64} {off : Int} (tgt : Nat) (hd1 : decode cc pc = .ok (.lcmp, 1)) (hd : decode cc n1 = .ok (.ifCond .ge off, 3)) (ht : (n1 : Int) + off = (tgt : Int)) (hn1 : pc + 1 = n1) (hn : n1 + 3 = n) (kt : y ≤ x → vV K G u lv st tgt) (kf : ¬ y ≤ x → vV K G u lv st n) : vV K G u lv (.long y :: .long x :: st) pc := by
  have h := lg_cmp_ge x y
  exact v_lcmp n1 hE hd1 hn1 (v_if_ge n hE tgt hd ht hn (fun q => kt (h.mp q)) (fun q => kf (fun z => q (h.mpr z))))
theorem v_lc_gt (n1 n : Nat) (hE : eV K G cc nL own Ts rm) {x y : Int64} {off : Int} (tgt : Nat) (hd1 : decode cc pc = .ok (.lcmp, 1)) (hd : decode cc n1 = .ok (.ifCond .gt off, 3)) (ht : (n1 : Int) + off = (tgt : Int)) (hn1 : pc + 1 = n1) (hn : n1 + 3 = n) (kt : y < x → vV K G u lv st tgt) (kf : ¬ y < x → vV K G u lv st n) : vV K G u lv (.long y :: .long x :: st) pc := by
  have h := lg_cmp_gt x y
  exact v_lcmp n1 hE hd1 hn1 (v_if_gt n hE tgt hd ht hn (fun q => kt (h.mp q)) (fun q => kf (fun z => q (h.mpr z))))
theorem v_lc_le (n1 n : Nat) (hE : eV K G cc nL own Ts rm) {x y : Int64} {off : Int} (tgt : Nat) (hd1 : decode cc pc = .ok (.lcmp, 1)) (hd : decode cc n1 = .ok (.ifCond .le off, 3)) (ht : (n1 : Int) + off = (tgt : Int)) (hn1 : pc + 1 = n1) (hn : n1 + 3 = n) (kt : x ≤ y → vV K G u lv st tgt) (kf : ¬ x ≤ y → vV K G u lv st n) : vV K G u lv (.long y :: .long x :: st) pc := by
  have h := lg_cmp_le x y
  exact v_lcmp n1 hE hd1 hn1 (v_if_le n hE tgt hd ht hn (fun q => kt (h.mp q)) (fun q => kf (fun z => q (h.mpr z))))
theorem v_goto (hE : eV K G cc nL own Ts rm) {off : Int} (tgt : Nat) (hd : decode cc pc = .ok (.goto off, 3)) (ht : (pc : Int) + off = (tgt : Int)) (k : vV K G u lv st tgt) : vV K G u lv st pc := fun H locs ls hP hS hl => lv_goto hE.1.1 hE.1.2.1 hd ht (k H locs ls hP hS hl)
theorem v_ldc (n : Nat) (hE : eV K G cc nL own Ts rm) {index : Nat} {v : Int32} (hc : Jvm.Cond.constant own index v ∈ Ts) (hd : decode cc pc = .ok (.ldc index, 2)) (hn : pc + 2 = n) (k : vV K G u lv (.int v :: st) n) : vV K G u lv st pc := fun H locs ls hP hS hl => lv_ldc hE.1.1 hE.1.2.1 hE.1.2.2.2.1 (hE.1.2.2.2.2 _ hc) hd (by subst hn; exact k H locs ls hP hS hl)
theorem v_ldc2 (n : Nat) (hE : eV K G cc nL own Ts rm) {index : Nat} {v : Int64} (hc : Jvm.Cond.constantLong own index v ∈ Ts) (hd : decode cc pc = .ok (.ldc2_w index, 3)) (hn : pc + 3 = n) (k : vV K G u lv (.long v :: st) n) : vV K G u lv st pc := fun H locs ls hP hS hl => lv_ldc2 hE.1.1 hE.1.2.1 hE.1.2.2.2.1 (hE.1.2.2.2.2 _ hc) hd (by subst hn; exact k H locs ls hP hS hl)
theorem v_get (n : Nat) (hE : eV K G cc nL own Ts rm) {ref C : String} {T : u_T} {N ci index a : Nat} (hin : ∀ w ∈ u_ws C T N, w ∈ Ts) (q0 : Nat) {fs : List Value} (he : (G.2.2.2 u)[q0]? = some (a, .inr (ci, fs))) (hc : vwCl[ci]? = some (C, T, N)) (j : Nat) (hj : j < N) (hlink : Cond.fieldLink own index ref (T j).2.1 (T j).2.2.1 ∈ Ts) (href : (T j).1 = ref) {v : Value} (hv : fs[j]? = some v) (hd : decode cc pc = .ok (.getfield index, 3)) (hn : pc + 3 = n) (k : vV K G u lv (v :: st) n) : vV K G u lv (.ref a :: st) pc :=
  fun H locs ls hP hS hl => va_get hE.1.1 hE.1.2.1 hE.1.2.2.2.2 hin hE.1.2.2.2.1 hE.2.1 hP q0 he hc j hj (hE.1.2.2.2.2 _ hlink) (fun _ h9 => by rw [← href]; exact h9) hv hd (by subst hn; exact k H locs ls hP hS hl)
theorem v_put (n : Nat) (hE : eV K G cc nL own Ts rm) {ref C : String} {T : u_T} {N ci index a : Nat} (hin : ∀ w ∈ u_ws C T N, w ∈ Ts) (ty0 : Nat → FieldType) (hty : ∀ k, k < N → parseFieldDescriptor (T k).2.2.1 = some (ty0 k)) (hnm : ∀ a, a < N → ∀ b, b < N → a ≠ b → (T a).2.1 ≠ (T b).2.1) (q0 : Nat) {fs : List Value} (he : (G.2.2.2 u)[q0]? = some (a, .inr (ci, fs))) (hc : vwCl[ci]? = some (C, T, N)) (j : Nat) (hj : j < N) (hlink : Cond.fieldLink own index ref (T j).2.1 (T j).2.2.1 ∈ Ts) (href : (T j).1 = ref) (hfin : (T j).2.2.2 = false) {ty : FieldType} {v : Value} (hdt : parseFieldDescriptor (T j).2.2.1 = some ty) (hnw : narrow ty v = v) (hfit : fits ty v = true) (hlf : j < fs.length) {u' : S} (hu : (G.2.2.2 u).set q0 (a, .inr (ci, fs.set j v)) = G.2.2.2 u') (hd : decode cc pc = .ok (.putfield index, 3)) (hn : pc + 3 = n) (k : vV K G u' lv st n) : vV K G u lv (v :: .ref a :: st) pc :=
  fun H locs ls hP hS hl => va_put hE.1.1 hE.1.2.1 hE.1.2.2.2.2 hin ty0 hty hnm hE.1.2.2.2.1 hE.2.1 hP (hE.2.2.1 u) hS q0 he hc j hj (hE.1.2.2.2.2 _ hlink) (fun _ h9 => by rw [← href]; exact h9) hfin hdt hnw hfit hlf hd (fun H1 locs1 hP1 _ hS1 => by subst hn; rw [hu] at hP1; exact k H1 locs1 ls hP1 hS1 hl)
theorem v_iald (n : Nat) (hE : eV K G cc nL own Ts rm) (q0 t0 : Nat) {a : Nat} {cA : ClassId} {N : Nat} {f : Nat → Int32} (ha : (G.2.2.2 u)[q0]? = some (a, .inl (cA, N, .inl f))) (ht : G.2.1[t0]? = some (cA, .int)) {i : Nat} (hi : i < N) (hN : N < 2 ^ 31) (hd : decode cc pc = .ok (.iaload, 1)) (hn : pc + 1 = n) (k : vV K G u lv (.int (f i) :: st) n) : vV K G u lv (.int (nI i) :: .ref a :: st) pc :=
  fun H locs ls hP hS hl => va_iald hE.1.1 hE.1.2.1 hE.2.1 hP q0 t0 ha ht (vp_in_nI hi hN) hd (by subst hn; rw [nI_clamp (Nat.lt_trans hi hN)]; exact k H locs ls hP hS hl)
theorem v_zald (n : Nat) (hE : eV K G cc nL own Ts rm) (q0 t0 : Nat) {a : Nat} {cA : ClassId} {N : Nat} {f : Nat → Int32} (ha : (G.2.2.2 u)[q0]? = some (a, .inl (cA, N, .inl f))) (ht : G.2.1[t0]? = some (cA, .boolean)) {i : Nat} (hi : i < N) (hN : N < 2 ^ 31) (hd : decode cc pc = .ok (.baload, 1)) (hn : pc + 1 = n) (k : vV K G u lv (.int (f i) :: st) n) : vV K G u lv (.int (nI i) :: .ref a :: st) pc :=
  fun H locs ls hP hS hl => va_zald hE.1.1 hE.1.2.1 hE.2.1 hP q0 t0 ha ht (vp_in_nI hi hN) hd (by subst hn; rw [nI_clamp (Nat.lt_trans hi hN)]; exact k H locs ls hP hS hl)
theorem v_lald (n : Nat) (hE : eV K G cc nL own Ts rm) (q0 t0 : Nat) {a : Nat} {cA : ClassId} {N : Nat} {f : Nat → Int64} (ha : (G.2.2.2 u)[q0]? = some (a, .inl (cA, N, .inr (.inl f)))) (ht : G.2.1[t0]? = some (cA, .long)) {i : Nat} (hi : i < N) (hN : N < 2 ^ 31) (hd : decode cc pc = .ok (.laload, 1)) (hn : pc + 1 = n) (k : vV K G u lv (.long (f i) :: st) n) : vV K G u lv (.int (nI i) :: .ref a :: st) pc :=
  fun H locs ls hP hS hl => va_lald hE.1.1 hE.1.2.1 hE.2.1 hP q0 t0 ha ht (vp_in_nI hi hN) hd (by subst hn; rw [nI_clamp (Nat.lt_trans hi hN)]; exact k H locs ls hP hS hl)
theorem v_iast (n : Nat) (hE : eV K G cc nL own Ts rm) (q0 t0 : Nat) {a : Nat} {cA : ClassId} {N : Nat} {f : Nat → Int32} (ha : (G.2.2.2 u)[q0]? = some (a, .inl (cA, N, .inl (f)))) (ht : G.2.1[t0]? = some (cA, .int)) {i : Nat} {x : Int32} (hi : i < N) (hN : N < 2 ^ 31) {u' : S} (hu : (G.2.2.2 u).set q0 (a, .inl (cA, N, .inl (upd f i x))) = G.2.2.2 u') (hd : decode cc pc = .ok (.iastore, 1)) (hn : pc + 1 = n) (k : vV K G u' lv st n) : vV K G u lv (.int x :: .int (nI i) :: .ref a :: st) pc :=
  fun H locs ls hP hS hl => va_iast hE.1.1 hE.1.2.1 hE.2.1 hP (hE.2.2.1 u) hS q0 t0 ha ht (vp_in_nI hi hN) hd (fun H1 locs1 hP1 _ hS1 => by subst hn; rw [nI_clamp (Nat.lt_trans hi hN), hu] at hP1; exact k H1 locs1 ls hP1 hS1 hl)
theorem v_zast (n : Nat) (hE : eV K G cc nL own Ts rm) (q0 t0 : Nat) {a : Nat} {cA : ClassId} {N : Nat} {f : Nat → Int32} (ha : (G.2.2.2 u)[q0]? = some (a, .inl (cA, N, .inl (f)))) (ht : G.2.1[t0]? = some (cA, .boolean)) {i : Nat} {x : Int32} (hi : i < N) (hN : N < 2 ^ 31) {u' : S} (hu : (G.2.2.2 u).set q0 (a, .inl (cA, N, .inl (upd f i (vp_nar .boolean x)))) = G.2.2.2 u') (hd : decode cc pc = .ok (.bastore, 1)) (hn : pc + 1 = n) (k : vV K G u' lv st n) : vV K G u lv (.int x :: .int (nI i) :: .ref a :: st) pc :=
  fun H locs ls hP hS hl => va_zast hE.1.1 hE.1.2.1 hE.2.1 hP (hE.2.2.1 u) hS q0 t0 ha ht (vp_in_nI hi hN) hd (fun H1 locs1 hP1 _ hS1 => by subst hn; rw [nI_clamp (Nat.lt_trans hi hN), hu] at hP1; exact k H1 locs1 ls hP1 hS1 hl)
theorem v_last (n : Nat) (hE : eV K G cc nL own Ts rm) (q0 t0 : Nat) {a : Nat} {cA : ClassId} {N : Nat} {f : Nat → Int64} (ha : (G.2.2.2 u)[q0]? = some (a, .inl (cA, N, .inr (.inl (f))))) (ht : G.2.1[t0]? = some (cA, .long)) {i : Nat} {x : Int64} (hi : i < N) (hN : N < 2 ^ 31) {u' : S} (hu : (G.2.2.2 u).set q0 (a, .inl (cA, N, .inr (.inl (vp_updL f i x)))) = G.2.2.2 u') (hd : decode cc pc = .ok (.lastore, 1)) (hn : pc + 1 = n) (k : vV K G u' lv st n) : vV K G u lv (.long x :: .int (nI i) :: .ref a :: st) pc :=
  fun H locs ls hP hS hl => va_last hE.1.1 hE.1.2.1 hE.2.1 hP (hE.2.2.1 u) hS q0 t0 ha ht (vp_in_nI hi hN) hd (fun H1 locs1 hP1 _ hS1 => by subst hn; rw [nI_clamp (Nat.lt_trans hi hN), hu] at hP1; exact k H1 locs1 ls hP1 hS1 hl)
theorem v_aald (n : Nat) (hE : eV K G cc nL own Ts rm) (q0 t0 : Nat) {a : Nat} {cA : ClassId} {ty : FieldType} {N : Nat} {f : Nat → Option Nat} (ha : (G.2.2.2 u)[q0]? = some (a, .inl (cA, N, .inr (.inr (.inr (.inr f)))))) (ht : G.2.1[t0]? = some (cA, .array ty)) {i b : Nat} (hi : i < N) (hN : N < 2 ^ 31) (hb : f i = some b) (hd : decode cc pc = .ok (.aaload, 1)) (hn : pc + 1 = n) (k : vV K G u lv (.ref b :: st) n) : vV K G u lv (.int (nI i) :: .ref a :: st) pc := by
  intro H locs ls hP hS hl
  have hin := vp_in_nI hi hN
  have hlt : (nI i).toNatClampNeg < N := Nat.not_le.mp fun q => hin (Or.inr q)
  refine W.aald (v := .ref b) (ty := .array ty) hE.1.1 hE.1.2.1 (hP q0 _ ha) ((hE.2.1.2 t0 _ ht).1 N (fun j => va_rf (f j))) rfl (fun q => by cases q) (by show ¬ (nI i < 0 ∨ (arrV _ _ _).slots.size ≤ _); rw [arrV_size]; exact hin) ?_ rfl rfl hd (by subst hn; exact k H locs ls hP hS hl)
  show (arrV _ _ _).slots[_]? = _
  rw [arrV_read _ _ hlt, nI_clamp (Nat.lt_trans hi hN), hb]
  rfl
theorem v_alen (n : Nat) (hE : eV K G cc nL own Ts rm) (q0 t0 : Nat) {a : Nat} {cA : ClassId} {x : vp_A} (ha : (G.2.2.2 u)[q0]? = some (a, .inl (cA, x))) {ty : FieldType} (ht : G.2.1[t0]? = some (cA, ty)) (hd : decode cc pc = .ok (.arraylength, 1)) (hn : pc + 1 = n) (k : vV K G u lv (.int (nI x.1) :: st) n) : vV K G u lv (.ref a :: st) pc :=
  fun H locs ls hP hS hl => va_alen hE.1.1 hE.1.2.1 hE.2.1 hP q0 t0 ha ht rfl hd (by subst hn; exact k H locs ls hP hS hl)
theorem v_min (n : Nat) (hE : eV K G cc nL own Ts rm) {index : Nat} (hlink : Cond.methodLink own index Lib.Math.min.name ∈ Ts) (hstat : Cond.static Lib.Math.min.name ∈ Ts) (hini : Cond.initialized "java/lang/Math" ∈ Ts) (hcode : Cond.code Lib.Math.min.name Lib.Math.min.code 2 (some .int) ∈ Ts) (hr : 1 ≤ rm.frames ∧ (st.map fun v => v.category).sum + 13 ≤ rm.locals) {x y : Int32} (hd : decode cc pc = .ok (.invokestatic index, 3)) (hn : pc + 3 = n) (k : vV K G u lv (.int (if y < x then y else x) :: st) n) : vV K G u lv (.int y :: .int x :: st) pc := by
  intro H locs ls hP hS hl
  have hR : K.1.1.2.2.2 = rm := hE.2.2.2.2.2.1
  have hts := hE.1.2.2.2.2
  exact va_mmin hE.1.1 hE.1.2.1 (by rw [hE.1.2.2.1, hl.1, hE.2.2.2.2.2.2.1]) hE.1.2.2.2.1 (hts _ hlink) (hts _ hstat) (hts _ hini) (hts _ hcode) (by rw [hR]; exact hr.1) (by rw [hR]; exact hr.2) (by rw [hR]; exact hE.2.2.2.2.2.2.2.1) (by rw [hR]; exact hE.2.2.2.2.2.2.2.2) hd (by subst hn; exact k H locs ls hP hS hl)
theorem v_absL (n : Nat) (hE : eV K G cc nL own Ts rm) {index : Nat} (hlink : Cond.methodLink own index Lib.MathLoose.abs_long.x ∈ Ts) (hstat : Cond.static Lib.MathLoose.abs_long.x ∈ Ts) (hini : Cond.initialized "java/lang/Math" ∈ Ts) (hcode : Cond.code Lib.MathLoose.abs_long.x Lib.MathLoose.abs_long.code 2 (some .long) ∈ Ts) (hr : 1 ≤ rm.frames ∧ (st.map fun v => v.category).sum + 13 ≤ rm.locals) {x : Int64} (hd : decode cc pc = .ok (.invokestatic index, 3)) (hn : pc + 3 = n) (k : vV K G u lv (.long (if 0 < x then x else -x) :: st) n) : vV K G u lv (.long x :: st) pc := by
  intro H locs ls hP hS hl
  have hR : K.1.1.2.2.2 = rm := hE.2.2.2.2.2.1
  have hts := hE.1.2.2.2.2
  exact va_mabs_long hE.1.1 hE.1.2.1 (by rw [hE.1.2.2.1, hl.1, hE.2.2.2.2.2.2.1]) hE.1.2.2.2.1 (hts _ hlink) (hts _ hstat) (hts _ hini) (hts _ hcode) (by rw [hR]; exact hr.1) (by rw [hR]; exact hr.2) (by rw [hR]; exact hE.2.2.2.2.2.2.2.1) (by rw [hR]; exact hE.2.2.2.2.2.2.2.2) hd (by subst hn; exact k H locs ls hP hS hl)
end VV
/-! contracts: a method, at a world u of G and arguments as, answers r and leaves the world u' -/
abbrev vPc {S : Type} (G : vG S) (as : List Value) (u : S) (sz : Nat) : Array Value → State → Prop := va_Pc as (fun U => U.heap.size = sz ∧ va_P G.1 vwCl (G.2.2.2 u) U.heap ∧ va_K G.1 vwCl G.2.1 U ∧ va_D (fun _ => True) (G.2.2.2 u) ∧ vNs G.2.2.1 U)
abbrev vB {S : Type} (G : vG S) (A : Nat → Prop) : S → State → Prop := fun v t => va_P G.1 vwCl (G.2.2.2 v) t.heap ∧ va_K G.1 vwCl G.2.1 t ∧ va_D A (G.2.2.2 v)
abbrev qI {S : Type} (G : vG S) (r : Int32) (u' : S) (A : Nat → Prop) : Array Value → State → Outcome → State → Prop := va_Qi (fun r' v => r' = r ∧ v = u') (vB G A) A
abbrev qL {S : Type} (G : vG S) (r : Int64) (u' : S) (A : Nat → Prop) : Array Value → State → Outcome → State → Prop := va_Ql (fun r' v => r' = r ∧ v = u') (vB G A) A
abbrev qV {S : Type} (G : vG S) (u' : S) (A : Nat → Prop) : Array Value → State → Outcome → State → Prop := va_Qv (fun v => v = u') (vB G A) A
def mM {S : Type} (l : Launch) (G : vG S) (y : MethodName) (ws : List Cond) (rm : Room) (as : List Value) (u : S) (Qc : (Nat → Prop) → Array Value → State → Outcome → State → Prop) : Prop :=
  ∀ sz : Nat, Met l y ws rm (vPc G as u sz) (Qc (va_A (G.2.2.2 u) sz)) 0 0 (va_A (G.2.2.2 u) sz)
abbrev mI {S : Type} (l : Launch) (G : vG S) (y : MethodName) (ws : List Cond) (rm : Room) (as : List Value) (u : S) (r : Int32) (u' : S) : Prop := mM l G y ws rm as u (qI G r u')
abbrev mL {S : Type} (l : Launch) (G : vG S) (y : MethodName) (ws : List Cond) (rm : Room) (as : List Value) (u : S) (r : Int64) (u' : S) : Prop := mM l G y ws rm as u (qL G r u')
abbrev mV {S : Type} (l : Launch) (G : vG S) (y : MethodName) (ws : List Cond) (rm : Room) (as : List Value) (u : S) (u' : S) : Prop := mM l G y ws rm as u (qV G u')
theorem vNs.same {ns : List vN} {u U : State} (h : u.vm = U.vm) (hN : vNs ns u) : vNs ns U := fun q hq => va_Nw.same rfl h (hN q hq)
theorem vNs.warm {ns : List vN} {s U : State} (hW : s.WarmedH U.vm) (hN : vNs ns s) : vNs ns U := fun q hq => va_Nw.warmM hW (hN q hq)
theorem vD_geo {A : Nat → Prop} {w w' : va_W} (h : w'.map Prod.fst = w.map Prod.fst) (hD : va_D A w) : va_D A w' := by
  have key : ∀ (i : Nat) (q : Nat × va_E), w'[i]? = some q → ∃ q0, w[i]? = some q0 ∧ q0.1 = q.1 := by
    intro i q hq
    have h1 : (w'.map Prod.fst)[i]? = some q.1 := by rw [List.getElem?_map, hq]; rfl
    rw [h, List.getElem?_map] at h1
    cases hw : w[i]? with
    | none => rw [hw] at h1; cases h1
    | some q0 => rw [hw] at h1; exact ⟨q0, rfl, Option.some.inj h1⟩
  refine ⟨fun i j p q hp hq e => ?_, fun k q hq => ?_⟩
  · obtain ⟨p0, h1, e1⟩ := key i p hp
    obtain ⟨q0, h2, e2⟩ := key j q hq
    exact hD.1 i j p0 q0 h1 h2 (by rw [e1, e2, e])
  · obtain ⟨q0, h1, e1⟩ := key k q hq
    rw [← e1]
    exact hD.2 k q0 h1
theorem vPc.blind {S : Type} (G : vG S) (as : List Value) (u : S) (sz : Nat) : FrameBlind (vPc G as u sz) := fun a U g mk q => by
  obtain ⟨q0, q1, qP, qK, qD, qN⟩ := q
  exact ⟨q0, q1, qP, va_K.moved (u := U) (U := U.calling g mk a) (Vm.Alike.refl U.vm) qK, qD, vNs.same (u := U) (U := U.calling g mk a) rfl qN⟩
section MOF
variable {S : Type} {l : Launch} {G : vG S} {y : MethodName} {ws ws' : List Cond} {rm : Room} {as : List Value} {u u' : S} {cc : ByteArray} {nL : Nat} {own : String}
theorem mM_of {ret : Option FieldType} {Qc : (Nat → Prop) → Array Value → State → Outcome → State → Prop} (hy : plainName y.cls = true) (hw : ws = Cond.code y cc nL ret :: ws') (hcl : y.cls = own) (hgeo : ∀ v : S, (G.2.2.2 v).map Prod.fst = (G.2.2.2 u).map Prod.fst) (hlen : (lg_sl as).length ≤ nL)
    (body : ∀ (p : Program) (e : Env) (s : State) (m : MethodId) (below : List Frame) (meth : Method) (c : Code) (A : Nat → Prop), p.tables.exec = Jvm.exec → c.code = cc → meth.sig.returnType = ret → meth.locks = false → va_K G.1 vwCl G.2.1 s → (∀ v : S, va_D A (G.2.2.2 v)) →
      eV ((((p, l, e, rm), (s, m, as.toArray, below), (meth, c), (0, 0)), A, nL, MQ below (Qc A) as.toArray s 0 0 A) : vK) G cc nL own ws rm → vV ((((p, l, e, rm), (s, m, as.toArray, below), (meth, c), (0, 0)), A, nL, MQ below (Qc A) as.toArray s 0 0 A) : vK) G u (lv_args 0 as) [] 0) : mM l G y ws rm as u Qc := by
  intro sz
  refine Met.ofW (cc := cc) (maxL := nL) (ret := ret) hy hw ?_
  intro p e s m args below meth c s₁ B hml hv
  obtain ⟨rfl, hsz, hP, hK, hD0, hN⟩ := hv
  have hts := atoms_spec (ws := ws) B.pre
  have hown : s.vm.findClass own = some m.cls := by rw [← hcl]; exact findClass_of_methodNamed B.named
  subst hsz
  have hD : ∀ v : S, va_D (va_A (G.2.2.2 u) s.heap.size) (G.2.2.2 v) := fun v => vD_geo (hgeo v) (hD0.self (sz := s.heap.size))
  have hl := lv_entry as (n := nL) hlen
  rw [lg_entry_eq]
  exact body p e s m below meth c (va_A (G.2.2.2 u) s.heap.size) B.exec B.bytes B.returns B.notSynchronized hK hD ⟨⟨B.exec, B.bytes, hml, hown, hts⟩, hK, hD, fun q h => Or.inr h, hN, rfl, rfl, Nat.zero_le _, Nat.zero_le _⟩ s.heap [] _ hP va_S.rf hl
theorem mI_of {r : Int32} (hy : plainName y.cls = true) (hw : ws = Cond.code y cc nL (some .int) :: ws') (hcl : y.cls = own) (hgeo : ∀ v : S, (G.2.2.2 v).map Prod.fst = (G.2.2.2 u).map Prod.fst) (hlen : (lg_sl as).length ≤ nL)
    (body : ∀ K : vK, K.1.1.2.1 = l → eV K G cc nL own ws rm → (∀ pc lv, decode cc pc = .ok (.ireturn, 1) → vV K G u' lv [.int r] pc) → vV K G u (lv_args 0 as) [] 0) : mI l G y ws rm as u r u' := by
  refine mM_of hy hw hcl hgeo hlen ?_
  intro p e s m below meth c A hx hb hr hlocks hK hD hE
  refine body _ rfl hE (fun pc lv hd H locs ls hP hS hl => ?_)
  exact W.iret hx hb hr (fun t ht hW => ⟨⟨r, u', rfl, ⟨rfl, rfl⟩, by rw [ht]; exact hP, va_K.moved hW.alike hK, hD u'⟩, hS.F ht⟩) hS.2.2 hd hlocks
theorem mB_of {b : Bool} (hy : plainName y.cls = true) (hw : ws = Cond.code y cc nL (some .boolean) :: ws') (hcl : y.cls = own) (hgeo : ∀ v : S, (G.2.2.2 v).map Prod.fst = (G.2.2.2 u).map Prod.fst) (hlen : (lg_sl as).length ≤ nL)
    (body : ∀ K : vK, K.1.1.2.1 = l → eV K G cc nL own ws rm → (∀ pc lv, decode cc pc = .ok (.ireturn, 1) → vV K G u' lv [.int (bI b)] pc) → vV K G u (lv_args 0 as) [] 0) : mI l G y ws rm as u (bI b) u' := by
  refine mM_of hy hw hcl hgeo hlen ?_
  intro p e s m below meth c A hx hb hr hlocks hK hD hE
  refine body _ rfl hE (fun pc lv hd H locs ls hP hS hl => ?_)
  exact W.zret hx hb hr (bI_n b) (fun t ht hW => ⟨⟨bI b, u', rfl, ⟨rfl, rfl⟩, by rw [ht]; exact hP, va_K.moved hW.alike hK, hD u'⟩, hS.F ht⟩) hS.2.2 hd hlocks
theorem mL_of {r : Int64} (hy : plainName y.cls = true) (hw : ws = Cond.code y cc nL (some .long) :: ws') (hcl : y.cls = own) (hgeo : ∀ v : S, (G.2.2.2 v).map Prod.fst = (G.2.2.2 u).map Prod.fst) (hlen : (lg_sl as).length ≤ nL)
    (body : ∀ K : vK, K.1.1.2.1 = l → eV K G cc nL own ws rm → (∀ pc lv, decode cc pc = .ok (.lreturn, 1) → vV K G u' lv [.long r] pc) → vV K G u (lv_args 0 as) [] 0) : mL l G y ws rm as u r u' := by
  refine mM_of hy hw hcl hgeo hlen ?_
  intro p e s m below meth c A hx hb hr hlocks hK hD hE
  refine body _ rfl hE (fun pc lv hd H locs ls hP hS hl => ?_)
  exact W.lret hx hb hr (fun t ht hW => ⟨⟨r, u', rfl, ⟨rfl, rfl⟩, by rw [ht]; exact hP, va_K.moved hW.alike hK, hD u'⟩, hS.F ht⟩) hS.2.2 hd hlocks
theorem mV_of (hy : plainName y.cls = true) (hw : ws = Cond.code y cc nL none :: ws') (hcl : y.cls = own) (hgeo : ∀ v : S, (G.2.2.2 v).map Prod.fst = (G.2.2.2 u).map Prod.fst) (hlen : (lg_sl as).length ≤ nL)
    (body : ∀ K : vK, K.1.1.2.1 = l → eV K G cc nL own ws rm → (∀ pc lv, decode cc pc = .ok (.return_, 1) → vV K G u' lv [] pc) → vV K G u (lv_args 0 as) [] 0) : mV l G y ws rm as u u' := by
  refine mM_of hy hw hcl hgeo hlen ?_
  intro p e s m below meth c A hx hb hr hlocks hK hD hE
  refine body _ rfl hE (fun pc lv hd H locs ls hP hS hl => ?_)
  exact W.vret hx hb hr (fun t ht hW => ⟨⟨u', rfl, rfl, by rw [ht]; exact hP, va_K.moved hW.alike hK, hD u'⟩, hS.F ht⟩) hS.2.2 hd hlocks
end MOF
/-! calls -/
abbrev vRun {S S' : Type} (K : vK) (G : vG S) (G' : vG S') (u : S) (v : S') (lv : List (Nat × Value)) (st0 st : List Value) (pc : Nat) (Qc : (Nat → Prop) → Array Value → State → Outcome → State → Prop) (a : Array Value) : Prop :=
  ∀ (H : Heap) (locs : List Loc) (ls : Array Slot), va_P G.1 vwCl (G.2.2.2 u) H → va_S K.2.1 (eS K.1).heap H locs → lv_has ls K.2.2.1 lv →
    va_Run K.1.1.1 K.1.1.2.1 K.1.1.2.2.1 K.1.1.2.2.2 (eS K.1) (eM K.1) (eA K.1) K.1.2.1.2.2.2 K.1.2.2.1.1 K.1.2.2.1.2 H locs K.1.2.2.2.1 K.1.2.2.2.2 0 0 (F0 (eM K.1) pc ls st0) st (Qc (va_A (G'.2.2.2 v) H.size) a) (va_A (G'.2.2.2 v) H.size)
/-- the callee's world G', v among the caller's -/
abbrev vSub {S S' : Type} (K : vK) (G : vG S) (G' : vG S') (u : S) (v : S') : Prop := (∀ H : Heap, va_P G.1 vwCl (G.2.2.2 u) H → va_P G'.1 vwCl (G'.2.2.2 v) H) ∧ va_K G'.1 vwCl G'.2.1 (eS K.1) ∧ va_D K.2.1 (G'.2.2.2 v) ∧ vNs G'.2.2.1 (eS K.1)
section CALLS
variable {S S' : Type} {K : vK} {G : vG S} {G' : vG S'} {cc : ByteArray} {nL : Nat} {own : String} {Ts : List Cond} {rm : Room} {u u' : S} {v v' : S'} {lv : List (Nat × Value)} {st st0 : List Value} {pc : Nat}
theorem vSub.self (hE : eV K G cc nL own Ts rm) : vSub K G G u u := ⟨fun _ h => h, hE.2.1, hE.2.2.1 u, hE.2.2.2.2.1⟩
theorem v_runV (na : Nat) (hE : eV K G cc nL own Ts rm) (hs : vSub K G G' u v) {y : MethodName} {ws ws' : List Cond} {rm' : Room} {b : Nat} {As : List Value} {Qc : (Nat → Prop) → Array Value → State → Outcome → State → Prop} {C : String} {T : u_T} {N ci q0 maxL idx : Nat} {fs : List Value} {bytes : ByteArray} {ret : Option FieldType} (hM : mM K.1.1.2.1 G' y ws rm' (.ref b :: As) v Qc) (hG : GoodIn Ts (wsV own idx C y ws)) (hw : ws = Cond.code y bytes maxL ret :: ws')
    (hy : y.cls = C ∧ y.cls ≠ "java/lang/invoke/MethodHandle" ∧ y.cls ≠ "java/lang/invoke/VarHandle" ∧ (parseMethodDescriptor y.desc).map (fun d => d.parameters.length) = some na) (hna : As.length = na) (he : (G'.2.2.2 v)[q0]? = some (b, .inr (ci, fs))) (hc : vwCl[ci]? = some (C, T, N)) (hrm : rm'.cells = 0 ∧ rm'.slots = 0 ∧ rm'.frames + 1 ≤ rm.frames ∧ 8 + (maxL + 11) + rm'.locals ≤ rm.locals) (hst : st0 = As.reverse ++ .ref b :: st) (hcat : (st.map fun v => v.category).sum ≤ 8) (hd : decode cc pc = .ok (.invokevirtual idx, 3)) :
    vRun K G G' u v lv st0 st pc Qc (Value.ref b :: As).toArray := by
  intro H locs ls hP hS hl
  have hR : K.1.1.2.2.2 = rm := hE.2.2.2.2.2.1
  obtain ⟨hsub, hK', hD', hN'⟩ := hs
  have hP' := hsub H hP
  refine va_runV (As := As) (rest := st) hE.1 (hM H.size) (cwV na hE.1.2.2.2.2 hG hw hrm.1 hrm.2.1 hy ⟨by rw [hR]; exact hrm.2.2.1, by rw [hR]; exact hrm.2.2.2⟩) ⟨vPc.blind _ _ _ _, va_recv hK' hP' hc he, fun U hU hW => ⟨rfl, by rw [hU], by rw [hU]; exact hP', va_K.moved hW.alike hK', hD'.weaken (fun _ _ _ _ => trivial), hN'.warm hW⟩⟩ rfl hna (hl.1.trans hE.2.2.2.2.2.2.1) hst (lv_room hcat) hd ⟨by rw [hR]; exact hE.2.2.2.2.2.2.2.1, by rw [hR]; exact hE.2.2.2.2.2.2.2.2⟩
theorem v_runS (na : Nat) (hE : eV K G cc nL own Ts rm) (hs : vSub K G G' u v) {y : MethodName} {ws ws' : List Cond} {rm' : Room} {As : List Value} {Qc : (Nat → Prop) → Array Value → State → Outcome → State → Prop} {maxL idx : Nat} {bytes : ByteArray} {ret : Option FieldType} (hM : mM K.1.1.2.1 G' y ws rm' As v Qc) (hG : GoodIn Ts (va_wsS own idx y ws)) (hw : ws = Cond.code y bytes maxL ret :: ws')
    (hy : y.cls ≠ "java/lang/invoke/MethodHandle" ∧ y.cls ≠ "java/lang/invoke/VarHandle" ∧ (parseMethodDescriptor y.desc).map (fun d => d.parameters.length) = some na) (hna : As.length = na) (hrm : rm'.cells = 0 ∧ rm'.slots = 0 ∧ rm'.frames + 1 ≤ rm.frames ∧ 8 + (maxL + 11) + rm'.locals ≤ rm.locals) (hst : st0 = As.reverse ++ st) (hcat : (st.map fun v => v.category).sum ≤ 8) (hd : decode cc pc = .ok (.invokestatic idx, 3)) :
    vRun K G G' u v lv st0 st pc Qc As.toArray := by
  intro H locs ls hP hS hl
  have hR : K.1.1.2.2.2 = rm := hE.2.2.2.2.2.1
  obtain ⟨hsub, hK', hD', hN'⟩ := hs
  have hP' := hsub H hP
  refine va_runS (As := As) (rest := st) hE.1 (hM H.size) (va_cwS na hE.1.2.2.2.2 hG hw hrm.1 hrm.2.1 hy ⟨by rw [hR]; exact hrm.2.2.1, by rw [hR]; exact hrm.2.2.2⟩) ⟨vPc.blind _ _ _ _, fun U hU hW => ⟨rfl, by rw [hU], by rw [hU]; exact hP', va_K.moved hW.alike hK', hD'.weaken (fun _ _ _ _ => trivial), hN'.warm hW⟩⟩ rfl hna (hl.1.trans hE.2.2.2.2.2.2.1) hst (lv_room hcat) hd ⟨by rw [hR]; exact hE.2.2.2.2.2.2.2.1, by rw [hR]; exact hE.2.2.2.2.2.2.2.2⟩
theorem v_runSN (na : Nat) (hE : eV K G cc nL own Ts rm) (hs : vSub K G G' u v) {y : MethodName} {ws ws' : List Cond} {rm' : Room} {As : List Value} {Qc : (Nat → Prop) → Array Value → State → Outcome → State → Prop} {maxL idx : Nat} {host : String} {bytes : ByteArray} {ret : Option FieldType} (hM : mM K.1.1.2.1 G' y ws rm' As v Qc) (hG : GoodIn Ts ws) (hnest : (own, idx, y, host) ∈ G.2.2.1) (hini : Cond.initialized y.cls ∈ Ts) (hstat : Cond.static y ∈ Ts) (hw : ws = Cond.code y bytes maxL ret :: ws')
    (hy : y.cls ≠ "java/lang/invoke/MethodHandle" ∧ y.cls ≠ "java/lang/invoke/VarHandle" ∧ (parseMethodDescriptor y.desc).map (fun d => d.parameters.length) = some na) (hna : As.length = na) (hrm : rm'.cells = 0 ∧ rm'.slots = 0 ∧ rm'.frames + 1 ≤ rm.frames ∧ 8 + (maxL + 11) + rm'.locals ≤ rm.locals) (hst : st0 = As.reverse ++ st) (hcat : (st.map fun v => v.category).sum ≤ 8) (hd : decode cc pc = .ok (.invokestatic idx, 3)) :
    vRun K G G' u v lv st0 st pc Qc As.toArray := by
  intro H locs ls hP hS hl
  have hR : K.1.1.2.2.2 = rm := hE.2.2.2.2.2.1
  obtain ⟨hsub, hK', hD', hN'⟩ := hs
  have hP' := hsub H hP
  refine va_runSN (As := As) (rest := st) hE.1 (hM H.size) ⟨va_cnB na hE.1.2.2.2.2 hG hw hrm.1 hrm.2.1 (hE.2.2.2.2.1 _ hnest) (hE.1.2.2.2.2 _ hini) hy ⟨by rw [hR]; exact hrm.2.2.1, by rw [hR]; exact hrm.2.2.2⟩, hE.1.2.2.2.2 _ hstat, trivial⟩ ⟨vPc.blind _ _ _ _, fun U hU hW => ⟨rfl, by rw [hU], by rw [hU]; exact hP', va_K.moved hW.alike hK', hD'.weaken (fun _ _ _ _ => trivial), hN'.warm hW⟩⟩ rfl hna (hl.1.trans hE.2.2.2.2.2.2.1) hst (lv_room hcat) hd ⟨by rw [hR]; exact hE.2.2.2.2.2.2.2.1, by rw [hR]; exact hE.2.2.2.2.2.2.2.2⟩
theorem v_fre (hE : eV K G cc nL own Ts rm) (hs : vSub K G G' u v) {H : Heap} {locs : List Loc} (hS : va_S K.2.1 (eS K.1).heap H locs) : ∀ q, va_A (G'.2.2.2 v) H.size q → K.2.1 q := by
  intro q h
  rcases h with ⟨k, e, h⟩ | h
  · exact hs.2.2.1.2 k _ h
  · exact hE.2.2.2.1 q (Nat.le_trans hS.1 h)
/-- what the caller holds behind a call: hback says how its world comes out of what it held and what the callee left -/
abbrev vBack {S S' : Type} (G : vG S) (G' : vG S') (u u' : S) (v v' : S') : Prop := ∀ H H1 : Heap, va_P G.1 vwCl (G.2.2.2 u) H → (∀ q : Nat, q < H.size → ¬ va_A (G'.2.2.2 v) H.size q → H1[q]? = H[q]?) → va_P G'.1 vwCl (G'.2.2.2 v') H1 → va_P G.1 vwCl (G.2.2.2 u') H1
theorem v_ci (n : Nat) (hE : eV K G cc nL own Ts rm) (hs : vSub K G G' u v) {r : Int32} {a : Array Value} (hr : vRun K G G' u v lv st0 st pc (qI G' r v') a) (hback : vBack G G' u u' v v') (hn : pc + 3 = n) (k : vV K G u' lv (.int r :: st) n) : vV K G u lv st0 pc := by
  intro H locs ls hP hS hl
  have hF := v_fre hE hs hS
  refine va_calli (hr H locs ls hP hS hl) hS (fun q _ h => hF q h) hF (fun r' w t H1 locs1 ht hvm hw hB hz1 hk1 hS1 => ?_)
  obtain ⟨rfl, rfl⟩ := hw
  obtain ⟨hP1, -, -⟩ := hB
  rw [ht] at hP1
  subst hn
  exact k H1 locs1 ls (hback H H1 hP hk1 hP1) hS1 hl
theorem v_cl (n : Nat) (hE : eV K G cc nL own Ts rm) (hs : vSub K G G' u v) {r : Int64} {a : Array Value} (hr : vRun K G G' u v lv st0 st pc (qL G' r v') a) (hback : vBack G G' u u' v v') (hn : pc + 3 = n) (k : vV K G u' lv (.long r :: st) n) : vV K G u lv st0 pc := by
  intro H locs ls hP hS hl
  have hF := v_fre hE hs hS
  refine va_calll (hr H locs ls hP hS hl) hS (fun q _ h => hF q h) hF (fun r' w t H1 locs1 ht hvm hw hB hz1 hk1 hS1 => ?_)
  obtain ⟨rfl, rfl⟩ := hw
  obtain ⟨hP1, -, -⟩ := hB
  rw [ht] at hP1
  subst hn
  exact k H1 locs1 ls (hback H H1 hP hk1 hP1) hS1 hl
theorem v_cv (n : Nat) (hE : eV K G cc nL own Ts rm) (hs : vSub K G G' u v) {a : Array Value} (hr : vRun K G G' u v lv st0 st pc (qV G' v') a) (hback : vBack G G' u u' v v') (hn : pc + 3 = n) (k : vV K G u' lv st n) : vV K G u lv st0 pc := by
  intro H locs ls hP hS hl
  have hF := v_fre hE hs hS
  refine va_callv (hr H locs ls hP hS hl) hS (fun q _ h => hF q h) hF (fun w t H1 locs1 ht hvm hw hB hz1 hk1 hS1 => ?_)
  subst hw
  obtain ⟨hP1, -, -⟩ := hB
  rw [ht] at hP1
  subst hn
  exact k H1 locs1 ls (hback H H1 hP hk1 hP1) hS1 hl
/-- the same world -/
theorem v_ciE (n : Nat) (hE : eV K G cc nL own Ts rm) {r : Int32} {a : Array Value} (hr : vRun K G G u u lv st0 st pc (qI G r u') a) (hn : pc + 3 = n) (k : vV K G u' lv (.int r :: st) n) : vV K G u lv st0 pc := v_ci n hE (vSub.self hE) hr (fun _ _ _ _ h => h) hn k
theorem v_clE (n : Nat) (hE : eV K G cc nL own Ts rm) {r : Int64} {a : Array Value} (hr : vRun K G G u u lv st0 st pc (qL G r u') a) (hn : pc + 3 = n) (k : vV K G u' lv (.long r :: st) n) : vV K G u lv st0 pc := v_cl n hE (vSub.self hE) hr (fun _ _ _ _ h => h) hn k
theorem v_cvE (n : Nat) (hE : eV K G cc nL own Ts rm) {a : Array Value} (hr : vRun K G G u u lv st0 st pc (qV G u') a) (hn : pc + 3 = n) (k : vV K G u' lv st n) : vV K G u lv st0 pc := v_cv n hE (vSub.self hE) hr (fun _ _ _ _ h => h) hn k
end CALLS
