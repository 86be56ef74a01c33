/-! the law: both worlds side by side -/
theorem va_Pl {D : va_G} {w1 w2 : va_W} {H : Heap} (h : va_P D vwCl (w1 ++ w2) H) : va_P D vwCl w1 H := fun k q hk => h k q (by
  have hl := (List.getElem?_eq_some_iff.mp hk).1
  rw [List.getElem?_append_left hl]
  exact hk)
theorem va_Pr {D : va_G} {w1 w2 : va_W} {H : Heap} (h : va_P D vwCl (w1 ++ w2) H) : va_P D vwCl w2 H := fun k q hk => h (w1.length + k) q (by
  rw [List.getElem?_append_right (by omega), show w1.length + k - w1.length = k by omega]
  exact hk)
theorem va_Dl {A : Nat → Prop} {w1 w2 : va_W} (h : va_D A (w1 ++ w2)) : va_D A w1 := by
  have up : ∀ (k : Nat) (q : Nat × va_E), w1[k]? = some q → (w1 ++ w2)[k]? = some q := fun k q hk => by
    have hl := (List.getElem?_eq_some_iff.mp hk).1
    rw [List.getElem?_append_left hl]
    exact hk
  exact ⟨fun i j p q hp hq e => h.1 i j p q (up i p hp) (up j q hq) e, fun k q hk => h.2 k q (up k q hk)⟩
theorem va_Dr {A : Nat → Prop} {w1 w2 : va_W} (h : va_D A (w1 ++ w2)) : va_D A w2 := by
  have up : ∀ (k : Nat) (q : Nat × va_E), w2[k]? = some q → (w1 ++ w2)[w1.length + k]? = some q := fun k q hk => by
    rw [List.getElem?_append_right (by omega), show w1.length + k - w1.length = k by omega]
    exact hk
  exact ⟨fun i j p q hp hq e => by
    have := h.1 _ _ p q (up i p hp) (up j q hq) e
    omega, fun k q hk => h.2 _ q (up k q hk)⟩
theorem va_Dx {A : Nat → Prop} {w1 w2 : va_W} (h : va_D A (w1 ++ w2)) {i j : Nat} {p q : Nat × va_E} (hp : w1[i]? = some p) (hq : w2[j]? = some q) : ¬ p.1 = q.1 := fun e => by
  have hl := (List.getElem?_eq_some_iff.mp hp).1
  have := h.1 i (w1.length + j) p q (by rw [List.getElem?_append_left hl]; exact hp) (by rw [List.getElem?_append_right (by omega), show w1.length + j - w1.length = j by omega]; exact hq) e
  omega
theorem vb_l {D : va_G} {A : Nat → Prop} {w1 w1' w2 : va_W} {H H1 : Heap} (hD : va_D A (w1 ++ w2)) (hP : va_P D vwCl (w1 ++ w2) H) (hk : ∀ q : Nat, q < H.size → ¬ va_A w1 H.size q → H1[q]? = H[q]?) (hP1 : va_P D vwCl w1' H1) : va_P D vwCl (w1' ++ w2) H1 := by
  refine va_P.app hP1 (fun k q hq => ?_)
  have h0 := va_Pr hP k q hq
  refine h0.kept (hk q.1 h0.lt (fun h => ?_))
  rcases h with ⟨i, e, h⟩ | h
  · exact va_Dx hD h hq rfl
  · have := h0.lt
    omega
theorem vb_r {D : va_G} {A : Nat → Prop} {w1 w2 w2' : va_W} {H H1 : Heap} (hD : va_D A (w1 ++ w2)) (hP : va_P D vwCl (w1 ++ w2) H) (hk : ∀ q : Nat, q < H.size → ¬ va_A w2 H.size q → H1[q]? = H[q]?) (hP1 : va_P D vwCl w2' H1) : va_P D vwCl (w1 ++ w2') H1 := by
  refine va_P.app (fun k q hq => ?_) hP1
  have h0 := va_Pl hP k q hq
  refine h0.kept (hk q.1 h0.lt (fun h => ?_))
  rcases h with ⟨i, e, h⟩ | h
  · exact va_Dx hD hq h rfl
  · have := h0.lt
    omega
abbrev gL (D : va_G) (C : Nat → ClassId) (x0 : Nat) (ax : (Nat → Nat) × (Nat → Nat) × (Nat → Nat)) (m0 : Nat) (am : Nat → Nat) : vG (XS × MS) := (D, tT C, nsA, fun u => cX (yZ D C x0 ax) u.1 ++ cM (D, C, nZ m0 am, fun _ => 0, fun _ => 0) u.2)
abbrev yM (D : va_G) (C : Nat → ClassId) (m0 : Nat) (am : Nat → Nat) : yG := (D, C, nZ m0 am, fun _ => 0, fun _ => 0)
section LROW
variable {K : vK} {D : va_G} {C : Nat → ClassId} {x0 m0 : Nat} {ax : (Nat → Nat) × (Nat → Nat) × (Nat → Nat)} {am : Nat → Nat} {u : XS} {w : MS} {lv : List (Nat × Value)} {st st0 : List Value} {pc : Nat}
theorem sub_x (hE : eV K (gL D C x0 ax m0 am) cL_law 4 RL wsL_law room_1) : vSub K (gL D C x0 ax m0 am) (gX (yZ D C x0 ax)) (u, w) u := ⟨fun _ h => va_Pl h, hE.2.1, va_Dl (hE.2.2.1 (u, w)), fun q hq => hE.2.2.2.2.1 q (List.mem_append_left _ hq)⟩
theorem sub_m (hE : eV K (gL D C x0 ax m0 am) cL_law 4 RL wsL_law room_1) : vSub K (gL D C x0 ax m0 am) (gM (yM D C m0 am)) (u, w) w := ⟨fun _ h => va_Pr h, hE.2.1, va_Dr (hE.2.2.1 (u, w)), fun q hq => by cases hq⟩
theorem back_x (hE : eV K (gL D C x0 ax m0 am) cL_law 4 RL wsL_law room_1) (u' : XS) : vBack (gL D C x0 ax m0 am) (gX (yZ D C x0 ax)) (u, w) (u', w) u u' := fun _ _ hP hk hP1 => vb_l (hE.2.2.1 (u, w)) hP hk hP1
theorem back_m (hE : eV K (gL D C x0 ax m0 am) cL_law 4 RL wsL_law room_1) (w' : MS) : vBack (gL D C x0 ax m0 am) (gM (yM D C m0 am)) (u, w) (u, w') w w' := fun _ _ hP hk hP1 => vb_r (hE.2.2.1 (u, w)) hP hk hP1
/-- the script lies below, and stays -/
def scrA (K : vK) (b L : Nat) (xs : Nat → Int32) : Prop := va_X b L xs (eS K.1) (eS K.1).heap ∧ b < (eS K.1).heap.size ∧ ¬ K.2.1 b
variable {b L : Nat} {xs : Nat → Int32}
theorem v_sld (n : Nat) {S : Type} {G : vG S} {v : S} (hE : eV K G cL_law 4 RL wsL_law room_1) (hC : scrA K b L xs) {i : Nat} (hi : i < L) (hL : L < 2 ^ 31) (hd : decode cL_law pc = .ok (.iaload, 1)) (hn : pc + 1 = n) (k : vV K G v lv (.int (xs i) :: st) n) : vV K G v lv (.int (nI i) :: .ref b :: st) pc := by
  intro H locs ls hP hS hl
  refine va_sld hE.1.1 hE.1.2.1 hC.1 hC.2.1 hC.2.2 hS (vp_in_nI hi hL) hd ?_
  rw [nI_clamp (by omega)]
  subst hn
  exact k H locs ls hP hS hl
theorem v_slen (n : Nat) {S : Type} {G : vG S} {v : S} (hE : eV K G cL_law 4 RL wsL_law room_1) (hC : scrA K b L xs) (hd : decode cL_law pc = .ok (.arraylength, 1)) (hn : pc + 1 = n) (k : vV K G v lv (.int (nI L) :: st) n) : vV K G v lv (.ref b :: st) pc := by
  intro H locs ls hP hS hl
  refine va_slen hE.1.1 hE.1.2.1 hC.1 hC.2.1 hC.2.2 hS hd ?_
  subst hn
  exact k H locs ls hP hS hl
theorem v_tabIn {S : Type} {G : vG S} {v : S} (hE : eV K G cL_law 4 RL wsL_law room_1) {dflt lo hi : Int} {offs : Array Int} {len : Nat} {x : Int32} {off : Int} (tgt : Nat) (hdg : decode cL_law pc = .ok (.tableswitch dflt lo hi offs, len)) (h1 : ¬ x.toInt < lo) (h2 : ¬ hi < x.toInt) (ho : offs[(x.toInt - lo).toNat]? = some off) (ht : (pc : Int) + off = (tgt : Int)) (k : vV K G v lv st tgt) : vV K G v lv (.int x :: st) pc := fun H locs ls hP hS hl => lv_tableIn hE.1.1 hE.1.2.1 hdg h1 h2 ho ht (k H locs ls hP hS hl)
theorem v_tabOut {S : Type} {G : vG S} {v : S} (hE : eV K G cL_law 4 RL wsL_law room_1) {dflt lo hi : Int} {offs : Array Int} {len : Nat} {x : Int32} (tgt : Nat) (hdg : decode cL_law pc = .ok (.tableswitch dflt lo hi offs, len)) (h : x.toInt < lo ∨ hi < x.toInt) (ht : (pc : Int) + dflt = (tgt : Int)) (k : vV K G v lv st tgt) : vV K G v lv (.int x :: st) pc := fun H locs ls hP hS hl => lv_tableOut hE.1.1 hE.1.2.1 hdg h ht (k H locs ls hP hS hl)
end LROW
