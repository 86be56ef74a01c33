/-- a number or nothing, as an int: nothing is z -/
def oI (z : Int32) (x : Option Nat) : Int32 := match x with
  | none => z
  | some k => nI k
theorem up_nI (f : Nat → Nat) (k x : Nat) : upd (fun j => nI (f j)) k (nI x) = fun j => nI (va_up f k x j) := by
  funext j
  by_cases h : j = k <;> simp [upd, va_up, h]
theorem up_oI (z : Int32) (f : Nat → Option Nat) (k : Nat) (x : Option Nat) : upd (fun j => oI z (f j)) k (oI z x) = fun j => oI z (va_up f k x j) := by
  funext j
  by_cases h : j = k <;> simp [upd, va_up, h]
theorem up_bI (f : Nat → Bool) (k : Nat) (x : Bool) : upd (fun j => bI (f j)) k (vp_nar .boolean (bI x)) = fun j => bI (va_up f k x j) := by
  rw [bI_nar]
  funext j
  by_cases h : j = k <;> simp [upd, va_up, h]
theorem up_fl (R : Nat → Nat → Int64) {r k : Nat} (hk : k < 26) {x : Int64} : vp_updL (fun q => R (q / 26) (q % 26)) (26 * r + k) x = fun q => va_up R r (va_up (R r) k x) (q / 26) (q % 26) := by
  funext q
  unfold vp_updL
  by_cases h : q = 26 * r + k
  · subst h
    rw [if_pos rfl, show (26 * r + k) / 26 = r by omega, show (26 * r + k) % 26 = k by omega]
    simp [va_up]
  · rw [if_neg h]
    by_cases h1 : q / 26 = r
    · have h2 : ¬ q % 26 = k := fun e => h (by omega)
      simp [va_up, h1, h2]
    · simp [va_up, h1]
theorem up_i (f : Nat → Int32) (k : Nat) (x : Int32) : upd f k x = va_up f k x := rfl
theorem up_l (f : Nat → Int64) (k : Nat) (x : Int64) : vp_updL f k x = va_up f k x := rfl

abbrev XN : Type := (Nat) × (Nat) × (Nat → Nat) × (Nat → Nat) × (Nat → Nat) × (Nat → Nat) × (Nat → Nat → Nat) × (Nat → Nat)
abbrev XD : Type := (Nat → Int32)
abbrev XM : Type := (Nat → Int32) × (Nat → Int32) × (Nat → Int32) × (Nat → Int32)
abbrev XE : Type := (Nat) × (Nat) × (Nat) × (Int64) × (Nat → Nat → Int64) × (Nat → Option Nat) × (Nat → Option Nat) × (Nat → Bool)
abbrev XG : Type := (Nat → Int64) × (Nat → Int64)
abbrev XS : Type := XN × XD × XM × XE × XG
abbrev x_n (u : XS) : Nat := u.1.1
abbrev xs_n (u : XS) (x : Nat) : XS := ((x, u.1.2.1, u.1.2.2.1, u.1.2.2.2.1, u.1.2.2.2.2.1, u.1.2.2.2.2.2.1, u.1.2.2.2.2.2.2.1, u.1.2.2.2.2.2.2.2), u.2.1, u.2.2.1, u.2.2.2.1, u.2.2.2.2)
abbrev x_m (u : XS) : Nat := u.1.2.1
abbrev xs_m (u : XS) (x : Nat) : XS := ((u.1.1, x, u.1.2.2.1, u.1.2.2.2.1, u.1.2.2.2.2.1, u.1.2.2.2.2.2.1, u.1.2.2.2.2.2.2.1, u.1.2.2.2.2.2.2.2), u.2.1, u.2.2.1, u.2.2.2.1, u.2.2.2.2)
abbrev x_src (u : XS) : Nat → Nat := u.1.2.2.1
abbrev xs_src (u : XS) (x : Nat → Nat) : XS := ((u.1.1, u.1.2.1, x, u.1.2.2.2.1, u.1.2.2.2.2.1, u.1.2.2.2.2.2.1, u.1.2.2.2.2.2.2.1, u.1.2.2.2.2.2.2.2), u.2.1, u.2.2.1, u.2.2.2.1, u.2.2.2.2)
abbrev x_tgt (u : XS) : Nat → Nat := u.1.2.2.2.1
abbrev xs_tgt (u : XS) (x : Nat → Nat) : XS := ((u.1.1, u.1.2.1, u.1.2.2.1, x, u.1.2.2.2.2.1, u.1.2.2.2.2.2.1, u.1.2.2.2.2.2.2.1, u.1.2.2.2.2.2.2.2), u.2.1, u.2.2.1, u.2.2.2.1, u.2.2.2.2)
abbrev x_met (u : XS) : Nat → Nat := u.1.2.2.2.2.1
abbrev xs_met (u : XS) (x : Nat → Nat) : XS := ((u.1.1, u.1.2.1, u.1.2.2.1, u.1.2.2.2.1, x, u.1.2.2.2.2.2.1, u.1.2.2.2.2.2.2.1, u.1.2.2.2.2.2.2.2), u.2.1, u.2.2.1, u.2.2.2.1, u.2.2.2.2)
abbrev x_len (u : XS) : Nat → Nat := u.1.2.2.2.2.2.1
abbrev xs_len (u : XS) (x : Nat → Nat) : XS := ((u.1.1, u.1.2.1, u.1.2.2.1, u.1.2.2.2.1, u.1.2.2.2.2.1, x, u.1.2.2.2.2.2.2.1, u.1.2.2.2.2.2.2.2), u.2.1, u.2.2.1, u.2.2.2.1, u.2.2.2.2)
abbrev x_lnk (u : XS) : Nat → Nat → Nat := u.1.2.2.2.2.2.2.1
abbrev xs_lnk (u : XS) (x : Nat → Nat → Nat) : XS := ((u.1.1, u.1.2.1, u.1.2.2.1, u.1.2.2.2.1, u.1.2.2.2.2.1, u.1.2.2.2.2.2.1, x, u.1.2.2.2.2.2.2.2), u.2.1, u.2.2.1, u.2.2.2.1, u.2.2.2.2)
abbrev x_cost (u : XS) : Nat → Nat := u.1.2.2.2.2.2.2.2
abbrev xs_cost (u : XS) (x : Nat → Nat) : XS := ((u.1.1, u.1.2.1, u.1.2.2.1, u.1.2.2.2.1, u.1.2.2.2.2.1, u.1.2.2.2.2.2.1, u.1.2.2.2.2.2.2.1, x), u.2.1, u.2.2.1, u.2.2.2.1, u.2.2.2.2)
abbrev x_dem (u : XS) : Nat → Int32 := u.2.1
abbrev xs_dem (u : XS) (x : Nat → Int32) : XS := (u.1, x, u.2.2.1, u.2.2.2.1, u.2.2.2.2)
abbrev x_load (u : XS) : Nat → Int32 := u.2.2.1.1
abbrev xs_load (u : XS) (x : Nat → Int32) : XS := (u.1, u.2.1, (x, u.2.2.1.2.1, u.2.2.1.2.2.1, u.2.2.1.2.2.2), u.2.2.2.1, u.2.2.2.2)
abbrev x_out (u : XS) : Nat → Int32 := u.2.2.1.2.1
abbrev xs_out (u : XS) (x : Nat → Int32) : XS := (u.1, u.2.1, (u.2.2.1.1, x, u.2.2.1.2.2.1, u.2.2.1.2.2.2), u.2.2.2.1, u.2.2.2.2)
abbrev x_inn (u : XS) : Nat → Int32 := u.2.2.1.2.2.1
abbrev xs_inn (u : XS) (x : Nat → Int32) : XS := (u.1, u.2.1, (u.2.2.1.1, u.2.2.1.2.1, x, u.2.2.1.2.2.2), u.2.2.2.1, u.2.2.2.2)
abbrev x_pv (u : XS) : Nat → Int32 := u.2.2.1.2.2.2
abbrev xs_pv (u : XS) (x : Nat → Int32) : XS := (u.1, u.2.1, (u.2.2.1.1, u.2.2.1.2.1, u.2.2.1.2.2.1, x), u.2.2.2.1, u.2.2.2.2)
abbrev x_rc (u : XS) : Nat := u.2.2.2.1.1
abbrev xs_rc (u : XS) (x : Nat) : XS := (u.1, u.2.1, u.2.2.1, (x, u.2.2.2.1.2.1, u.2.2.2.1.2.2.1, u.2.2.2.1.2.2.2.1, u.2.2.2.1.2.2.2.2.1, u.2.2.2.1.2.2.2.2.2.1, u.2.2.2.1.2.2.2.2.2.2.1, u.2.2.2.1.2.2.2.2.2.2.2), u.2.2.2.2)
abbrev x_kc (u : XS) : Nat := u.2.2.2.1.2.1
abbrev xs_kc (u : XS) (x : Nat) : XS := (u.1, u.2.1, u.2.2.1, (u.2.2.2.1.1, x, u.2.2.2.1.2.2.1, u.2.2.2.1.2.2.2.1, u.2.2.2.1.2.2.2.2.1, u.2.2.2.1.2.2.2.2.2.1, u.2.2.2.1.2.2.2.2.2.2.1, u.2.2.2.1.2.2.2.2.2.2.2), u.2.2.2.2)
abbrev x_pc (u : XS) : Nat := u.2.2.2.1.2.2.1
abbrev xs_pc (u : XS) (x : Nat) : XS := (u.1, u.2.1, u.2.2.1, (u.2.2.2.1.1, u.2.2.2.1.2.1, x, u.2.2.2.1.2.2.2.1, u.2.2.2.1.2.2.2.2.1, u.2.2.2.1.2.2.2.2.2.1, u.2.2.2.1.2.2.2.2.2.2.1, u.2.2.2.1.2.2.2.2.2.2.2), u.2.2.2.2)
abbrev x_piv (u : XS) : Int64 := u.2.2.2.1.2.2.2.1
abbrev xs_piv (u : XS) (x : Int64) : XS := (u.1, u.2.1, u.2.2.1, (u.2.2.2.1.1, u.2.2.2.1.2.1, u.2.2.2.1.2.2.1, x, u.2.2.2.1.2.2.2.2.1, u.2.2.2.1.2.2.2.2.2.1, u.2.2.2.1.2.2.2.2.2.2.1, u.2.2.2.1.2.2.2.2.2.2.2), u.2.2.2.2)
abbrev x_row (u : XS) : Nat → Nat → Int64 := u.2.2.2.1.2.2.2.2.1
abbrev xs_row (u : XS) (x : Nat → Nat → Int64) : XS := (u.1, u.2.1, u.2.2.1, (u.2.2.2.1.1, u.2.2.2.1.2.1, u.2.2.2.1.2.2.1, u.2.2.2.1.2.2.2.1, x, u.2.2.2.1.2.2.2.2.2.1, u.2.2.2.1.2.2.2.2.2.2.1, u.2.2.2.1.2.2.2.2.2.2.2), u.2.2.2.2)
abbrev x_rop (u : XS) : Nat → Option Nat := u.2.2.2.1.2.2.2.2.2.1
abbrev xs_rop (u : XS) (x : Nat → Option Nat) : XS := (u.1, u.2.1, u.2.2.1, (u.2.2.2.1.1, u.2.2.2.1.2.1, u.2.2.2.1.2.2.1, u.2.2.2.1.2.2.2.1, u.2.2.2.1.2.2.2.2.1, x, u.2.2.2.1.2.2.2.2.2.2.1, u.2.2.2.1.2.2.2.2.2.2.2), u.2.2.2.2)
abbrev x_por (u : XS) : Nat → Option Nat := u.2.2.2.1.2.2.2.2.2.2.1
abbrev xs_por (u : XS) (x : Nat → Option Nat) : XS := (u.1, u.2.1, u.2.2.1, (u.2.2.2.1.1, u.2.2.2.1.2.1, u.2.2.2.1.2.2.1, u.2.2.2.1.2.2.2.1, u.2.2.2.1.2.2.2.2.1, u.2.2.2.1.2.2.2.2.2.1, x, u.2.2.2.1.2.2.2.2.2.2.2), u.2.2.2.2)
abbrev x_kn (u : XS) : Nat → Bool := u.2.2.2.1.2.2.2.2.2.2.2
abbrev xs_kn (u : XS) (x : Nat → Bool) : XS := (u.1, u.2.1, u.2.2.1, (u.2.2.2.1.1, u.2.2.2.1.2.1, u.2.2.2.1.2.2.1, u.2.2.2.1.2.2.2.1, u.2.2.2.1.2.2.2.2.1, u.2.2.2.1.2.2.2.2.2.1, u.2.2.2.1.2.2.2.2.2.2.1, x), u.2.2.2.2)
abbrev x_val (u : XS) : Nat → Int64 := u.2.2.2.2.1
abbrev xs_val (u : XS) (x : Nat → Int64) : XS := (u.1, u.2.1, u.2.2.1, u.2.2.2.1, (x, u.2.2.2.2.2))
abbrev x_rem (u : XS) : Nat → Int64 := u.2.2.2.2.2
abbrev xs_rem (u : XS) (x : Nat → Int64) : XS := (u.1, u.2.1, u.2.2.1, u.2.2.2.1, (u.2.2.2.2.1, x))
abbrev MN : Type := (Nat) × (Nat) × (Nat → Nat) × (Nat → Nat) × (Nat → Nat)
abbrev MD : Type := (Nat → Int32)
abbrev MM : Type := (Nat → Int32) × (Nat → Int32) × (Nat → Int32) × (Nat → Bool) × (Nat → Int32)
abbrev MG : Type := (Nat → Int64)
abbrev MR : Type := (Nat → Nat) × (Nat → Nat)
abbrev ME : Type := (Nat → Nat → Int64) × (Nat) × (Nat) × (Nat → Option Nat)
abbrev MB : Type := (Nat → Bool) × (Nat → Int64)
abbrev MS : Type := MN × MD × MM × MG × MR × ME × MB
abbrev w_n (u : MS) : Nat := u.1.1
abbrev ws_n (u : MS) (x : Nat) : MS := ((x, u.1.2.1, u.1.2.2.1, u.1.2.2.2.1, u.1.2.2.2.2), u.2.1, u.2.2.1, u.2.2.2.1, u.2.2.2.2.1, u.2.2.2.2.2.1, u.2.2.2.2.2.2)
abbrev w_m (u : MS) : Nat := u.1.2.1
abbrev ws_m (u : MS) (x : Nat) : MS := ((u.1.1, x, u.1.2.2.1, u.1.2.2.2.1, u.1.2.2.2.2), u.2.1, u.2.2.1, u.2.2.2.1, u.2.2.2.2.1, u.2.2.2.2.2.1, u.2.2.2.2.2.2)
abbrev w_src (u : MS) : Nat → Nat := u.1.2.2.1
abbrev ws_src (u : MS) (x : Nat → Nat) : MS := ((u.1.1, u.1.2.1, x, u.1.2.2.2.1, u.1.2.2.2.2), u.2.1, u.2.2.1, u.2.2.2.1, u.2.2.2.2.1, u.2.2.2.2.2.1, u.2.2.2.2.2.2)
abbrev w_tgt (u : MS) : Nat → Nat := u.1.2.2.2.1
abbrev ws_tgt (u : MS) (x : Nat → Nat) : MS := ((u.1.1, u.1.2.1, u.1.2.2.1, x, u.1.2.2.2.2), u.2.1, u.2.2.1, u.2.2.2.1, u.2.2.2.2.1, u.2.2.2.2.2.1, u.2.2.2.2.2.2)
abbrev w_met (u : MS) : Nat → Nat := u.1.2.2.2.2
abbrev ws_met (u : MS) (x : Nat → Nat) : MS := ((u.1.1, u.1.2.1, u.1.2.2.1, u.1.2.2.2.1, x), u.2.1, u.2.2.1, u.2.2.2.1, u.2.2.2.2.1, u.2.2.2.2.2.1, u.2.2.2.2.2.2)
abbrev w_dem (u : MS) : Nat → Int32 := u.2.1
abbrev ws_dem (u : MS) (x : Nat → Int32) : MS := (u.1, x, u.2.2.1, u.2.2.2.1, u.2.2.2.2.1, u.2.2.2.2.2.1, u.2.2.2.2.2.2)
abbrev w_load (u : MS) : Nat → Int32 := u.2.2.1.1
abbrev ws_load (u : MS) (x : Nat → Int32) : MS := (u.1, u.2.1, (x, u.2.2.1.2.1, u.2.2.1.2.2.1, u.2.2.1.2.2.2.1, u.2.2.1.2.2.2.2), u.2.2.2.1, u.2.2.2.2.1, u.2.2.2.2.2.1, u.2.2.2.2.2.2)
abbrev w_out (u : MS) : Nat → Int32 := u.2.2.1.2.1
abbrev ws_out (u : MS) (x : Nat → Int32) : MS := (u.1, u.2.1, (u.2.2.1.1, x, u.2.2.1.2.2.1, u.2.2.1.2.2.2.1, u.2.2.1.2.2.2.2), u.2.2.2.1, u.2.2.2.2.1, u.2.2.2.2.2.1, u.2.2.2.2.2.2)
abbrev w_inn (u : MS) : Nat → Int32 := u.2.2.1.2.2.1
abbrev ws_inn (u : MS) (x : Nat → Int32) : MS := (u.1, u.2.1, (u.2.2.1.1, u.2.2.1.2.1, x, u.2.2.1.2.2.2.1, u.2.2.1.2.2.2.2), u.2.2.2.1, u.2.2.2.2.1, u.2.2.2.2.2.1, u.2.2.2.2.2.2)
abbrev w_ism (u : MS) : Nat → Bool := u.2.2.1.2.2.2.1
abbrev ws_ism (u : MS) (x : Nat → Bool) : MS := (u.1, u.2.1, (u.2.2.1.1, u.2.2.1.2.1, u.2.2.1.2.2.1, x, u.2.2.1.2.2.2.2), u.2.2.2.1, u.2.2.2.2.1, u.2.2.2.2.2.1, u.2.2.2.2.2.2)
abbrev w_mea (u : MS) : Nat → Int32 := u.2.2.1.2.2.2.2
abbrev ws_mea (u : MS) (x : Nat → Int32) : MS := (u.1, u.2.1, (u.2.2.1.1, u.2.2.1.2.1, u.2.2.1.2.2.1, u.2.2.1.2.2.2.1, x), u.2.2.2.1, u.2.2.2.2.1, u.2.2.2.2.2.1, u.2.2.2.2.2.2)
abbrev w_gue (u : MS) : Nat → Int64 := u.2.2.2.1
abbrev ws_gue (u : MS) (x : Nat → Int64) : MS := (u.1, u.2.1, u.2.2.1, x, u.2.2.2.2.1, u.2.2.2.2.2.1, u.2.2.2.2.2.2)
abbrev w_dist (u : MS) : Nat → Nat := u.2.2.2.2.1.1
abbrev ws_dist (u : MS) (x : Nat → Nat) : MS := (u.1, u.2.1, u.2.2.1, u.2.2.2.1, (x, u.2.2.2.2.1.2), u.2.2.2.2.2.1, u.2.2.2.2.2.2)
abbrev w_bits (u : MS) : Nat → Nat := u.2.2.2.2.1.2
abbrev ws_bits (u : MS) (x : Nat → Nat) : MS := (u.1, u.2.1, u.2.2.1, u.2.2.2.1, (u.2.2.2.2.1.1, x), u.2.2.2.2.2.1, u.2.2.2.2.2.2)
abbrev w_row (u : MS) : Nat → Nat → Int64 := u.2.2.2.2.2.1.1
abbrev ws_row (u : MS) (x : Nat → Nat → Int64) : MS := (u.1, u.2.1, u.2.2.1, u.2.2.2.1, u.2.2.2.2.1, (x, u.2.2.2.2.2.1.2.1, u.2.2.2.2.2.1.2.2.1, u.2.2.2.2.2.1.2.2.2), u.2.2.2.2.2.2)
abbrev w_rows (u : MS) : Nat := u.2.2.2.2.2.1.2.1
abbrev ws_rows (u : MS) (x : Nat) : MS := (u.1, u.2.1, u.2.2.1, u.2.2.2.1, u.2.2.2.2.1, (u.2.2.2.2.2.1.1, x, u.2.2.2.2.2.1.2.2.1, u.2.2.2.2.2.1.2.2.2), u.2.2.2.2.2.2)
abbrev w_kn (u : MS) : Nat := u.2.2.2.2.2.1.2.2.1
abbrev ws_kn (u : MS) (x : Nat) : MS := (u.1, u.2.1, u.2.2.1, u.2.2.2.1, u.2.2.2.2.1, (u.2.2.2.2.2.1.1, u.2.2.2.2.2.1.2.1, x, u.2.2.2.2.2.1.2.2.2), u.2.2.2.2.2.2)
abbrev w_pr (u : MS) : Nat → Option Nat := u.2.2.2.2.2.1.2.2.2
abbrev ws_pr (u : MS) (x : Nat → Option Nat) : MS := (u.1, u.2.1, u.2.2.1, u.2.2.2.1, u.2.2.2.2.1, (u.2.2.2.2.2.1.1, u.2.2.2.2.2.1.2.1, u.2.2.2.2.2.1.2.2.1, x), u.2.2.2.2.2.2)
abbrev w_was (u : MS) : Nat → Bool := u.2.2.2.2.2.2.1
abbrev ws_was (u : MS) (x : Nat → Bool) : MS := (u.1, u.2.1, u.2.2.1, u.2.2.2.1, u.2.2.2.2.1, u.2.2.2.2.2.1, (x, u.2.2.2.2.2.2.2))
abbrev w_bef (u : MS) : Nat → Int64 := u.2.2.2.2.2.2.2
abbrev ws_bef (u : MS) (x : Nat → Int64) : MS := (u.1, u.2.1, u.2.2.1, u.2.2.2.1, u.2.2.2.2.1, u.2.2.2.2.2.1, (u.2.2.2.2.2.2.1, x))
/-- where a world lies: the classes, the array classes, the addresses of its cells and of the rows of its grids -/
abbrev yG : Type := va_G × (Nat → ClassId) × (Nat → Nat) × (Nat → Nat) × (Nat → Nat)
abbrev yC (Y : yG) : Nat → ClassId := Y.2.1
abbrev yA (Y : yG) : Nat → Nat := Y.2.2.1
abbrev yR (Y : yG) : Nat → Nat := Y.2.2.2.1
abbrev yW (Y : yG) : Nat → Nat := Y.2.2.2.2
abbrev yT (Y : yG) : List (ClassId × FieldType) := [(yC Y 0, .int), (yC Y 1, .long), (yC Y 2, .boolean), (yC Y 3, .array .int), (yC Y 4, .array .long)]
def cX (Y : yG) (u : XS) : va_W :=
  (yA Y 0, .inr (4, [.ref (yA Y 1), .ref (yA Y 2), .ref (yA Y 3), .ref (yA Y 4), .ref (yA Y 5)])) ::
  (yA Y 1, .inr (3, [.int (nI (x_n u)), .int (nI (x_m u)), .ref (yA Y 6), .ref (yA Y 7), .ref (yA Y 8), .ref (yA Y 9), .ref (yA Y 10), .ref (yA Y 11)])) ::
  (yA Y 2, .inl (yC Y 0, 25, .inl (x_dem u))) ::
  (yA Y 3, .inr (2, [.ref (yA Y 12), .ref (yA Y 13), .ref (yA Y 14), .ref (yA Y 15)])) ::
  (yA Y 4, .inr (0, [.int (nI (x_rc u)), .int (nI (x_kc u)), .int (nI (x_pc u)), .long (x_piv u), .ref (yA Y 16), .ref (yA Y 17), .ref (yA Y 18), .ref (yA Y 19)])) ::
  (yA Y 5, .inr (1, [.ref (yA Y 20), .ref (yA Y 21)])) ::
  (yA Y 6, .inl (yC Y 0, 12, .inl (fun j => nI (x_src u j)))) ::
  (yA Y 7, .inl (yC Y 0, 12, .inl (fun j => nI (x_tgt u j)))) ::
  (yA Y 8, .inl (yC Y 0, 12, .inl (fun j => nI (x_met u j)))) ::
  (yA Y 9, .inl (yC Y 0, 25, .inl (fun j => nI (x_len u j)))) ::
  (yA Y 10, .inl (yC Y 3, 25, .inr (.inr (.inr (.inr (fun i => if i < 25 then some (yR Y i) else none)))))) ::
  (yA Y 11, .inl (yC Y 0, 5, .inl (fun j => nI (x_cost u j)))) ::
  (yA Y 12, .inl (yC Y 0, 12, .inl (x_load u))) ::
  (yA Y 13, .inl (yC Y 0, 5, .inl (x_out u))) ::
  (yA Y 14, .inl (yC Y 0, 5, .inl (x_inn u))) ::
  (yA Y 15, .inl (yC Y 0, 25, .inl (x_pv u))) ::
  (yA Y 16, .inl (yC Y 4, 12, .inr (.inr (.inr (.inr (fun i => if i < 12 then some (yW Y i) else none)))))) ::
  (yA Y 17, .inl (yC Y 0, 25, .inl (fun j => oI (-1) (x_rop u j)))) ::
  (yA Y 18, .inl (yC Y 0, 12, .inl (fun j => oI (-1) (x_por u j)))) ::
  (yA Y 19, .inl (yC Y 2, 25, .inl (fun j => bI (x_kn u j)))) ::
  (yA Y 20, .inl (yC Y 1, 25, .inr (.inl (x_val u)))) ::
  (yA Y 21, .inl (yC Y 1, 25, .inr (.inl (x_rem u)))) ::
  ((List.range 25).map (fun i => ((yR Y i, .inl (yC Y 0, 4, .inl (fun j => nI (x_lnk u i j)))) : Nat × va_E)) ++ (List.range 12).map (fun i => ((yW Y i, .inl (yC Y 1, 26, .inr (.inl (x_row u i)))) : Nat × va_E)))
def cM (Y : yG) (u : MS) : va_W :=
  (yA Y 0, .inr (5, [.int (nI (w_n u)), .int (nI (w_m u)), .ref (yA Y 1), .ref (yA Y 2), .ref (yA Y 3), .ref (yA Y 4), .ref (yA Y 5), .ref (yA Y 6), .ref (yA Y 7), .ref (yA Y 8), .ref (yA Y 9), .ref (yA Y 10), .ref (yA Y 11), .ref (yA Y 12), .ref (yA Y 13), .int (nI (w_rows u)), .int (nI (w_kn u)), .ref (yA Y 14), .ref (yA Y 15), .ref (yA Y 16)])) ::
  (yA Y 1, .inl (yC Y 0, 12, .inl (fun j => nI (w_src u j)))) ::
  (yA Y 2, .inl (yC Y 0, 12, .inl (fun j => nI (w_tgt u j)))) ::
  (yA Y 3, .inl (yC Y 0, 12, .inl (fun j => nI (w_met u j)))) ::
  (yA Y 4, .inl (yC Y 0, 25, .inl (w_dem u))) ::
  (yA Y 5, .inl (yC Y 0, 12, .inl (w_load u))) ::
  (yA Y 6, .inl (yC Y 0, 5, .inl (w_out u))) ::
  (yA Y 7, .inl (yC Y 0, 5, .inl (w_inn u))) ::
  (yA Y 8, .inl (yC Y 2, 25, .inl (fun j => bI (w_ism u j)))) ::
  (yA Y 9, .inl (yC Y 0, 25, .inl (w_mea u))) ::
  (yA Y 10, .inl (yC Y 1, 25, .inr (.inl (w_gue u)))) ::
  (yA Y 11, .inl (yC Y 0, 25, .inl (fun j => nI (w_dist u j)))) ::
  (yA Y 12, .inl (yC Y 0, 25, .inl (fun j => nI (w_bits u j)))) ::
  (yA Y 13, .inl (yC Y 1, 312, .inr (.inl (fun q => w_row u (q / 26) (q % 26))))) ::
  (yA Y 14, .inl (yC Y 0, 25, .inl (fun j => oI (-7) (w_pr u j)))) ::
  (yA Y 15, .inl (yC Y 2, 25, .inl (fun j => bI (w_was u j)))) ::
  (yA Y 16, .inl (yC Y 1, 25, .inr (.inl (w_bef u)))) ::
  ([])
abbrev nX : List vN := [(RX3, 71, yX4_slotOf, "TrafficMatrix"), (RX1, 53, yX4_slotOf, "TrafficMatrix")]
abbrev gX (Y : yG) : vG XS := (Y.1, yT Y, nX, cX Y)
abbrev gM (Y : yG) : vG MS := (Y.1, yT Y, [], cM Y)
theorem cX_geo (Y : yG) (u v : XS) : ((gX Y).2.2.2 v).map Prod.fst = ((gX Y).2.2.2 u).map Prod.fst := by
  show (cX Y v).map Prod.fst = (cX Y u).map Prod.fst
  simp [cX, List.map_append, List.map_map, Function.comp_def]
theorem cM_geo (Y : yG) (u v : MS) : ((gM Y).2.2.2 v).map Prod.fst = ((gM Y).2.2.2 u).map Prod.fst := rfl
theorem cX_lnk (Y : yG) (u : XS) {i : Nat} (hi : i < 25) : (cX Y u)[i + 22]? = some (yR Y i, .inl (yC Y 0, 4, .inl (fun j => nI (x_lnk u i j)))) := by
  show ((List.range 25).map _ ++ (List.range 12).map _)[i]? = _
  rw [List.getElem?_append_left (by simpa using hi)]
  simp [hi]
theorem cX_row (Y : yG) (u : XS) {i : Nat} (hi : i < 12) : (cX Y u)[i + 47]? = some (yW Y i, .inl (yC Y 1, 26, .inr (.inl (x_row u i)))) := by
  show ((List.range 25).map _ ++ (List.range 12).map _)[i + 25]? = _
  rw [List.getElem?_append_right (by simp)]
  simp [hi]
theorem set_map {α : Type} (f : Nat → α) (n i : Nat) (x : α) : ((List.range n).map f).set i x = (List.range n).map (va_up f i x) := by
  apply List.ext_getElem?
  intro j
  rw [List.getElem?_set, List.getElem?_map, List.getElem?_map]
  by_cases hj : j < n
  · rw [List.getElem?_range hj]
    by_cases e : i = j
    · subst e
      simp [va_up, hj]
    · have e2 : ¬ j = i := fun h => e h.symm
      simp [va_up, e, e2]
  · have h0 : (List.range n)[j]? = none := List.getElem?_eq_none (by simp; omega)
    rw [h0]
    by_cases e : i = j
    · subst e
      simp [hj]
    · simp [e]
theorem cX_lnkS (Y : yG) (u : XS) {i : Nat} (hi : i < 25) (j x : Nat) : (cX Y u).set (i + 22) (yR Y i, .inl (yC Y 0, 4, .inl (upd (fun j => nI (x_lnk u i j)) j (nI x)))) = cX Y (xs_lnk u (va_up (x_lnk u) i (va_up (x_lnk u i) j x))) := by
  unfold cX
  simp only [List.set_cons_succ]
  congr 22
  rw [List.set_append_left _ _ (by simpa using hi), set_map]
  congr 1
  apply List.map_congr_left
  intro t _
  show va_up _ i _ t = ((yR Y t, .inl (yC Y 0, 4, .inl (fun j1 => nI (va_up (x_lnk u) i (va_up (x_lnk u i) j x) t j1)))) : Nat × va_E)
  by_cases e : t = i
  · subst e
    simp only [va_up_self, up_nI]
  · simp only [va_up_ne _ _ e]
theorem cX_rowS (Y : yG) (u : XS) {i : Nat} (hi : i < 12) (j : Nat) (x : Int64) : (cX Y u).set (i + 47) (yW Y i, .inl (yC Y 1, 26, .inr (.inl (vp_updL (x_row u i) j x)))) = cX Y (xs_row u (va_up (x_row u) i (va_up (x_row u i) j x))) := by
  unfold cX
  rw [show i + 47 = (i + 25) + 22 from rfl]
  simp only [List.set_cons_succ]
  congr 22
  rw [List.set_append_right _ _ (by simp)]
  simp only [List.length_map, List.length_range, Nat.add_sub_cancel]
  rw [set_map]
  congr 1
  apply List.map_congr_left
  intro t _
  show va_up _ i _ t = ((yW Y t, .inl (yC Y 1, 26, .inr (.inl (va_up (x_row u) i (va_up (x_row u i) j x) t)))) : Nat × va_E)
  by_cases e : t = i
  · subst e
    simp only [va_up_self, up_l]
  · simp only [va_up_ne _ _ e]

section WX
variable {K : vK} {Y : yG} {cc : ByteArray} {nL : Nat} {own : String} {Ts : List Cond} {rm : Room} {u : XS} {lv : List (Nat × Value)} {st : List Value} {pc : Nat}
theorem gX_network (n : Nat) (hE : eV K (gX Y) cc nL own Ts rm) {index : Nat} (hin : ∀ w ∈ u_ws RX4 TX4 5, w ∈ Ts) (hlink : Cond.fieldLink own index "TrafficMatrix" "network" "LTrafficMatrix$Network;" ∈ Ts) (hd : decode cc pc = .ok (.getfield index, 3)) (hn : pc + 3 = n) (k : vV K (gX Y) u lv (.ref (yA Y 1) :: st) n) : vV K (gX Y) u lv (.ref (yA Y 0) :: st) pc := v_get n hE hin 0 rfl rfl 0 (by decide) hlink rfl rfl hd hn k
theorem gX_demands (n : Nat) (hE : eV K (gX Y) cc nL own Ts rm) {index : Nat} (hin : ∀ w ∈ u_ws RX4 TX4 5, w ∈ Ts) (hlink : Cond.fieldLink own index "TrafficMatrix" "demands" "[I" ∈ Ts) (hd : decode cc pc = .ok (.getfield index, 3)) (hn : pc + 3 = n) (k : vV K (gX Y) u lv (.ref (yA Y 2) :: st) n) : vV K (gX Y) u lv (.ref (yA Y 0) :: st) pc := v_get n hE hin 0 rfl rfl 1 (by decide) hlink rfl rfl hd hn k
theorem gX_measurements (n : Nat) (hE : eV K (gX Y) cc nL own Ts rm) {index : Nat} (hin : ∀ w ∈ u_ws RX4 TX4 5, w ∈ Ts) (hlink : Cond.fieldLink own index "TrafficMatrix" "measurements" "LTrafficMatrix$Measurements;" ∈ Ts) (hd : decode cc pc = .ok (.getfield index, 3)) (hn : pc + 3 = n) (k : vV K (gX Y) u lv (.ref (yA Y 3) :: st) n) : vV K (gX Y) u lv (.ref (yA Y 0) :: st) pc := v_get n hE hin 0 rfl rfl 2 (by decide) hlink rfl rfl hd hn k
theorem gX_equations (n : Nat) (hE : eV K (gX Y) cc nL own Ts rm) {index : Nat} (hin : ∀ w ∈ u_ws RX4 TX4 5, w ∈ Ts) (hlink : Cond.fieldLink own index "TrafficMatrix" "equations" "LTrafficMatrix$Equations;" ∈ Ts) (hd : decode cc pc = .ok (.getfield index, 3)) (hn : pc + 3 = n) (k : vV K (gX Y) u lv (.ref (yA Y 4) :: st) n) : vV K (gX Y) u lv (.ref (yA Y 0) :: st) pc := v_get n hE hin 0 rfl rfl 3 (by decide) hlink rfl rfl hd hn k
theorem gX_estimates (n : Nat) (hE : eV K (gX Y) cc nL own Ts rm) {index : Nat} (hin : ∀ w ∈ u_ws RX4 TX4 5, w ∈ Ts) (hlink : Cond.fieldLink own index "TrafficMatrix" "estimates" "LTrafficMatrix$Estimates;" ∈ Ts) (hd : decode cc pc = .ok (.getfield index, 3)) (hn : pc + 3 = n) (k : vV K (gX Y) u lv (.ref (yA Y 5) :: st) n) : vV K (gX Y) u lv (.ref (yA Y 0) :: st) pc := v_get n hE hin 0 rfl rfl 4 (by decide) hlink rfl rfl hd hn k
theorem gX_nodeCount (n : Nat) (hE : eV K (gX Y) cc nL own Ts rm) {index : Nat} (hin : ∀ w ∈ u_ws RX3 TX3 8, w ∈ Ts) (hlink : Cond.fieldLink own index "TrafficMatrix$Network" "nodeCount" "I" ∈ Ts) (hd : decode cc pc = .ok (.getfield index, 3)) (hn : pc + 3 = n) (k : vV K (gX Y) u lv (.int (nI (x_n u)) :: st) n) : vV K (gX Y) u lv (.ref (yA Y 1) :: st) pc := v_get n hE hin 1 rfl rfl 0 (by decide) hlink rfl rfl hd hn k
theorem pX_nodeCount (n : Nat) (hE : eV K (gX Y) cc nL own Ts rm) {index : Nat} {x : Nat} (hin : ∀ w ∈ u_ws RX3 TX3 8, w ∈ Ts) (hlink : Cond.fieldLink own index "TrafficMatrix$Network" "nodeCount" "I" ∈ Ts) (hd : decode cc pc = .ok (.putfield index, 3)) (hn : pc + 3 = n) (k : vV K (gX Y) (xs_n u x) lv st n) : vV K (gX Y) u lv (.int (nI x) :: .ref (yA Y 1) :: st) pc := v_put n hE hin tyX3 tyX3_ok nmX3 1 rfl rfl 0 (by decide) hlink rfl rfl (ty := .int) (by decide +kernel) rfl rfl (Nat.le_of_ble_eq_true rfl) rfl hd hn k
theorem gX_linkCount (n : Nat) (hE : eV K (gX Y) cc nL own Ts rm) {index : Nat} (hin : ∀ w ∈ u_ws RX3 TX3 8, w ∈ Ts) (hlink : Cond.fieldLink own index "TrafficMatrix$Network" "linkCount" "I" ∈ Ts) (hd : decode cc pc = .ok (.getfield index, 3)) (hn : pc + 3 = n) (k : vV K (gX Y) u lv (.int (nI (x_m u)) :: st) n) : vV K (gX Y) u lv (.ref (yA Y 1) :: st) pc := v_get n hE hin 1 rfl rfl 1 (by decide) hlink rfl rfl hd hn k
theorem pX_linkCount (n : Nat) (hE : eV K (gX Y) cc nL own Ts rm) {index : Nat} {x : Nat} (hin : ∀ w ∈ u_ws RX3 TX3 8, w ∈ Ts) (hlink : Cond.fieldLink own index "TrafficMatrix$Network" "linkCount" "I" ∈ Ts) (hd : decode cc pc = .ok (.putfield index, 3)) (hn : pc + 3 = n) (k : vV K (gX Y) (xs_m u x) lv st n) : vV K (gX Y) u lv (.int (nI x) :: .ref (yA Y 1) :: st) pc := v_put n hE hin tyX3 tyX3_ok nmX3 1 rfl rfl 1 (by decide) hlink rfl rfl (ty := .int) (by decide +kernel) rfl rfl (Nat.le_of_ble_eq_true rfl) rfl hd hn k
theorem gX_sources (n : Nat) (hE : eV K (gX Y) cc nL own Ts rm) {index : Nat} (hin : ∀ w ∈ u_ws RX3 TX3 8, w ∈ Ts) (hlink : Cond.fieldLink own index "TrafficMatrix$Network" "sources" "[I" ∈ Ts) (hd : decode cc pc = .ok (.getfield index, 3)) (hn : pc + 3 = n) (k : vV K (gX Y) u lv (.ref (yA Y 6) :: st) n) : vV K (gX Y) u lv (.ref (yA Y 1) :: st) pc := v_get n hE hin 1 rfl rfl 2 (by decide) hlink rfl rfl hd hn k
theorem gX_targets (n : Nat) (hE : eV K (gX Y) cc nL own Ts rm) {index : Nat} (hin : ∀ w ∈ u_ws RX3 TX3 8, w ∈ Ts) (hlink : Cond.fieldLink own index "TrafficMatrix$Network" "targets" "[I" ∈ Ts) (hd : decode cc pc = .ok (.getfield index, 3)) (hn : pc + 3 = n) (k : vV K (gX Y) u lv (.ref (yA Y 7) :: st) n) : vV K (gX Y) u lv (.ref (yA Y 1) :: st) pc := v_get n hE hin 1 rfl rfl 3 (by decide) hlink rfl rfl hd hn k
theorem gX_metrics (n : Nat) (hE : eV K (gX Y) cc nL own Ts rm) {index : Nat} (hin : ∀ w ∈ u_ws RX3 TX3 8, w ∈ Ts) (hlink : Cond.fieldLink own index "TrafficMatrix$Network" "metrics" "[I" ∈ Ts) (hd : decode cc pc = .ok (.getfield index, 3)) (hn : pc + 3 = n) (k : vV K (gX Y) u lv (.ref (yA Y 8) :: st) n) : vV K (gX Y) u lv (.ref (yA Y 1) :: st) pc := v_get n hE hin 1 rfl rfl 4 (by decide) hlink rfl rfl hd hn k
theorem gX_routeLengths (n : Nat) (hE : eV K (gX Y) cc nL own Ts rm) {index : Nat} (hin : ∀ w ∈ u_ws RX3 TX3 8, w ∈ Ts) (hlink : Cond.fieldLink own index "TrafficMatrix$Network" "routeLengths" "[I" ∈ Ts) (hd : decode cc pc = .ok (.getfield index, 3)) (hn : pc + 3 = n) (k : vV K (gX Y) u lv (.ref (yA Y 9) :: st) n) : vV K (gX Y) u lv (.ref (yA Y 1) :: st) pc := v_get n hE hin 1 rfl rfl 5 (by decide) hlink rfl rfl hd hn k
theorem gX_routeLinks (n : Nat) (hE : eV K (gX Y) cc nL own Ts rm) {index : Nat} (hin : ∀ w ∈ u_ws RX3 TX3 8, w ∈ Ts) (hlink : Cond.fieldLink own index "TrafficMatrix$Network" "routeLinks" "[[I" ∈ Ts) (hd : decode cc pc = .ok (.getfield index, 3)) (hn : pc + 3 = n) (k : vV K (gX Y) u lv (.ref (yA Y 10) :: st) n) : vV K (gX Y) u lv (.ref (yA Y 1) :: st) pc := v_get n hE hin 1 rfl rfl 6 (by decide) hlink rfl rfl hd hn k
theorem gX_costs (n : Nat) (hE : eV K (gX Y) cc nL own Ts rm) {index : Nat} (hin : ∀ w ∈ u_ws RX3 TX3 8, w ∈ Ts) (hlink : Cond.fieldLink own index "TrafficMatrix$Network" "costs" "[I" ∈ Ts) (hd : decode cc pc = .ok (.getfield index, 3)) (hn : pc + 3 = n) (k : vV K (gX Y) u lv (.ref (yA Y 11) :: st) n) : vV K (gX Y) u lv (.ref (yA Y 1) :: st) pc := v_get n hE hin 1 rfl rfl 7 (by decide) hlink rfl rfl hd hn k
theorem gX_loads (n : Nat) (hE : eV K (gX Y) cc nL own Ts rm) {index : Nat} (hin : ∀ w ∈ u_ws RX2 TX2 4, w ∈ Ts) (hlink : Cond.fieldLink own index "TrafficMatrix$Measurements" "loads" "[I" ∈ Ts) (hd : decode cc pc = .ok (.getfield index, 3)) (hn : pc + 3 = n) (k : vV K (gX Y) u lv (.ref (yA Y 12) :: st) n) : vV K (gX Y) u lv (.ref (yA Y 3) :: st) pc := v_get n hE hin 3 rfl rfl 0 (by decide) hlink rfl rfl hd hn k
theorem gX_outTotals (n : Nat) (hE : eV K (gX Y) cc nL own Ts rm) {index : Nat} (hin : ∀ w ∈ u_ws RX2 TX2 4, w ∈ Ts) (hlink : Cond.fieldLink own index "TrafficMatrix$Measurements" "outTotals" "[I" ∈ Ts) (hd : decode cc pc = .ok (.getfield index, 3)) (hn : pc + 3 = n) (k : vV K (gX Y) u lv (.ref (yA Y 13) :: st) n) : vV K (gX Y) u lv (.ref (yA Y 3) :: st) pc := v_get n hE hin 3 rfl rfl 1 (by decide) hlink rfl rfl hd hn k
theorem gX_inTotals (n : Nat) (hE : eV K (gX Y) cc nL own Ts rm) {index : Nat} (hin : ∀ w ∈ u_ws RX2 TX2 4, w ∈ Ts) (hlink : Cond.fieldLink own index "TrafficMatrix$Measurements" "inTotals" "[I" ∈ Ts) (hd : decode cc pc = .ok (.getfield index, 3)) (hn : pc + 3 = n) (k : vV K (gX Y) u lv (.ref (yA Y 14) :: st) n) : vV K (gX Y) u lv (.ref (yA Y 3) :: st) pc := v_get n hE hin 3 rfl rfl 2 (by decide) hlink rfl rfl hd hn k
theorem gX_pairValues (n : Nat) (hE : eV K (gX Y) cc nL own Ts rm) {index : Nat} (hin : ∀ w ∈ u_ws RX2 TX2 4, w ∈ Ts) (hlink : Cond.fieldLink own index "TrafficMatrix$Measurements" "pairValues" "[I" ∈ Ts) (hd : decode cc pc = .ok (.getfield index, 3)) (hn : pc + 3 = n) (k : vV K (gX Y) u lv (.ref (yA Y 15) :: st) n) : vV K (gX Y) u lv (.ref (yA Y 3) :: st) pc := v_get n hE hin 3 rfl rfl 3 (by decide) hlink rfl rfl hd hn k
theorem gX_rowCount (n : Nat) (hE : eV K (gX Y) cc nL own Ts rm) {index : Nat} (hin : ∀ w ∈ u_ws RX0 TX0 8, w ∈ Ts) (hlink : Cond.fieldLink own index "TrafficMatrix$Equations" "rowCount" "I" ∈ Ts) (hd : decode cc pc = .ok (.getfield index, 3)) (hn : pc + 3 = n) (k : vV K (gX Y) u lv (.int (nI (x_rc u)) :: st) n) : vV K (gX Y) u lv (.ref (yA Y 4) :: st) pc := v_get n hE hin 4 rfl rfl 0 (by decide) hlink rfl rfl hd hn k
theorem pX_rowCount (n : Nat) (hE : eV K (gX Y) cc nL own Ts rm) {index : Nat} {x : Nat} (hin : ∀ w ∈ u_ws RX0 TX0 8, w ∈ Ts) (hlink : Cond.fieldLink own index "TrafficMatrix$Equations" "rowCount" "I" ∈ Ts) (hd : decode cc pc = .ok (.putfield index, 3)) (hn : pc + 3 = n) (k : vV K (gX Y) (xs_rc u x) lv st n) : vV K (gX Y) u lv (.int (nI x) :: .ref (yA Y 4) :: st) pc := v_put n hE hin tyX0 tyX0_ok nmX0 4 rfl rfl 0 (by decide) hlink rfl rfl (ty := .int) (by decide +kernel) rfl rfl (Nat.le_of_ble_eq_true rfl) rfl hd hn k
theorem gX_knownCount (n : Nat) (hE : eV K (gX Y) cc nL own Ts rm) {index : Nat} (hin : ∀ w ∈ u_ws RX0 TX0 8, w ∈ Ts) (hlink : Cond.fieldLink own index "TrafficMatrix$Equations" "knownCount" "I" ∈ Ts) (hd : decode cc pc = .ok (.getfield index, 3)) (hn : pc + 3 = n) (k : vV K (gX Y) u lv (.int (nI (x_kc u)) :: st) n) : vV K (gX Y) u lv (.ref (yA Y 4) :: st) pc := v_get n hE hin 4 rfl rfl 1 (by decide) hlink rfl rfl hd hn k
theorem pX_knownCount (n : Nat) (hE : eV K (gX Y) cc nL own Ts rm) {index : Nat} {x : Nat} (hin : ∀ w ∈ u_ws RX0 TX0 8, w ∈ Ts) (hlink : Cond.fieldLink own index "TrafficMatrix$Equations" "knownCount" "I" ∈ Ts) (hd : decode cc pc = .ok (.putfield index, 3)) (hn : pc + 3 = n) (k : vV K (gX Y) (xs_kc u x) lv st n) : vV K (gX Y) u lv (.int (nI x) :: .ref (yA Y 4) :: st) pc := v_put n hE hin tyX0 tyX0_ok nmX0 4 rfl rfl 1 (by decide) hlink rfl rfl (ty := .int) (by decide +kernel) rfl rfl (Nat.le_of_ble_eq_true rfl) rfl hd hn k
theorem gX_pivotCount (n : Nat) (hE : eV K (gX Y) cc nL own Ts rm) {index : Nat} (hin : ∀ w ∈ u_ws RX0 TX0 8, w ∈ Ts) (hlink : Cond.fieldLink own index "TrafficMatrix$Equations" "pivotCount" "I" ∈ Ts) (hd : decode cc pc = .ok (.getfield index, 3)) (hn : pc + 3 = n) (k : vV K (gX Y) u lv (.int (nI (x_pc u)) :: st) n) : vV K (gX Y) u lv (.ref (yA Y 4) :: st) pc := v_get n hE hin 4 rfl rfl 2 (by decide) hlink rfl rfl hd hn k
theorem pX_pivotCount (n : Nat) (hE : eV K (gX Y) cc nL own Ts rm) {index : Nat} {x : Nat} (hin : ∀ w ∈ u_ws RX0 TX0 8, w ∈ Ts) (hlink : Cond.fieldLink own index "TrafficMatrix$Equations" "pivotCount" "I" ∈ Ts) (hd : decode cc pc = .ok (.putfield index, 3)) (hn : pc + 3 = n) (k : vV K (gX Y) (xs_pc u x) lv st n) : vV K (gX Y) u lv (.int (nI x) :: .ref (yA Y 4) :: st) pc := v_put n hE hin tyX0 tyX0_ok nmX0 4 rfl rfl 2 (by decide) hlink rfl rfl (ty := .int) (by decide +kernel) rfl rfl (Nat.le_of_ble_eq_true rfl) rfl hd hn k
theorem gX_pivot (n : Nat) (hE : eV K (gX Y) cc nL own Ts rm) {index : Nat} (hin : ∀ w ∈ u_ws RX0 TX0 8, w ∈ Ts) (hlink : Cond.fieldLink own index "TrafficMatrix$Equations" "pivot" "J" ∈ Ts) (hd : decode cc pc = .ok (.getfield index, 3)) (hn : pc + 3 = n) (k : vV K (gX Y) u lv (.long (x_piv u) :: st) n) : vV K (gX Y) u lv (.ref (yA Y 4) :: st) pc := v_get n hE hin 4 rfl rfl 3 (by decide) hlink rfl rfl hd hn k
theorem pX_pivot (n : Nat) (hE : eV K (gX Y) cc nL own Ts rm) {index : Nat} {x : Int64} (hin : ∀ w ∈ u_ws RX0 TX0 8, w ∈ Ts) (hlink : Cond.fieldLink own index "TrafficMatrix$Equations" "pivot" "J" ∈ Ts) (hd : decode cc pc = .ok (.putfield index, 3)) (hn : pc + 3 = n) (k : vV K (gX Y) (xs_piv u x) lv st n) : vV K (gX Y) u lv (.long x :: .ref (yA Y 4) :: st) pc := v_put n hE hin tyX0 tyX0_ok nmX0 4 rfl rfl 3 (by decide) hlink rfl rfl (ty := .long) (by decide +kernel) rfl rfl (Nat.le_of_ble_eq_true rfl) rfl hd hn k
theorem gX_rows (n : Nat) (hE : eV K (gX Y) cc nL own Ts rm) {index : Nat} (hin : ∀ w ∈ u_ws RX0 TX0 8, w ∈ Ts) (hlink : Cond.fieldLink own index "TrafficMatrix$Equations" "rows" "[[J" ∈ Ts) (hd : decode cc pc = .ok (.getfield index, 3)) (hn : pc + 3 = n) (k : vV K (gX Y) u lv (.ref (yA Y 16) :: st) n) : vV K (gX Y) u lv (.ref (yA Y 4) :: st) pc := v_get n hE hin 4 rfl rfl 4 (by decide) hlink rfl rfl hd hn k
theorem gX_rowOfPivot (n : Nat) (hE : eV K (gX Y) cc nL own Ts rm) {index : Nat} (hin : ∀ w ∈ u_ws RX0 TX0 8, w ∈ Ts) (hlink : Cond.fieldLink own index "TrafficMatrix$Equations" "rowOfPivot" "[I" ∈ Ts) (hd : decode cc pc = .ok (.getfield index, 3)) (hn : pc + 3 = n) (k : vV K (gX Y) u lv (.ref (yA Y 17) :: st) n) : vV K (gX Y) u lv (.ref (yA Y 4) :: st) pc := v_get n hE hin 4 rfl rfl 5 (by decide) hlink rfl rfl hd hn k
theorem gX_pivotOfRow (n : Nat) (hE : eV K (gX Y) cc nL own Ts rm) {index : Nat} (hin : ∀ w ∈ u_ws RX0 TX0 8, w ∈ Ts) (hlink : Cond.fieldLink own index "TrafficMatrix$Equations" "pivotOfRow" "[I" ∈ Ts) (hd : decode cc pc = .ok (.getfield index, 3)) (hn : pc + 3 = n) (k : vV K (gX Y) u lv (.ref (yA Y 18) :: st) n) : vV K (gX Y) u lv (.ref (yA Y 4) :: st) pc := v_get n hE hin 4 rfl rfl 6 (by decide) hlink rfl rfl hd hn k
theorem gX_known (n : Nat) (hE : eV K (gX Y) cc nL own Ts rm) {index : Nat} (hin : ∀ w ∈ u_ws RX0 TX0 8, w ∈ Ts) (hlink : Cond.fieldLink own index "TrafficMatrix$Equations" "known" "[Z" ∈ Ts) (hd : decode cc pc = .ok (.getfield index, 3)) (hn : pc + 3 = n) (k : vV K (gX Y) u lv (.ref (yA Y 19) :: st) n) : vV K (gX Y) u lv (.ref (yA Y 4) :: st) pc := v_get n hE hin 4 rfl rfl 7 (by decide) hlink rfl rfl hd hn k
theorem gX_values (n : Nat) (hE : eV K (gX Y) cc nL own Ts rm) {index : Nat} (hin : ∀ w ∈ u_ws RX1 TX1 2, w ∈ Ts) (hlink : Cond.fieldLink own index "TrafficMatrix$Estimates" "values" "[J" ∈ Ts) (hd : decode cc pc = .ok (.getfield index, 3)) (hn : pc + 3 = n) (k : vV K (gX Y) u lv (.ref (yA Y 20) :: st) n) : vV K (gX Y) u lv (.ref (yA Y 5) :: st) pc := v_get n hE hin 5 rfl rfl 0 (by decide) hlink rfl rfl hd hn k
theorem gX_remembered (n : Nat) (hE : eV K (gX Y) cc nL own Ts rm) {index : Nat} (hin : ∀ w ∈ u_ws RX1 TX1 2, w ∈ Ts) (hlink : Cond.fieldLink own index "TrafficMatrix$Estimates" "remembered" "[J" ∈ Ts) (hd : decode cc pc = .ok (.getfield index, 3)) (hn : pc + 3 = n) (k : vV K (gX Y) u lv (.ref (yA Y 21) :: st) n) : vV K (gX Y) u lv (.ref (yA Y 5) :: st) pc := v_get n hE hin 5 rfl rfl 1 (by decide) hlink rfl rfl hd hn k
theorem lX_dem (n : Nat) (hE : eV K (gX Y) cc nL own Ts rm) {i : Nat} (hi : i < 25) (hd : decode cc pc = .ok (.iaload, 1)) (hn : pc + 1 = n) (k : vV K (gX Y) u lv (.int (x_dem u i) :: st) n) : vV K (gX Y) u lv (.int (nI i) :: .ref (yA Y 2) :: st) pc := v_iald n hE 2 0 rfl rfl hi (by decide) hd hn k
theorem sX_dem (n : Nat) (hE : eV K (gX Y) cc nL own Ts rm) {i : Nat} {x : Int32} (hi : i < 25) (hd : decode cc pc = .ok (.iastore, 1)) (hn : pc + 1 = n) (k : vV K (gX Y) (xs_dem u (va_up (x_dem u) i x)) lv st n) : vV K (gX Y) u lv (.int x :: .int (nI i) :: .ref (yA Y 2) :: st) pc := v_iast n hE 2 0 rfl rfl hi (by decide) (by rw [up_i (x_dem u) i x]; rfl) hd hn k
theorem lX_src (n : Nat) (hE : eV K (gX Y) cc nL own Ts rm) {i : Nat} (hi : i < 12) (hd : decode cc pc = .ok (.iaload, 1)) (hn : pc + 1 = n) (k : vV K (gX Y) u lv (.int (nI (x_src u i)) :: st) n) : vV K (gX Y) u lv (.int (nI i) :: .ref (yA Y 6) :: st) pc := v_iald n hE 6 0 rfl rfl hi (by decide) hd hn k
theorem sX_src (n : Nat) (hE : eV K (gX Y) cc nL own Ts rm) {i : Nat} {x : Nat} (hi : i < 12) (hd : decode cc pc = .ok (.iastore, 1)) (hn : pc + 1 = n) (k : vV K (gX Y) (xs_src u (va_up (x_src u) i x)) lv st n) : vV K (gX Y) u lv (.int (nI x) :: .int (nI i) :: .ref (yA Y 6) :: st) pc := v_iast n hE 6 0 rfl rfl hi (by decide) (by rw [up_nI (x_src u) i x]; rfl) hd hn k
theorem lX_tgt (n : Nat) (hE : eV K (gX Y) cc nL own Ts rm) {i : Nat} (hi : i < 12) (hd : decode cc pc = .ok (.iaload, 1)) (hn : pc + 1 = n) (k : vV K (gX Y) u lv (.int (nI (x_tgt u i)) :: st) n) : vV K (gX Y) u lv (.int (nI i) :: .ref (yA Y 7) :: st) pc := v_iald n hE 7 0 rfl rfl hi (by decide) hd hn k
theorem sX_tgt (n : Nat) (hE : eV K (gX Y) cc nL own Ts rm) {i : Nat} {x : Nat} (hi : i < 12) (hd : decode cc pc = .ok (.iastore, 1)) (hn : pc + 1 = n) (k : vV K (gX Y) (xs_tgt u (va_up (x_tgt u) i x)) lv st n) : vV K (gX Y) u lv (.int (nI x) :: .int (nI i) :: .ref (yA Y 7) :: st) pc := v_iast n hE 7 0 rfl rfl hi (by decide) (by rw [up_nI (x_tgt u) i x]; rfl) hd hn k
theorem lX_met (n : Nat) (hE : eV K (gX Y) cc nL own Ts rm) {i : Nat} (hi : i < 12) (hd : decode cc pc = .ok (.iaload, 1)) (hn : pc + 1 = n) (k : vV K (gX Y) u lv (.int (nI (x_met u i)) :: st) n) : vV K (gX Y) u lv (.int (nI i) :: .ref (yA Y 8) :: st) pc := v_iald n hE 8 0 rfl rfl hi (by decide) hd hn k
theorem sX_met (n : Nat) (hE : eV K (gX Y) cc nL own Ts rm) {i : Nat} {x : Nat} (hi : i < 12) (hd : decode cc pc = .ok (.iastore, 1)) (hn : pc + 1 = n) (k : vV K (gX Y) (xs_met u (va_up (x_met u) i x)) lv st n) : vV K (gX Y) u lv (.int (nI x) :: .int (nI i) :: .ref (yA Y 8) :: st) pc := v_iast n hE 8 0 rfl rfl hi (by decide) (by rw [up_nI (x_met u) i x]; rfl) hd hn k
theorem lX_len (n : Nat) (hE : eV K (gX Y) cc nL own Ts rm) {i : Nat} (hi : i < 25) (hd : decode cc pc = .ok (.iaload, 1)) (hn : pc + 1 = n) (k : vV K (gX Y) u lv (.int (nI (x_len u i)) :: st) n) : vV K (gX Y) u lv (.int (nI i) :: .ref (yA Y 9) :: st) pc := v_iald n hE 9 0 rfl rfl hi (by decide) hd hn k
theorem sX_len (n : Nat) (hE : eV K (gX Y) cc nL own Ts rm) {i : Nat} {x : Nat} (hi : i < 25) (hd : decode cc pc = .ok (.iastore, 1)) (hn : pc + 1 = n) (k : vV K (gX Y) (xs_len u (va_up (x_len u) i x)) lv st n) : vV K (gX Y) u lv (.int (nI x) :: .int (nI i) :: .ref (yA Y 9) :: st) pc := v_iast n hE 9 0 rfl rfl hi (by decide) (by rw [up_nI (x_len u) i x]; rfl) hd hn k
theorem lX_cost (n : Nat) (hE : eV K (gX Y) cc nL own Ts rm) {i : Nat} (hi : i < 5) (hd : decode cc pc = .ok (.iaload, 1)) (hn : pc + 1 = n) (k : vV K (gX Y) u lv (.int (nI (x_cost u i)) :: st) n) : vV K (gX Y) u lv (.int (nI i) :: .ref (yA Y 11) :: st) pc := v_iald n hE 11 0 rfl rfl hi (by decide) hd hn k
theorem sX_cost (n : Nat) (hE : eV K (gX Y) cc nL own Ts rm) {i : Nat} {x : Nat} (hi : i < 5) (hd : decode cc pc = .ok (.iastore, 1)) (hn : pc + 1 = n) (k : vV K (gX Y) (xs_cost u (va_up (x_cost u) i x)) lv st n) : vV K (gX Y) u lv (.int (nI x) :: .int (nI i) :: .ref (yA Y 11) :: st) pc := v_iast n hE 11 0 rfl rfl hi (by decide) (by rw [up_nI (x_cost u) i x]; rfl) hd hn k
theorem lX_load (n : Nat) (hE : eV K (gX Y) cc nL own Ts rm) {i : Nat} (hi : i < 12) (hd : decode cc pc = .ok (.iaload, 1)) (hn : pc + 1 = n) (k : vV K (gX Y) u lv (.int (x_load u i) :: st) n) : vV K (gX Y) u lv (.int (nI i) :: .ref (yA Y 12) :: st) pc := v_iald n hE 12 0 rfl rfl hi (by decide) hd hn k
theorem sX_load (n : Nat) (hE : eV K (gX Y) cc nL own Ts rm) {i : Nat} {x : Int32} (hi : i < 12) (hd : decode cc pc = .ok (.iastore, 1)) (hn : pc + 1 = n) (k : vV K (gX Y) (xs_load u (va_up (x_load u) i x)) lv st n) : vV K (gX Y) u lv (.int x :: .int (nI i) :: .ref (yA Y 12) :: st) pc := v_iast n hE 12 0 rfl rfl hi (by decide) (by rw [up_i (x_load u) i x]; rfl) hd hn k
theorem lX_out (n : Nat) (hE : eV K (gX Y) cc nL own Ts rm) {i : Nat} (hi : i < 5) (hd : decode cc pc = .ok (.iaload, 1)) (hn : pc + 1 = n) (k : vV K (gX Y) u lv (.int (x_out u i) :: st) n) : vV K (gX Y) u lv (.int (nI i) :: .ref (yA Y 13) :: st) pc := v_iald n hE 13 0 rfl rfl hi (by decide) hd hn k
theorem sX_out (n : Nat) (hE : eV K (gX Y) cc nL own Ts rm) {i : Nat} {x : Int32} (hi : i < 5) (hd : decode cc pc = .ok (.iastore, 1)) (hn : pc + 1 = n) (k : vV K (gX Y) (xs_out u (va_up (x_out u) i x)) lv st n) : vV K (gX Y) u lv (.int x :: .int (nI i) :: .ref (yA Y 13) :: st) pc := v_iast n hE 13 0 rfl rfl hi (by decide) (by rw [up_i (x_out u) i x]; rfl) hd hn k
theorem lX_inn (n : Nat) (hE : eV K (gX Y) cc nL own Ts rm) {i : Nat} (hi : i < 5) (hd : decode cc pc = .ok (.iaload, 1)) (hn : pc + 1 = n) (k : vV K (gX Y) u lv (.int (x_inn u i) :: st) n) : vV K (gX Y) u lv (.int (nI i) :: .ref (yA Y 14) :: st) pc := v_iald n hE 14 0 rfl rfl hi (by decide) hd hn k
theorem sX_inn (n : Nat) (hE : eV K (gX Y) cc nL own Ts rm) {i : Nat} {x : Int32} (hi : i < 5) (hd : decode cc pc = .ok (.iastore, 1)) (hn : pc + 1 = n) (k : vV K (gX Y) (xs_inn u (va_up (x_inn u) i x)) lv st n) : vV K (gX Y) u lv (.int x :: .int (nI i) :: .ref (yA Y 14) :: st) pc := v_iast n hE 14 0 rfl rfl hi (by decide) (by rw [up_i (x_inn u) i x]; rfl) hd hn k
theorem lX_pv (n : Nat) (hE : eV K (gX Y) cc nL own Ts rm) {i : Nat} (hi : i < 25) (hd : decode cc pc = .ok (.iaload, 1)) (hn : pc + 1 = n) (k : vV K (gX Y) u lv (.int (x_pv u i) :: st) n) : vV K (gX Y) u lv (.int (nI i) :: .ref (yA Y 15) :: st) pc := v_iald n hE 15 0 rfl rfl hi (by decide) hd hn k
theorem sX_pv (n : Nat) (hE : eV K (gX Y) cc nL own Ts rm) {i : Nat} {x : Int32} (hi : i < 25) (hd : decode cc pc = .ok (.iastore, 1)) (hn : pc + 1 = n) (k : vV K (gX Y) (xs_pv u (va_up (x_pv u) i x)) lv st n) : vV K (gX Y) u lv (.int x :: .int (nI i) :: .ref (yA Y 15) :: st) pc := v_iast n hE 15 0 rfl rfl hi (by decide) (by rw [up_i (x_pv u) i x]; rfl) hd hn k
theorem lX_rop (n : Nat) (hE : eV K (gX Y) cc nL own Ts rm) {i : Nat} (hi : i < 25) (hd : decode cc pc = .ok (.iaload, 1)) (hn : pc + 1 = n) (k : vV K (gX Y) u lv (.int (oI (-1) (x_rop u i)) :: st) n) : vV K (gX Y) u lv (.int (nI i) :: .ref (yA Y 17) :: st) pc := v_iald n hE 17 0 rfl rfl hi (by decide) hd hn k
theorem sX_rop (n : Nat) (hE : eV K (gX Y) cc nL own Ts rm) {i : Nat} {x : Option Nat} (hi : i < 25) (hd : decode cc pc = .ok (.iastore, 1)) (hn : pc + 1 = n) (k : vV K (gX Y) (xs_rop u (va_up (x_rop u) i x)) lv st n) : vV K (gX Y) u lv (.int (oI (-1) x) :: .int (nI i) :: .ref (yA Y 17) :: st) pc := v_iast n hE 17 0 rfl rfl hi (by decide) (by rw [up_oI (-1) (x_rop u) i x]; rfl) hd hn k
theorem lX_por (n : Nat) (hE : eV K (gX Y) cc nL own Ts rm) {i : Nat} (hi : i < 12) (hd : decode cc pc = .ok (.iaload, 1)) (hn : pc + 1 = n) (k : vV K (gX Y) u lv (.int (oI (-1) (x_por u i)) :: st) n) : vV K (gX Y) u lv (.int (nI i) :: .ref (yA Y 18) :: st) pc := v_iald n hE 18 0 rfl rfl hi (by decide) hd hn k
theorem sX_por (n : Nat) (hE : eV K (gX Y) cc nL own Ts rm) {i : Nat} {x : Option Nat} (hi : i < 12) (hd : decode cc pc = .ok (.iastore, 1)) (hn : pc + 1 = n) (k : vV K (gX Y) (xs_por u (va_up (x_por u) i x)) lv st n) : vV K (gX Y) u lv (.int (oI (-1) x) :: .int (nI i) :: .ref (yA Y 18) :: st) pc := v_iast n hE 18 0 rfl rfl hi (by decide) (by rw [up_oI (-1) (x_por u) i x]; rfl) hd hn k
theorem lX_kn (n : Nat) (hE : eV K (gX Y) cc nL own Ts rm) {i : Nat} (hi : i < 25) (hd : decode cc pc = .ok (.baload, 1)) (hn : pc + 1 = n) (k : vV K (gX Y) u lv (.int (bI (x_kn u i)) :: st) n) : vV K (gX Y) u lv (.int (nI i) :: .ref (yA Y 19) :: st) pc := v_zald n hE 19 2 rfl rfl hi (by decide) hd hn k
theorem sX_kn (n : Nat) (hE : eV K (gX Y) cc nL own Ts rm) {i : Nat} {x : Bool} (hi : i < 25) (hd : decode cc pc = .ok (.bastore, 1)) (hn : pc + 1 = n) (k : vV K (gX Y) (xs_kn u (va_up (x_kn u) i x)) lv st n) : vV K (gX Y) u lv (.int (bI x) :: .int (nI i) :: .ref (yA Y 19) :: st) pc := v_zast n hE 19 2 rfl rfl hi (by decide) (by rw [up_bI (x_kn u) i x]; rfl) hd hn k
theorem lX_val (n : Nat) (hE : eV K (gX Y) cc nL own Ts rm) {i : Nat} (hi : i < 25) (hd : decode cc pc = .ok (.laload, 1)) (hn : pc + 1 = n) (k : vV K (gX Y) u lv (.long (x_val u i) :: st) n) : vV K (gX Y) u lv (.int (nI i) :: .ref (yA Y 20) :: st) pc := v_lald n hE 20 1 rfl rfl hi (by decide) hd hn k
theorem sX_val (n : Nat) (hE : eV K (gX Y) cc nL own Ts rm) {i : Nat} {x : Int64} (hi : i < 25) (hd : decode cc pc = .ok (.lastore, 1)) (hn : pc + 1 = n) (k : vV K (gX Y) (xs_val u (va_up (x_val u) i x)) lv st n) : vV K (gX Y) u lv (.long x :: .int (nI i) :: .ref (yA Y 20) :: st) pc := v_last n hE 20 1 rfl rfl hi (by decide) (by rw [up_l (x_val u) i x]; rfl) hd hn k
theorem lX_rem (n : Nat) (hE : eV K (gX Y) cc nL own Ts rm) {i : Nat} (hi : i < 25) (hd : decode cc pc = .ok (.laload, 1)) (hn : pc + 1 = n) (k : vV K (gX Y) u lv (.long (x_rem u i) :: st) n) : vV K (gX Y) u lv (.int (nI i) :: .ref (yA Y 21) :: st) pc := v_lald n hE 21 1 rfl rfl hi (by decide) hd hn k
theorem sX_rem (n : Nat) (hE : eV K (gX Y) cc nL own Ts rm) {i : Nat} {x : Int64} (hi : i < 25) (hd : decode cc pc = .ok (.lastore, 1)) (hn : pc + 1 = n) (k : vV K (gX Y) (xs_rem u (va_up (x_rem u) i x)) lv st n) : vV K (gX Y) u lv (.long x :: .int (nI i) :: .ref (yA Y 21) :: st) pc := v_last n hE 21 1 rfl rfl hi (by decide) (by rw [up_l (x_rem u) i x]; rfl) hd hn k
theorem rX_lnk (n : Nat) (hE : eV K (gX Y) cc nL own Ts rm) {i : Nat} (hi : i < 25) (hd : decode cc pc = .ok (.aaload, 1)) (hn : pc + 1 = n) (k : vV K (gX Y) u lv (.ref (yR Y i) :: st) n) : vV K (gX Y) u lv (.int (nI i) :: .ref (yA Y 10) :: st) pc := v_aald n hE 10 3 rfl rfl hi (by decide) (if_pos hi) hd hn k
theorem lX_lnk (n : Nat) (hE : eV K (gX Y) cc nL own Ts rm) {i j : Nat} (hi : i < 25) (hj : j < 4) (hd : decode cc pc = .ok (.iaload, 1)) (hn : pc + 1 = n) (k : vV K (gX Y) u lv (.int (nI (x_lnk u i j)) :: st) n) : vV K (gX Y) u lv (.int (nI j) :: .ref (yR Y i) :: st) pc := v_iald n hE (i + 22) 0 (cX_lnk Y u hi) rfl hj (by decide) hd hn k
theorem sX_lnk (n : Nat) (hE : eV K (gX Y) cc nL own Ts rm) {i j : Nat} {x : Nat} (hi : i < 25) (hj : j < 4) (hd : decode cc pc = .ok (.iastore, 1)) (hn : pc + 1 = n) (k : vV K (gX Y) (xs_lnk u (va_up (x_lnk u) i (va_up (x_lnk u i) j x))) lv st n) : vV K (gX Y) u lv (.int (nI x) :: .int (nI j) :: .ref (yR Y i) :: st) pc := v_iast n hE (i + 22) 0 (cX_lnk Y u hi) rfl hj (by decide) (cX_lnkS Y u hi j x) hd hn k
theorem rX_row (n : Nat) (hE : eV K (gX Y) cc nL own Ts rm) {i : Nat} (hi : i < 12) (hd : decode cc pc = .ok (.aaload, 1)) (hn : pc + 1 = n) (k : vV K (gX Y) u lv (.ref (yW Y i) :: st) n) : vV K (gX Y) u lv (.int (nI i) :: .ref (yA Y 16) :: st) pc := v_aald n hE 16 4 rfl rfl hi (by decide) (if_pos hi) hd hn k
theorem lX_row (n : Nat) (hE : eV K (gX Y) cc nL own Ts rm) {i j : Nat} (hi : i < 12) (hj : j < 26) (hd : decode cc pc = .ok (.laload, 1)) (hn : pc + 1 = n) (k : vV K (gX Y) u lv (.long (x_row u i j) :: st) n) : vV K (gX Y) u lv (.int (nI j) :: .ref (yW Y i) :: st) pc := v_lald n hE (i + 47) 1 (cX_row Y u hi) rfl hj (by decide) hd hn k
theorem sX_row (n : Nat) (hE : eV K (gX Y) cc nL own Ts rm) {i j : Nat} {x : Int64} (hi : i < 12) (hj : j < 26) (hd : decode cc pc = .ok (.lastore, 1)) (hn : pc + 1 = n) (k : vV K (gX Y) (xs_row u (va_up (x_row u) i (va_up (x_row u i) j x))) lv st n) : vV K (gX Y) u lv (.long x :: .int (nI j) :: .ref (yW Y i) :: st) pc := v_last n hE (i + 47) 1 (cX_row Y u hi) rfl hj (by decide) (cX_rowS Y u hi j x) hd hn k
end WX
section WM
variable {K : vK} {Y : yG} {cc : ByteArray} {nL : Nat} {own : String} {Ts : List Cond} {rm : Room} {u : MS} {lv : List (Nat × Value)} {st : List Value} {pc : Nat}
theorem gM_nodes (n : Nat) (hE : eV K (gM Y) cc nL own Ts rm) {index : Nat} (hin : ∀ w ∈ u_ws RX5 TX5 20, w ∈ Ts) (hlink : Cond.fieldLink own index "TrafficMatrixModel" "nodes" "I" ∈ Ts) (hd : decode cc pc = .ok (.getfield index, 3)) (hn : pc + 3 = n) (k : vV K (gM Y) u lv (.int (nI (w_n u)) :: st) n) : vV K (gM Y) u lv (.ref (yA Y 0) :: st) pc := v_get n hE hin 0 rfl rfl 0 (by decide) hlink rfl rfl hd hn k
theorem pM_nodes (n : Nat) (hE : eV K (gM Y) cc nL own Ts rm) {index : Nat} {x : Nat} (hin : ∀ w ∈ u_ws RX5 TX5 20, w ∈ Ts) (hlink : Cond.fieldLink own index "TrafficMatrixModel" "nodes" "I" ∈ Ts) (hd : decode cc pc = .ok (.putfield index, 3)) (hn : pc + 3 = n) (k : vV K (gM Y) (ws_n u x) lv st n) : vV K (gM Y) u lv (.int (nI x) :: .ref (yA Y 0) :: st) pc := v_put n hE hin tyX5 tyX5_ok nmX5 0 rfl rfl 0 (by decide) hlink rfl rfl (ty := .int) (by decide +kernel) rfl rfl (Nat.le_of_ble_eq_true rfl) rfl hd hn k
theorem gM_links (n : Nat) (hE : eV K (gM Y) cc nL own Ts rm) {index : Nat} (hin : ∀ w ∈ u_ws RX5 TX5 20, w ∈ Ts) (hlink : Cond.fieldLink own index "TrafficMatrixModel" "links" "I" ∈ Ts) (hd : decode cc pc = .ok (.getfield index, 3)) (hn : pc + 3 = n) (k : vV K (gM Y) u lv (.int (nI (w_m u)) :: st) n) : vV K (gM Y) u lv (.ref (yA Y 0) :: st) pc := v_get n hE hin 0 rfl rfl 1 (by decide) hlink rfl rfl hd hn k
theorem pM_links (n : Nat) (hE : eV K (gM Y) cc nL own Ts rm) {index : Nat} {x : Nat} (hin : ∀ w ∈ u_ws RX5 TX5 20, w ∈ Ts) (hlink : Cond.fieldLink own index "TrafficMatrixModel" "links" "I" ∈ Ts) (hd : decode cc pc = .ok (.putfield index, 3)) (hn : pc + 3 = n) (k : vV K (gM Y) (ws_m u x) lv st n) : vV K (gM Y) u lv (.int (nI x) :: .ref (yA Y 0) :: st) pc := v_put n hE hin tyX5 tyX5_ok nmX5 0 rfl rfl 1 (by decide) hlink rfl rfl (ty := .int) (by decide +kernel) rfl rfl (Nat.le_of_ble_eq_true rfl) rfl hd hn k
theorem gM_sourceOf (n : Nat) (hE : eV K (gM Y) cc nL own Ts rm) {index : Nat} (hin : ∀ w ∈ u_ws RX5 TX5 20, w ∈ Ts) (hlink : Cond.fieldLink own index "TrafficMatrixModel" "sourceOf" "[I" ∈ Ts) (hd : decode cc pc = .ok (.getfield index, 3)) (hn : pc + 3 = n) (k : vV K (gM Y) u lv (.ref (yA Y 1) :: st) n) : vV K (gM Y) u lv (.ref (yA Y 0) :: st) pc := v_get n hE hin 0 rfl rfl 2 (by decide) hlink rfl rfl hd hn k
theorem gM_targetOf (n : Nat) (hE : eV K (gM Y) cc nL own Ts rm) {index : Nat} (hin : ∀ w ∈ u_ws RX5 TX5 20, w ∈ Ts) (hlink : Cond.fieldLink own index "TrafficMatrixModel" "targetOf" "[I" ∈ Ts) (hd : decode cc pc = .ok (.getfield index, 3)) (hn : pc + 3 = n) (k : vV K (gM Y) u lv (.ref (yA Y 2) :: st) n) : vV K (gM Y) u lv (.ref (yA Y 0) :: st) pc := v_get n hE hin 0 rfl rfl 3 (by decide) hlink rfl rfl hd hn k
theorem gM_metricOf (n : Nat) (hE : eV K (gM Y) cc nL own Ts rm) {index : Nat} (hin : ∀ w ∈ u_ws RX5 TX5 20, w ∈ Ts) (hlink : Cond.fieldLink own index "TrafficMatrixModel" "metricOf" "[I" ∈ Ts) (hd : decode cc pc = .ok (.getfield index, 3)) (hn : pc + 3 = n) (k : vV K (gM Y) u lv (.ref (yA Y 3) :: st) n) : vV K (gM Y) u lv (.ref (yA Y 0) :: st) pc := v_get n hE hin 0 rfl rfl 4 (by decide) hlink rfl rfl hd hn k
theorem gM_demand (n : Nat) (hE : eV K (gM Y) cc nL own Ts rm) {index : Nat} (hin : ∀ w ∈ u_ws RX5 TX5 20, w ∈ Ts) (hlink : Cond.fieldLink own index "TrafficMatrixModel" "demand" "[I" ∈ Ts) (hd : decode cc pc = .ok (.getfield index, 3)) (hn : pc + 3 = n) (k : vV K (gM Y) u lv (.ref (yA Y 4) :: st) n) : vV K (gM Y) u lv (.ref (yA Y 0) :: st) pc := v_get n hE hin 0 rfl rfl 5 (by decide) hlink rfl rfl hd hn k
theorem gM_load (n : Nat) (hE : eV K (gM Y) cc nL own Ts rm) {index : Nat} (hin : ∀ w ∈ u_ws RX5 TX5 20, w ∈ Ts) (hlink : Cond.fieldLink own index "TrafficMatrixModel" "load" "[I" ∈ Ts) (hd : decode cc pc = .ok (.getfield index, 3)) (hn : pc + 3 = n) (k : vV K (gM Y) u lv (.ref (yA Y 5) :: st) n) : vV K (gM Y) u lv (.ref (yA Y 0) :: st) pc := v_get n hE hin 0 rfl rfl 6 (by decide) hlink rfl rfl hd hn k
theorem gM_outOf (n : Nat) (hE : eV K (gM Y) cc nL own Ts rm) {index : Nat} (hin : ∀ w ∈ u_ws RX5 TX5 20, w ∈ Ts) (hlink : Cond.fieldLink own index "TrafficMatrixModel" "outOf" "[I" ∈ Ts) (hd : decode cc pc = .ok (.getfield index, 3)) (hn : pc + 3 = n) (k : vV K (gM Y) u lv (.ref (yA Y 6) :: st) n) : vV K (gM Y) u lv (.ref (yA Y 0) :: st) pc := v_get n hE hin 0 rfl rfl 7 (by decide) hlink rfl rfl hd hn k
theorem gM_inOf (n : Nat) (hE : eV K (gM Y) cc nL own Ts rm) {index : Nat} (hin : ∀ w ∈ u_ws RX5 TX5 20, w ∈ Ts) (hlink : Cond.fieldLink own index "TrafficMatrixModel" "inOf" "[I" ∈ Ts) (hd : decode cc pc = .ok (.getfield index, 3)) (hn : pc + 3 = n) (k : vV K (gM Y) u lv (.ref (yA Y 7) :: st) n) : vV K (gM Y) u lv (.ref (yA Y 0) :: st) pc := v_get n hE hin 0 rfl rfl 8 (by decide) hlink rfl rfl hd hn k
theorem gM_isMeasured (n : Nat) (hE : eV K (gM Y) cc nL own Ts rm) {index : Nat} (hin : ∀ w ∈ u_ws RX5 TX5 20, w ∈ Ts) (hlink : Cond.fieldLink own index "TrafficMatrixModel" "isMeasured" "[Z" ∈ Ts) (hd : decode cc pc = .ok (.getfield index, 3)) (hn : pc + 3 = n) (k : vV K (gM Y) u lv (.ref (yA Y 8) :: st) n) : vV K (gM Y) u lv (.ref (yA Y 0) :: st) pc := v_get n hE hin 0 rfl rfl 9 (by decide) hlink rfl rfl hd hn k
theorem gM_measured (n : Nat) (hE : eV K (gM Y) cc nL own Ts rm) {index : Nat} (hin : ∀ w ∈ u_ws RX5 TX5 20, w ∈ Ts) (hlink : Cond.fieldLink own index "TrafficMatrixModel" "measured" "[I" ∈ Ts) (hd : decode cc pc = .ok (.getfield index, 3)) (hn : pc + 3 = n) (k : vV K (gM Y) u lv (.ref (yA Y 9) :: st) n) : vV K (gM Y) u lv (.ref (yA Y 0) :: st) pc := v_get n hE hin 0 rfl rfl 10 (by decide) hlink rfl rfl hd hn k
theorem gM_guess (n : Nat) (hE : eV K (gM Y) cc nL own Ts rm) {index : Nat} (hin : ∀ w ∈ u_ws RX5 TX5 20, w ∈ Ts) (hlink : Cond.fieldLink own index "TrafficMatrixModel" "guess" "[J" ∈ Ts) (hd : decode cc pc = .ok (.getfield index, 3)) (hn : pc + 3 = n) (k : vV K (gM Y) u lv (.ref (yA Y 10) :: st) n) : vV K (gM Y) u lv (.ref (yA Y 0) :: st) pc := v_get n hE hin 0 rfl rfl 11 (by decide) hlink rfl rfl hd hn k
theorem gM_distance (n : Nat) (hE : eV K (gM Y) cc nL own Ts rm) {index : Nat} (hin : ∀ w ∈ u_ws RX5 TX5 20, w ∈ Ts) (hlink : Cond.fieldLink own index "TrafficMatrixModel" "distance" "[I" ∈ Ts) (hd : decode cc pc = .ok (.getfield index, 3)) (hn : pc + 3 = n) (k : vV K (gM Y) u lv (.ref (yA Y 11) :: st) n) : vV K (gM Y) u lv (.ref (yA Y 0) :: st) pc := v_get n hE hin 0 rfl rfl 12 (by decide) hlink rfl rfl hd hn k
theorem gM_bitsOf (n : Nat) (hE : eV K (gM Y) cc nL own Ts rm) {index : Nat} (hin : ∀ w ∈ u_ws RX5 TX5 20, w ∈ Ts) (hlink : Cond.fieldLink own index "TrafficMatrixModel" "bitsOf" "[I" ∈ Ts) (hd : decode cc pc = .ok (.getfield index, 3)) (hn : pc + 3 = n) (k : vV K (gM Y) u lv (.ref (yA Y 12) :: st) n) : vV K (gM Y) u lv (.ref (yA Y 0) :: st) pc := v_get n hE hin 0 rfl rfl 13 (by decide) hlink rfl rfl hd hn k
theorem gM_row (n : Nat) (hE : eV K (gM Y) cc nL own Ts rm) {index : Nat} (hin : ∀ w ∈ u_ws RX5 TX5 20, w ∈ Ts) (hlink : Cond.fieldLink own index "TrafficMatrixModel" "row" "[J" ∈ Ts) (hd : decode cc pc = .ok (.getfield index, 3)) (hn : pc + 3 = n) (k : vV K (gM Y) u lv (.ref (yA Y 13) :: st) n) : vV K (gM Y) u lv (.ref (yA Y 0) :: st) pc := v_get n hE hin 0 rfl rfl 14 (by decide) hlink rfl rfl hd hn k
theorem gM_rows (n : Nat) (hE : eV K (gM Y) cc nL own Ts rm) {index : Nat} (hin : ∀ w ∈ u_ws RX5 TX5 20, w ∈ Ts) (hlink : Cond.fieldLink own index "TrafficMatrixModel" "rows" "I" ∈ Ts) (hd : decode cc pc = .ok (.getfield index, 3)) (hn : pc + 3 = n) (k : vV K (gM Y) u lv (.int (nI (w_rows u)) :: st) n) : vV K (gM Y) u lv (.ref (yA Y 0) :: st) pc := v_get n hE hin 0 rfl rfl 15 (by decide) hlink rfl rfl hd hn k
theorem pM_rows (n : Nat) (hE : eV K (gM Y) cc nL own Ts rm) {index : Nat} {x : Nat} (hin : ∀ w ∈ u_ws RX5 TX5 20, w ∈ Ts) (hlink : Cond.fieldLink own index "TrafficMatrixModel" "rows" "I" ∈ Ts) (hd : decode cc pc = .ok (.putfield index, 3)) (hn : pc + 3 = n) (k : vV K (gM Y) (ws_rows u x) lv st n) : vV K (gM Y) u lv (.int (nI x) :: .ref (yA Y 0) :: st) pc := v_put n hE hin tyX5 tyX5_ok nmX5 0 rfl rfl 15 (by decide) hlink rfl rfl (ty := .int) (by decide +kernel) rfl rfl (Nat.le_of_ble_eq_true rfl) rfl hd hn k
theorem gM_known (n : Nat) (hE : eV K (gM Y) cc nL own Ts rm) {index : Nat} (hin : ∀ w ∈ u_ws RX5 TX5 20, w ∈ Ts) (hlink : Cond.fieldLink own index "TrafficMatrixModel" "known" "I" ∈ Ts) (hd : decode cc pc = .ok (.getfield index, 3)) (hn : pc + 3 = n) (k : vV K (gM Y) u lv (.int (nI (w_kn u)) :: st) n) : vV K (gM Y) u lv (.ref (yA Y 0) :: st) pc := v_get n hE hin 0 rfl rfl 16 (by decide) hlink rfl rfl hd hn k
theorem pM_known (n : Nat) (hE : eV K (gM Y) cc nL own Ts rm) {index : Nat} {x : Nat} (hin : ∀ w ∈ u_ws RX5 TX5 20, w ∈ Ts) (hlink : Cond.fieldLink own index "TrafficMatrixModel" "known" "I" ∈ Ts) (hd : decode cc pc = .ok (.putfield index, 3)) (hn : pc + 3 = n) (k : vV K (gM Y) (ws_kn u x) lv st n) : vV K (gM Y) u lv (.int (nI x) :: .ref (yA Y 0) :: st) pc := v_put n hE hin tyX5 tyX5_ok nmX5 0 rfl rfl 16 (by decide) hlink rfl rfl (ty := .int) (by decide +kernel) rfl rfl (Nat.le_of_ble_eq_true rfl) rfl hd hn k
theorem gM_pivotRow (n : Nat) (hE : eV K (gM Y) cc nL own Ts rm) {index : Nat} (hin : ∀ w ∈ u_ws RX5 TX5 20, w ∈ Ts) (hlink : Cond.fieldLink own index "TrafficMatrixModel" "pivotRow" "[I" ∈ Ts) (hd : decode cc pc = .ok (.getfield index, 3)) (hn : pc + 3 = n) (k : vV K (gM Y) u lv (.ref (yA Y 14) :: st) n) : vV K (gM Y) u lv (.ref (yA Y 0) :: st) pc := v_get n hE hin 0 rfl rfl 17 (by decide) hlink rfl rfl hd hn k
theorem gM_wasSure (n : Nat) (hE : eV K (gM Y) cc nL own Ts rm) {index : Nat} (hin : ∀ w ∈ u_ws RX5 TX5 20, w ∈ Ts) (hlink : Cond.fieldLink own index "TrafficMatrixModel" "wasSure" "[Z" ∈ Ts) (hd : decode cc pc = .ok (.getfield index, 3)) (hn : pc + 3 = n) (k : vV K (gM Y) u lv (.ref (yA Y 15) :: st) n) : vV K (gM Y) u lv (.ref (yA Y 0) :: st) pc := v_get n hE hin 0 rfl rfl 18 (by decide) hlink rfl rfl hd hn k
theorem gM_before (n : Nat) (hE : eV K (gM Y) cc nL own Ts rm) {index : Nat} (hin : ∀ w ∈ u_ws RX5 TX5 20, w ∈ Ts) (hlink : Cond.fieldLink own index "TrafficMatrixModel" "before" "[J" ∈ Ts) (hd : decode cc pc = .ok (.getfield index, 3)) (hn : pc + 3 = n) (k : vV K (gM Y) u lv (.ref (yA Y 16) :: st) n) : vV K (gM Y) u lv (.ref (yA Y 0) :: st) pc := v_get n hE hin 0 rfl rfl 19 (by decide) hlink rfl rfl hd hn k
theorem lM_src (n : Nat) (hE : eV K (gM Y) cc nL own Ts rm) {i : Nat} (hi : i < 12) (hd : decode cc pc = .ok (.iaload, 1)) (hn : pc + 1 = n) (k : vV K (gM Y) u lv (.int (nI (w_src u i)) :: st) n) : vV K (gM Y) u lv (.int (nI i) :: .ref (yA Y 1) :: st) pc := v_iald n hE 1 0 rfl rfl hi (by decide) hd hn k
theorem sM_src (n : Nat) (hE : eV K (gM Y) cc nL own Ts rm) {i : Nat} {x : Nat} (hi : i < 12) (hd : decode cc pc = .ok (.iastore, 1)) (hn : pc + 1 = n) (k : vV K (gM Y) (ws_src u (va_up (w_src u) i x)) lv st n) : vV K (gM Y) u lv (.int (nI x) :: .int (nI i) :: .ref (yA Y 1) :: st) pc := v_iast n hE 1 0 rfl rfl hi (by decide) (by rw [up_nI (w_src u) i x]; rfl) hd hn k
theorem lM_tgt (n : Nat) (hE : eV K (gM Y) cc nL own Ts rm) {i : Nat} (hi : i < 12) (hd : decode cc pc = .ok (.iaload, 1)) (hn : pc + 1 = n) (k : vV K (gM Y) u lv (.int (nI (w_tgt u i)) :: st) n) : vV K (gM Y) u lv (.int (nI i) :: .ref (yA Y 2) :: st) pc := v_iald n hE 2 0 rfl rfl hi (by decide) hd hn k
theorem sM_tgt (n : Nat) (hE : eV K (gM Y) cc nL own Ts rm) {i : Nat} {x : Nat} (hi : i < 12) (hd : decode cc pc = .ok (.iastore, 1)) (hn : pc + 1 = n) (k : vV K (gM Y) (ws_tgt u (va_up (w_tgt u) i x)) lv st n) : vV K (gM Y) u lv (.int (nI x) :: .int (nI i) :: .ref (yA Y 2) :: st) pc := v_iast n hE 2 0 rfl rfl hi (by decide) (by rw [up_nI (w_tgt u) i x]; rfl) hd hn k
theorem lM_met (n : Nat) (hE : eV K (gM Y) cc nL own Ts rm) {i : Nat} (hi : i < 12) (hd : decode cc pc = .ok (.iaload, 1)) (hn : pc + 1 = n) (k : vV K (gM Y) u lv (.int (nI (w_met u i)) :: st) n) : vV K (gM Y) u lv (.int (nI i) :: .ref (yA Y 3) :: st) pc := v_iald n hE 3 0 rfl rfl hi (by decide) hd hn k
theorem sM_met (n : Nat) (hE : eV K (gM Y) cc nL own Ts rm) {i : Nat} {x : Nat} (hi : i < 12) (hd : decode cc pc = .ok (.iastore, 1)) (hn : pc + 1 = n) (k : vV K (gM Y) (ws_met u (va_up (w_met u) i x)) lv st n) : vV K (gM Y) u lv (.int (nI x) :: .int (nI i) :: .ref (yA Y 3) :: st) pc := v_iast n hE 3 0 rfl rfl hi (by decide) (by rw [up_nI (w_met u) i x]; rfl) hd hn k
theorem lM_dem (n : Nat) (hE : eV K (gM Y) cc nL own Ts rm) {i : Nat} (hi : i < 25) (hd : decode cc pc = .ok (.iaload, 1)) (hn : pc + 1 = n) (k : vV K (gM Y) u lv (.int (w_dem u i) :: st) n) : vV K (gM Y) u lv (.int (nI i) :: .ref (yA Y 4) :: st) pc := v_iald n hE 4 0 rfl rfl hi (by decide) hd hn k
theorem sM_dem (n : Nat) (hE : eV K (gM Y) cc nL own Ts rm) {i : Nat} {x : Int32} (hi : i < 25) (hd : decode cc pc = .ok (.iastore, 1)) (hn : pc + 1 = n) (k : vV K (gM Y) (ws_dem u (va_up (w_dem u) i x)) lv st n) : vV K (gM Y) u lv (.int x :: .int (nI i) :: .ref (yA Y 4) :: st) pc := v_iast n hE 4 0 rfl rfl hi (by decide) (by rw [up_i (w_dem u) i x]; rfl) hd hn k
theorem lM_load (n : Nat) (hE : eV K (gM Y) cc nL own Ts rm) {i : Nat} (hi : i < 12) (hd : decode cc pc = .ok (.iaload, 1)) (hn : pc + 1 = n) (k : vV K (gM Y) u lv (.int (w_load u i) :: st) n) : vV K (gM Y) u lv (.int (nI i) :: .ref (yA Y 5) :: st) pc := v_iald n hE 5 0 rfl rfl hi (by decide) hd hn k
theorem sM_load (n : Nat) (hE : eV K (gM Y) cc nL own Ts rm) {i : Nat} {x : Int32} (hi : i < 12) (hd : decode cc pc = .ok (.iastore, 1)) (hn : pc + 1 = n) (k : vV K (gM Y) (ws_load u (va_up (w_load u) i x)) lv st n) : vV K (gM Y) u lv (.int x :: .int (nI i) :: .ref (yA Y 5) :: st) pc := v_iast n hE 5 0 rfl rfl hi (by decide) (by rw [up_i (w_load u) i x]; rfl) hd hn k
theorem lM_out (n : Nat) (hE : eV K (gM Y) cc nL own Ts rm) {i : Nat} (hi : i < 5) (hd : decode cc pc = .ok (.iaload, 1)) (hn : pc + 1 = n) (k : vV K (gM Y) u lv (.int (w_out u i) :: st) n) : vV K (gM Y) u lv (.int (nI i) :: .ref (yA Y 6) :: st) pc := v_iald n hE 6 0 rfl rfl hi (by decide) hd hn k
theorem sM_out (n : Nat) (hE : eV K (gM Y) cc nL own Ts rm) {i : Nat} {x : Int32} (hi : i < 5) (hd : decode cc pc = .ok (.iastore, 1)) (hn : pc + 1 = n) (k : vV K (gM Y) (ws_out u (va_up (w_out u) i x)) lv st n) : vV K (gM Y) u lv (.int x :: .int (nI i) :: .ref (yA Y 6) :: st) pc := v_iast n hE 6 0 rfl rfl hi (by decide) (by rw [up_i (w_out u) i x]; rfl) hd hn k
theorem lM_inn (n : Nat) (hE : eV K (gM Y) cc nL own Ts rm) {i : Nat} (hi : i < 5) (hd : decode cc pc = .ok (.iaload, 1)) (hn : pc + 1 = n) (k : vV K (gM Y) u lv (.int (w_inn u i) :: st) n) : vV K (gM Y) u lv (.int (nI i) :: .ref (yA Y 7) :: st) pc := v_iald n hE 7 0 rfl rfl hi (by decide) hd hn k
theorem sM_inn (n : Nat) (hE : eV K (gM Y) cc nL own Ts rm) {i : Nat} {x : Int32} (hi : i < 5) (hd : decode cc pc = .ok (.iastore, 1)) (hn : pc + 1 = n) (k : vV K (gM Y) (ws_inn u (va_up (w_inn u) i x)) lv st n) : vV K (gM Y) u lv (.int x :: .int (nI i) :: .ref (yA Y 7) :: st) pc := v_iast n hE 7 0 rfl rfl hi (by decide) (by rw [up_i (w_inn u) i x]; rfl) hd hn k
theorem lM_ism (n : Nat) (hE : eV K (gM Y) cc nL own Ts rm) {i : Nat} (hi : i < 25) (hd : decode cc pc = .ok (.baload, 1)) (hn : pc + 1 = n) (k : vV K (gM Y) u lv (.int (bI (w_ism u i)) :: st) n) : vV K (gM Y) u lv (.int (nI i) :: .ref (yA Y 8) :: st) pc := v_zald n hE 8 2 rfl rfl hi (by decide) hd hn k
theorem sM_ism (n : Nat) (hE : eV K (gM Y) cc nL own Ts rm) {i : Nat} {x : Bool} (hi : i < 25) (hd : decode cc pc = .ok (.bastore, 1)) (hn : pc + 1 = n) (k : vV K (gM Y) (ws_ism u (va_up (w_ism u) i x)) lv st n) : vV K (gM Y) u lv (.int (bI x) :: .int (nI i) :: .ref (yA Y 8) :: st) pc := v_zast n hE 8 2 rfl rfl hi (by decide) (by rw [up_bI (w_ism u) i x]; rfl) hd hn k
theorem lM_mea (n : Nat) (hE : eV K (gM Y) cc nL own Ts rm) {i : Nat} (hi : i < 25) (hd : decode cc pc = .ok (.iaload, 1)) (hn : pc + 1 = n) (k : vV K (gM Y) u lv (.int (w_mea u i) :: st) n) : vV K (gM Y) u lv (.int (nI i) :: .ref (yA Y 9) :: st) pc := v_iald n hE 9 0 rfl rfl hi (by decide) hd hn k
theorem sM_mea (n : Nat) (hE : eV K (gM Y) cc nL own Ts rm) {i : Nat} {x : Int32} (hi : i < 25) (hd : decode cc pc = .ok (.iastore, 1)) (hn : pc + 1 = n) (k : vV K (gM Y) (ws_mea u (va_up (w_mea u) i x)) lv st n) : vV K (gM Y) u lv (.int x :: .int (nI i) :: .ref (yA Y 9) :: st) pc := v_iast n hE 9 0 rfl rfl hi (by decide) (by rw [up_i (w_mea u) i x]; rfl) hd hn k
theorem lM_gue (n : Nat) (hE : eV K (gM Y) cc nL own Ts rm) {i : Nat} (hi : i < 25) (hd : decode cc pc = .ok (.laload, 1)) (hn : pc + 1 = n) (k : vV K (gM Y) u lv (.long (w_gue u i) :: st) n) : vV K (gM Y) u lv (.int (nI i) :: .ref (yA Y 10) :: st) pc := v_lald n hE 10 1 rfl rfl hi (by decide) hd hn k
theorem sM_gue (n : Nat) (hE : eV K (gM Y) cc nL own Ts rm) {i : Nat} {x : Int64} (hi : i < 25) (hd : decode cc pc = .ok (.lastore, 1)) (hn : pc + 1 = n) (k : vV K (gM Y) (ws_gue u (va_up (w_gue u) i x)) lv st n) : vV K (gM Y) u lv (.long x :: .int (nI i) :: .ref (yA Y 10) :: st) pc := v_last n hE 10 1 rfl rfl hi (by decide) (by rw [up_l (w_gue u) i x]; rfl) hd hn k
theorem lM_dist (n : Nat) (hE : eV K (gM Y) cc nL own Ts rm) {i : Nat} (hi : i < 25) (hd : decode cc pc = .ok (.iaload, 1)) (hn : pc + 1 = n) (k : vV K (gM Y) u lv (.int (nI (w_dist u i)) :: st) n) : vV K (gM Y) u lv (.int (nI i) :: .ref (yA Y 11) :: st) pc := v_iald n hE 11 0 rfl rfl hi (by decide) hd hn k
theorem sM_dist (n : Nat) (hE : eV K (gM Y) cc nL own Ts rm) {i : Nat} {x : Nat} (hi : i < 25) (hd : decode cc pc = .ok (.iastore, 1)) (hn : pc + 1 = n) (k : vV K (gM Y) (ws_dist u (va_up (w_dist u) i x)) lv st n) : vV K (gM Y) u lv (.int (nI x) :: .int (nI i) :: .ref (yA Y 11) :: st) pc := v_iast n hE 11 0 rfl rfl hi (by decide) (by rw [up_nI (w_dist u) i x]; rfl) hd hn k
theorem lM_bits (n : Nat) (hE : eV K (gM Y) cc nL own Ts rm) {i : Nat} (hi : i < 25) (hd : decode cc pc = .ok (.iaload, 1)) (hn : pc + 1 = n) (k : vV K (gM Y) u lv (.int (nI (w_bits u i)) :: st) n) : vV K (gM Y) u lv (.int (nI i) :: .ref (yA Y 12) :: st) pc := v_iald n hE 12 0 rfl rfl hi (by decide) hd hn k
theorem sM_bits (n : Nat) (hE : eV K (gM Y) cc nL own Ts rm) {i : Nat} {x : Nat} (hi : i < 25) (hd : decode cc pc = .ok (.iastore, 1)) (hn : pc + 1 = n) (k : vV K (gM Y) (ws_bits u (va_up (w_bits u) i x)) lv st n) : vV K (gM Y) u lv (.int (nI x) :: .int (nI i) :: .ref (yA Y 12) :: st) pc := v_iast n hE 12 0 rfl rfl hi (by decide) (by rw [up_nI (w_bits u) i x]; rfl) hd hn k
theorem lM_row (n : Nat) (hE : eV K (gM Y) cc nL own Ts rm) {r k : Nat} (hr : r < 12) (hk : k < 26) (hd : decode cc pc = .ok (.laload, 1)) (hn : pc + 1 = n) (kk : vV K (gM Y) u lv (.long (w_row u r k) :: st) n) : vV K (gM Y) u lv (.int (nI (26 * r + k)) :: .ref (yA Y 13) :: st) pc := v_lald n hE 13 1 rfl rfl (show 26 * r + k < 312 by omega) (by decide) hd hn (by show vV K _ u lv (.long (w_row u ((26 * r + k) / 26) ((26 * r + k) % 26)) :: st) n; rw [show (26 * r + k) / 26 = r by omega, show (26 * r + k) % 26 = k by omega]; exact kk)
theorem sM_row (n : Nat) (hE : eV K (gM Y) cc nL own Ts rm) {r k : Nat} {x : Int64} (hr : r < 12) (hk : k < 26) (hd : decode cc pc = .ok (.lastore, 1)) (hn : pc + 1 = n) (kk : vV K (gM Y) (ws_row u (va_up (w_row u) r (va_up (w_row u r) k x))) lv st n) : vV K (gM Y) u lv (.long x :: .int (nI (26 * r + k)) :: .ref (yA Y 13) :: st) pc := v_last n hE 13 1 rfl rfl (show 26 * r + k < 312 by omega) (by decide) (by rw [up_fl _ hk]; rfl) hd hn kk
theorem lM_pr (n : Nat) (hE : eV K (gM Y) cc nL own Ts rm) {i : Nat} (hi : i < 25) (hd : decode cc pc = .ok (.iaload, 1)) (hn : pc + 1 = n) (k : vV K (gM Y) u lv (.int (oI (-7) (w_pr u i)) :: st) n) : vV K (gM Y) u lv (.int (nI i) :: .ref (yA Y 14) :: st) pc := v_iald n hE 14 0 rfl rfl hi (by decide) hd hn k
theorem sM_pr (n : Nat) (hE : eV K (gM Y) cc nL own Ts rm) {i : Nat} {x : Option Nat} (hi : i < 25) (hd : decode cc pc = .ok (.iastore, 1)) (hn : pc + 1 = n) (k : vV K (gM Y) (ws_pr u (va_up (w_pr u) i x)) lv st n) : vV K (gM Y) u lv (.int (oI (-7) x) :: .int (nI i) :: .ref (yA Y 14) :: st) pc := v_iast n hE 14 0 rfl rfl hi (by decide) (by rw [up_oI (-7) (w_pr u) i x]; rfl) hd hn k
theorem lM_was (n : Nat) (hE : eV K (gM Y) cc nL own Ts rm) {i : Nat} (hi : i < 25) (hd : decode cc pc = .ok (.baload, 1)) (hn : pc + 1 = n) (k : vV K (gM Y) u lv (.int (bI (w_was u i)) :: st) n) : vV K (gM Y) u lv (.int (nI i) :: .ref (yA Y 15) :: st) pc := v_zald n hE 15 2 rfl rfl hi (by decide) hd hn k
theorem sM_was (n : Nat) (hE : eV K (gM Y) cc nL own Ts rm) {i : Nat} {x : Bool} (hi : i < 25) (hd : decode cc pc = .ok (.bastore, 1)) (hn : pc + 1 = n) (k : vV K (gM Y) (ws_was u (va_up (w_was u) i x)) lv st n) : vV K (gM Y) u lv (.int (bI x) :: .int (nI i) :: .ref (yA Y 15) :: st) pc := v_zast n hE 15 2 rfl rfl hi (by decide) (by rw [up_bI (w_was u) i x]; rfl) hd hn k
theorem lM_bef (n : Nat) (hE : eV K (gM Y) cc nL own Ts rm) {i : Nat} (hi : i < 25) (hd : decode cc pc = .ok (.laload, 1)) (hn : pc + 1 = n) (k : vV K (gM Y) u lv (.long (w_bef u i) :: st) n) : vV K (gM Y) u lv (.int (nI i) :: .ref (yA Y 16) :: st) pc := v_lald n hE 16 1 rfl rfl hi (by decide) hd hn k
theorem sM_bef (n : Nat) (hE : eV K (gM Y) cc nL own Ts rm) {i : Nat} {x : Int64} (hi : i < 25) (hd : decode cc pc = .ok (.lastore, 1)) (hn : pc + 1 = n) (k : vV K (gM Y) (ws_bef u (va_up (w_bef u) i x)) lv st n) : vV K (gM Y) u lv (.long x :: .int (nI i) :: .ref (yA Y 16) :: st) pc := v_last n hE 16 1 rfl rfl hi (by decide) (by rw [up_l (w_bef u) i x]; rfl) hd hn k
end WM
