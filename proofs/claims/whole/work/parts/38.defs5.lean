/-! what read, search and type make and find -/
def rdA (a : Nat → Nat → Int32) (z : Bool) (b : Nat) (f : Nat → Int32) (n : Nat) : Nat → Nat → Int32 := va_up (va_up (va_up a 31 (mkF z (nI b) f (a 31) n)) 14 (upd (a 14) b (nI (mkN z (nI b) f n)))) 15 (pb (a 15) (mkF z (nI b) f (a 31) n) (80 * b) (mkN z (nI b) f n))
def lgA (a : Nat → Nat → Int32) (en : Nat) (t b p v : Int32) : Nat → Nat → Int32 := va_up (va_up (va_up (va_up a 18 (upd (a 18) en t)) 19 (upd (a 19) en b)) 20 (upd (a 20) en p)) 21 (upd (a 21) en v)
/-- the draft has more bytes: the lowest n of v, the highest first -/
def tyA (a : Nat → Nat → Int32) (dn n : Nat) (v : Int64) : Nat → Nat → Int32 := va_up a 1 (pb (a 1) (fun i => by8 v (n - 1 - i)) dn n)
def hasB (a : Nat → Nat → Int32) (dn t n : Nat) : Bool := mw (fun i => a 12 (40 * t + i)) (fun i => a 13 (40 * t + i)) (a 1) dn n n
/-- is paper j found: t its latest text, n that text's bytes -/
def fndB (a : Nat → Nat → Int32) (dn : Nat) (nw : Int32) (vc sz fo : Nat → Nat) (b j : Nat) : Bool := hasB a dn (4 * j + vc j - 1) (sz (4 * j + vc j - 1)) && seeB (a 6 j) (a 9 j) (a 8 j) (a 3) (a 4) (b % 3 * 4 + fo j) nw
theorem nmR_1 {f dr : Nat → Int32} {n dn b : Nat} (h : nmB f dr n dn b = true) : nmR f dr n dn b ||| 1 <<< (nI b &&& 31) = nmR f dr n dn (b + 1) := by rw [nmR, if_pos h]
theorem nmR_0 {f dr : Nat → Int32} {n dn b : Nat} (h : nmB f dr n dn b = false) : nmR f dr n dn b ||| 0 = nmR f dr n dn (b + 1) := by rw [nmR, if_neg (by rw [h]; decide)]
theorem nmB_eq (f dr hh : Nat → Int32) (n dn b : Nat) : nmB f dr n dn b = (decide (dn ≤ mkN true (nI b) f n) && eqp (mkF true (nI b) f hh n) dr dn) := by
  unfold nmB
  by_cases h : dn ≤ mkN true (nI b) f n
  · rw [eqp_cong (u2 := mkF true (nI b) f hh n) (w2 := dr) (fun i hi => mkF_any true (nI b) f _ hh n i (by omega)) (fun _ _ => rfl)]
  · rw [df h]; rfl
