/-! what the reference's calls make of its arrays -/
def cmA (a : Nat → Nat → Int32) (dn j vj : Nat) : Nat → Nat → Int32 := va_up (va_up (va_up (va_up a 11 (upd (a 11) (4 * j + vj) (nI dn))) 12 (pb (a 12) (a 1) (40 * (4 * j + vj)) dn)) 13 (pb (a 13) (fun _ => 0) (40 * (4 * j + vj)) dn)) 10 (upd (a 10) j (nI (vj + 1)))
def ppA (a : Nat → Nat → Int32) (pn : Nat) (k f lg : Int32) : Nat → Nat → Int32 := va_up (va_up (va_up (va_up (va_up a 6 (upd (a 6) pn k)) 7 (upd (a 7) pn f)) 8 (upd (a 8) pn lg)) 9 (upd (a 9) pn 0)) 10 (upd (a 10) pn 0)
theorem z_0 : vp_nar .boolean 0 = 0 := by decide
theorem z_1 : vp_nar .boolean 1 = 1 := by decide
theorem dec1 (n k : Nat) : nI n - nI (k + 1) + Int32.ofInt (-1) = nI n - nI (k + 1 + 1) := by
  rw [nI_succ (k + 1), show (Int32.ofInt (-1)) = -1 from rfl, Int32.sub_eq_add_neg, Int32.sub_eq_add_neg, Int32.neg_add, Int32.add_assoc, Int32.sub_eq_add_neg]
def blH (a : Nat → Nat → Int32) (o x y : Nat) : Nat → Int32 := fun i => if ¬ a 13 (o + i) = 0 ∨ (x ≤ i ∧ i < y) then 1 else 0
theorem blH_1 {a : Nat → Nat → Int32} {o x y i : Nat} (h : ¬ a 13 (o + i) = 0 ∨ (x ≤ i ∧ i < y)) : blH a o x y i = 1 := if_pos h
theorem blH_0 {a : Nat → Nat → Int32} {o x y i : Nat} (h : ¬ (¬ a 13 (o + i) = 0 ∨ (x ≤ i ∧ i < y))) : blH a o x y i = 0 := if_neg h
def qsA (a : Nat → Nat → Int32) (q : Nat) (pj tp : Int32) : Nat → Nat → Int32 := va_up (va_up (va_up (va_up a 23 (upd (a 23) q pj)) 24 (upd (a 24) q tp)) 25 (upd (a 25) q 0)) 26 (upd (a 26) q 0)
def askA (a : Nat → Nat → Int32) (b q : Nat) (nw t : Int32) : Nat → Nat → Int32 := va_up (va_up (va_up a 25 (upd (a 25) q (a 25 q ||| 1 <<< (nI b &&& 31)))) 28 (upd (a 28) b nw)) 29 (upd (a 29) b (t + 1))
