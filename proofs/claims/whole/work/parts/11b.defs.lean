/-! pure words of the leaf classes -/
theorem up_same {α : Type} {f : Nat → α} {k : Nat} {v : α} (h : f k = v) : va_up f k v = f := by
  funext j
  by_cases hj : j = k
  · subst hj; rw [va_up_self, h]
  · rw [va_up_ne _ _ hj]
/-- what is shown of a byte: b, or 35 where it is black -/
def pl (b k : Int32) : Int32 := if k = 0 then b else 35
def bl_f (bk : Nat → Int32) (x y k : Nat) : Nat → Int32 := fun i => if i < k ∧ x ≤ i ∧ i < y then 1 else bk i
def bl_c (bk : Nat → Int32) (x y : Nat) : Nat → Nat
  | 0 => 0
  | k + 1 => bl_c bk x y k + (if (x ≤ k ∧ k < y) ∨ ¬ bk k = 0 then 1 else 0)
theorem bl_f_0 (bk : Nat → Int32) (x y : Nat) : bl_f bk x y 0 = bk := by funext i; simp [bl_f]
theorem bl_f_out {bk : Nat → Int32} {x y k : Nat} (h : ¬ (x ≤ k ∧ k < y)) : bl_f bk x y k = bl_f bk x y (k + 1) := by
  funext i
  unfold bl_f
  by_cases h1 : i < k ∧ x ≤ i ∧ i < y
  · rw [if_pos h1, if_pos ⟨by omega, h1.2⟩]
  · rw [if_neg h1, if_neg (fun h2 => by
      by_cases e : i = k
      · subst e; exact h h2.2
      · exact h1 ⟨by omega, h2.2⟩)]
theorem bl_f_in {bk : Nat → Int32} {x y k : Nat} (h1 : x ≤ k) (h2 : k < y) : upd (bl_f bk x y k) k (vp_nar .boolean 1) = bl_f bk x y (k + 1) := by
  funext i
  have e1 : vp_nar .boolean 1 = 1 := by decide
  by_cases e : i = k
  · subst e
    rw [pk_us, e1, bl_f, if_pos ⟨by omega, h1, h2⟩]
  · rw [pk_un e]
    unfold bl_f
    by_cases h3 : i < k ∧ x ≤ i ∧ i < y
    · rw [if_pos h3, if_pos ⟨by omega, h3.2⟩]
    · rw [if_neg h3, if_neg (fun h4 => h3 ⟨by omega, h4.2⟩)]
theorem bl_f_at {bk : Nat → Int32} {x y k : Nat} : bl_f bk x y k k = bk k := by unfold bl_f; rw [if_neg (fun h => by omega)]
theorem bl_c_le (bk : Nat → Int32) (x y : Nat) : ∀ k, bl_c bk x y k ≤ k
  | 0 => Nat.le_refl 0
  | k + 1 => by have := bl_c_le bk x y k; unfold bl_c; split <;> omega
/-- the words of a row stand in a text from q on, the first k of them -/
def ma (bs bk bs2 : Nat → Int32) (q : Nat) : Nat → Bool
  | 0 => true
  | k + 1 => ma bs bk bs2 q k && (bk (q + k) == 0 && bs (q + k) == bs2 k)
theorem ma_no {bs bk bs2 : Nat → Int32} {q k : Nat} (h : ma bs bk bs2 q k = false) : ∀ m, k ≤ m → ma bs bk bs2 q m = false := by
  intro m hm
  induction m with
  | zero => rw [show k = 0 by omega] at h; exact h
  | succ m ih =>
    by_cases e : k = m + 1
    · rw [← e]; exact h
    · simp [ma, ih (by omega)]
theorem ma_blk {bs bk bs2 : Nat → Int32} {q k m : Nat} (h : ¬ bk (q + k) = 0) (hm : k < m) : ma bs bk bs2 q m = false :=
  ma_no (k := k + 1) (by simp [ma, h]) m hm
theorem ma_dif {bs bk bs2 : Nat → Int32} {q k m : Nat} (h : ¬ bs (q + k) = bs2 k) (hm : k < m) : ma bs bk bs2 q m = false :=
  ma_no (k := k + 1) (by simp [ma, h]) m hm
theorem ma_yes {bs bk bs2 : Nat → Int32} {q k : Nat} (h0 : ma bs bk bs2 q k = true) (h1 : bk (q + k) = 0) (h2 : bs (q + k) = bs2 k) : ma bs bk bs2 q (k + 1) = true := by simp [ma, h0, h1, h2]
/-- somewhere at a place below e -/
def mz (bs bk bs2 : Nat → Int32) (n2 : Nat) : Nat → Bool
  | 0 => false
  | k + 1 => mz bs bk bs2 n2 k || ma bs bk bs2 k n2
theorem mz_yes {bs bk bs2 : Nat → Int32} {n2 k : Nat} (h : ma bs bk bs2 k n2 = true) : ∀ m, k < m → mz bs bk bs2 n2 m = true := by
  intro m hm
  induction m with
  | zero => omega
  | succ m ih =>
    by_cases e : k = m
    · subst e; simp [mz, h]
    · simp [mz, ih (by omega)]
theorem mz_no {bs bk bs2 : Nat → Int32} {n2 k : Nat} (h0 : mz bs bk bs2 n2 k = false) (h : ma bs bk bs2 k n2 = false) : mz bs bk bs2 n2 (k + 1) = false := by simp [mz, h0, h]
def zb (b : Bool) : Int32 := if b then 1 else 0
theorem zb_t {b : Bool} (h : b = true) : (1 : Int32) = zb b := by rw [h]; rfl
theorem zb_f {b : Bool} (h : b = false) : (0 : Int32) = zb b := by rw [h]; rfl
theorem bl_c_in {bk : Nat → Int32} {x y k : Nat} (h : (x ≤ k ∧ k < y) ∨ ¬ bk k = 0) : bl_c bk x y (k + 1) = bl_c bk x y k + 1 := by rw [bl_c, if_pos h]
theorem bl_c_out {bk : Nat → Int32} {x y k : Nat} (h : ¬ (x ≤ k ∧ k < y)) (h2 : bk k = 0) : bl_c bk x y (k + 1) = bl_c bk x y k := by
  rw [bl_c, if_neg (fun h9 => h9.elim h (fun h8 => h8 h2))]; rfl
