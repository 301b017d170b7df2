/-! pure words of the reference's calls -/
def seeB (kd wd lg : Int32) (fs fe : Nat → Int32) (i : Nat) (nw : Int32) : Bool := opn wd fs fe i nw && (decide (¬ kd = 1) || decide (lg.toInt ≤ nw.toInt))
/-- byte k of a long, from the lowest on -/
def by8 (v : Int64) (k : Nat) : Int32 := (v >>> ((nI (8 * k)).toInt64 &&& 63)).toInt32 &&& 255
def okB (v : Int64) (k : Nat) : Prop := 32 ≤ (by8 v k).toInt ∧ (by8 v k).toInt ≤ 126
/-- f with k values of h put from o on -/
def pb (f h : Nat → Int32) (o : Nat) : Nat → Nat → Int32
  | 0 => f
  | k + 1 => upd (pb f h o k) (o + k) (h k)
theorem pb_out (f h : Nat → Int32) (o : Nat) : ∀ k i, (i < o ∨ o + k ≤ i) → pb f h o k i = f i
  | 0, _, _ => rfl
  | k + 1, i, hi => by
    show upd (pb f h o k) (o + k) (h k) i = f i
    rw [pk_un (by omega)]
    exact pb_out f h o k i (by omega)
theorem pb_in (f h : Nat → Int32) (o : Nat) : ∀ k i, i < k → pb f h o k (o + i) = h i
  | 0, _, hi => by omega
  | k + 1, i, hi => by
    show upd (pb f h o k) (o + k) (h k) (o + i) = h i
    by_cases e : i = k
    · subst e; rw [pk_us]
    · rw [pk_un (by omega)]
      exact pb_in f h o k i (by omega)
theorem pb_at (f h : Nat → Int32) (o k : Nat) : pb f h o k (o + k) = f (o + k) := pb_out f h o k (o + k) (by omega)
/-- equal at the first k places -/
def eqp (u w : Nat → Int32) : Nat → Bool
  | 0 => true
  | k + 1 => eqp u w k && (u k == w k)
theorem eqp_no {u w : Nat → Int32} {k : Nat} (h : eqp u w k = false) : ∀ m, k ≤ m → eqp u w m = false := by
  intro m hm
  induction m with
  | zero => rw [show k = 0 by omega] at h; exact h
  | succ m ih =>
    by_cases e : k = m + 1
    · rw [← e]; exact h
    · simp [eqp, ih (by omega)]
theorem eqp_dif {u w : Nat → Int32} {k m : Nat} (h : ¬ u k = w k) (hm : k < m) : eqp u w m = false := eqp_no (k := k + 1) (by simp [eqp, h]) m hm
theorem eqp_yes {u w : Nat → Int32} {k : Nat} (h0 : eqp u w k = true) (h : u k = w k) : eqp u w (k + 1) = true := by simp [eqp, h0, h]
theorem eqp_of {u w : Nat → Int32} : ∀ {k : Nat}, eqp u w k = true → ∀ i, i < k → u i = w i
  | 0, _, i, hi => by omega
  | k + 1, h, i, hi => by
    simp [eqp] at h
    by_cases e : i = k
    · subst e; exact h.2
    · exact eqp_of h.1 i (by omega)
theorem eqp_cong {u w u2 w2 : Nat → Int32} : ∀ {k : Nat}, (∀ i, i < k → u i = u2 i) → (∀ i, i < k → w i = w2 i) → eqp u w k = eqp u2 w2 k
  | 0, _, _ => rfl
  | k + 1, h1, h2 => by
    unfold eqp
    rw [eqp_cong (k := k) (fun i hi => h1 i (by omega)) (fun i hi => h2 i (by omega)), h1 k (by omega), h2 k (by omega)]
/-- somewhere below e, within the text's n bytes -/
def mw (bs bk dr : Nat → Int32) (dn n : Nat) : Nat → Bool
  | 0 => false
  | k + 1 => mw bs bk dr dn n k || (decide (k + dn ≤ n) && ma bs bk dr k dn)
theorem mw_yes {bs bk dr : Nat → Int32} {dn n k : Nat} (h : (decide (k + dn ≤ n) && ma bs bk dr k dn) = true) : ∀ m, k < m → mw bs bk dr dn n m = true := by
  intro m hm
  induction m with
  | zero => omega
  | succ m ih =>
    by_cases e : k = m
    · subst e
      show (mw bs bk dr dn n k || (decide (k + dn ≤ n) && ma bs bk dr k dn)) = true
      rw [h]; simp
    · show (mw bs bk dr dn n m || (decide (m + dn ≤ n) && ma bs bk dr m dn)) = true
      rw [ih (by omega)]; rfl
theorem mw_no {bs bk dr : Nat → Int32} {dn n k : Nat} (h0 : mw bs bk dr dn n k = false) (h : (decide (k + dn ≤ n) && ma bs bk dr k dn) = false) : mw bs bk dr dn n (k + 1) = false := by
  show (mw bs bk dr dn n k || (decide (k + dn ≤ n) && ma bs bk dr k dn)) = false
  rw [h0, h]; rfl
theorem mw_mz (bs bk dr : Nat → Int32) (dn n : Nat) (h1 : 1 ≤ dn) : mw bs bk dr dn n n = mz bs bk dr dn (n + 1 - dn) := by
  have key : ∀ m, mw bs bk dr dn n m = mz bs bk dr dn (min m (n + 1 - dn)) := by
    intro m
    induction m with
    | zero => rw [Nat.zero_min]; rfl
    | succ m ih =>
      show (mw bs bk dr dn n m || (decide (m + dn ≤ n) && ma bs bk dr m dn)) = _
      rw [ih]
      by_cases hc : m + dn ≤ n
      · rw [dt hc, show min m (n + 1 - dn) = m by omega, show min (m + 1) (n + 1 - dn) = m + 1 by omega]
        show _ = (mz bs bk dr dn m || ma bs bk dr m dn)
        simp
      · rw [df hc, show min (m + 1) (n + 1 - dn) = min m (n + 1 - dn) by omega]
        simp
  rw [key n, show min n (n + 1 - dn) = n + 1 - dn by omega]
/-- the bits of those whose copy begins with the draft -/
def nmB (f dr : Nat → Int32) (n dn b : Nat) : Bool := decide (dn ≤ mkN true (nI b) f n) && eqp (mkF true (nI b) f (fun _ => 0) n) dr dn
def nmR (f dr : Nat → Int32) (n dn : Nat) : Nat → Int32
  | 0 => 0
  | b + 1 => nmR f dr n dn b ||| (if nmB f dr n dn b = true then 1 <<< (nI b &&& 31) else 0)
/-- the sum of the first b bits -/
def sbt (ak : Int32) : Nat → Int32
  | 0 => 0
  | b + 1 => sbt ak b + ((ak >>> (nI b &&& 31)) &&& 1)
/-- how many of the first k papers are found -/
def cnt (h : Nat → Bool) : Nat → Nat
  | 0 => 0
  | k + 1 => cnt h k + (if h k = true then 1 else 0)
theorem cnt_1 {h : Nat → Bool} {k : Nat} (e : h k = true) : cnt h (k + 1) = cnt h k + 1 := by rw [cnt, if_pos e]
theorem cnt_0 {h : Nat → Bool} {k : Nat} (e : h k = false) : cnt h (k + 1) = cnt h k := by rw [cnt, if_neg (by rw [e]; decide)]; rfl
theorem cnt_le (h : Nat → Bool) : ∀ k, cnt h k ≤ k
  | 0 => Nat.le_refl 0
  | k + 1 => by have := cnt_le h k; unfold cnt; split <;> omega
theorem i_rem3 (b : Nat) (h : b < 1000) : nI b - nI b / 3 * 3 = nI (b % 3) := pk_rem (a := b) (d := 3) (by omega) (by decide) (by decide)
theorem bool2 (b : Bool) : b = true ∨ b = false := by cases b <;> simp
