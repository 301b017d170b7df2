/-! pure words: rights, copies, the log's chain -/
def cv (fs fe : Nat → Int32) (i : Nat) (nw : Int32) : Bool := decide ((fs i).toInt ≤ nw.toInt) && decide (nw.toInt < (fe i).toInt)
def opn (wd : Int32) (fs fe : Nat → Int32) (i : Nat) (nw : Int32) : Bool := decide (wd = 0) && cv fs fe i nw
theorem up_4 {α : Type} {g : Nat → α} {r a : Nat} (h : r ≠ a) (x0 y0 x y : α) : va_up (va_up (va_up (va_up g a x0) r y0) a x) r y = va_up (va_up g a x) r y := by
  funext j
  by_cases h1 : j = r
  · subst h1; rw [va_up_self, va_up_self]
  · rw [va_up_ne _ _ h1, va_up_ne _ _ h1]
    by_cases h2 : j = a
    · subst h2; rw [va_up_self, va_up_self]
    · rw [va_up_ne _ _ h2, va_up_ne _ _ h1, va_up_ne _ _ h2, va_up_ne _ _ h2]
theorem up_2 {α : Type} {g : Nat → α} {r a : Nat} (x : α) (h : g a = x) (y : α) : va_up (va_up g a x) r y = va_up g r y := by rw [up_same h]
/-- the mark of a bidder's number at the s-th space -/
def dbl (b : Int32) (s : Nat) : Bool := decide ((b >>> ((nI s - nI s / 3 * 3) &&& 31)) &&& 1 = 1)
/-- the spaces among the first k bytes of f -/
def mkS (f : Nat → Int32) : Nat → Nat
  | 0 => 0
  | k + 1 => mkS f k + (if f k = 32 then 1 else 0)
/-- how many bytes a copy has for the first k bytes of f (z: marked) -/
def mkN (z : Bool) (b : Int32) (f : Nat → Int32) : Nat → Nat
  | 0 => 0
  | k + 1 => mkN z b f k + 1 + (if (z && decide (f k = 32) && dbl b (mkS f k)) = true then 1 else 0)
/-- the copy itself, over what was there -/
def mkF (z : Bool) (b : Int32) (f base : Nat → Int32) : Nat → Nat → Int32
  | 0 => base
  | k + 1 => if (z && decide (f k = 32) && dbl b (mkS f k)) = true then upd (upd (mkF z b f base k) (mkN z b f k) (f k)) (mkN z b f k + 1) 32 else upd (mkF z b f base k) (mkN z b f k) (f k)
theorem mkN_le (z : Bool) (b : Int32) (f : Nat → Int32) : ∀ k, mkN z b f k ≤ 2 * k
  | 0 => Nat.le_refl 0
  | k + 1 => by have := mkN_le z b f k; unfold mkN; split <;> omega
theorem mkN_ge (z : Bool) (b : Int32) (f : Nat → Int32) : ∀ k, k ≤ mkN z b f k
  | 0 => Nat.le_refl 0
  | k + 1 => by have := mkN_ge z b f k; unfold mkN; split <;> omega
theorem mkS_le (f : Nat → Int32) : ∀ k, mkS f k ≤ k
  | 0 => Nat.le_refl 0
  | k + 1 => by have := mkS_le f k; unfold mkS; split <;> omega
theorem mkN_1 {z : Bool} {b : Int32} {f : Nat → Int32} {k : Nat} (h : (z && decide (f k = 32) && dbl b (mkS f k)) = false) : mkN z b f (k + 1) = mkN z b f k + 1 := by rw [mkN, if_neg (by rw [h]; decide)]
theorem mkN_2 {z : Bool} {b : Int32} {f : Nat → Int32} {k : Nat} (h : (z && decide (f k = 32) && dbl b (mkS f k)) = true) : mkN z b f (k + 1) = mkN z b f k + 1 + 1 := by rw [mkN, if_pos h]
theorem mkF_1 {z : Bool} {b : Int32} {f base : Nat → Int32} {k : Nat} (h : (z && decide (f k = 32) && dbl b (mkS f k)) = false) : upd (mkF z b f base k) (mkN z b f k) (f k) = mkF z b f base (k + 1) := by rw [mkF, if_neg (by rw [h]; decide)]
theorem mkF_2 {z : Bool} {b : Int32} {f base : Nat → Int32} {k : Nat} (h : (z && decide (f k = 32) && dbl b (mkS f k)) = true) : upd (upd (mkF z b f base k) (mkN z b f k) (f k)) (mkN z b f k + 1) 32 = mkF z b f base (k + 1) := by rw [mkF, if_pos h]
theorem mkS_1 {f : Nat → Int32} {k : Nat} (h : f k = 32) : mkS f (k + 1) = mkS f k + 1 := by rw [mkS, if_pos h]
theorem mkS_0 {f : Nat → Int32} {k : Nat} (h : ¬ f k = 32) : mkS f (k + 1) = mkS f k := by rw [mkS, if_neg h]; rfl
/-- what a copy holds doesn't depend on what was there -/
theorem mkF_any (z : Bool) (b : Int32) (f b1 b2 : Nat → Int32) : ∀ k i, i < mkN z b f k → mkF z b f b1 k i = mkF z b f b2 k i
  | 0, i, h => absurd h (Nat.not_lt_zero i)
  | k + 1, i, h => by
    have ih := mkF_any z b f b1 b2 k i
    cases hc : (z && decide (f k = 32) && dbl b (mkS f k)) with
    | false =>
      rw [← mkF_1 hc, ← mkF_1 hc]
      rw [mkN_1 hc] at h
      by_cases e : i = mkN z b f k
      · subst e; rw [pk_us, pk_us]
      · rw [pk_un e, pk_un e]; exact ih (by omega)
    | true =>
      rw [← mkF_2 hc, ← mkF_2 hc]
      rw [mkN_2 hc] at h
      by_cases e : i = mkN z b f k + 1
      · subst e; rw [pk_us, pk_us]
      · rw [pk_un e, pk_un e]
        by_cases e2 : i = mkN z b f k
        · subst e2; rw [pk_us, pk_us]
        · rw [pk_un e2, pk_un e2]; exact ih (by omega)
/-- a link of the chain -/
def lk (c : Int64) (t b p v : Int32) : Int64 := 31 * c + 1000 * t.toInt64 + 100 * b.toInt64 + 10 * p.toInt64 + v.toInt64
/-- the chain of entry i, i - 1 .. 0, and 7 before them -/
def lkc (ft fb fp fv : Nat → Int32) : Nat → Int64
  | 0 => 7
  | i + 1 => lk (lkc ft fb fp fv i) (ft i) (fb i) (fp i) (fv i)
/-- how many of the first k entries are of this bidder, paper and version -/
def rdc (fb fp fv : Nat → Int32) (b p v : Int32) : Nat → Nat
  | 0 => 0
  | k + 1 => rdc fb fp fv b p v k + (if fb k = b ∧ fp k = p ∧ fv k = v then 1 else 0)
theorem rdc_le (fb fp fv : Nat → Int32) (b p v : Int32) : ∀ k, rdc fb fp fv b p v k ≤ k
  | 0 => Nat.le_refl 0
  | k + 1 => by have := rdc_le fb fp fv b p v k; unfold rdc; split <;> omega
theorem rdc_1 {fb fp fv : Nat → Int32} {b p v : Int32} {k : Nat} (h : fb k = b ∧ fp k = p ∧ fv k = v) : rdc fb fp fv b p v (k + 1) = rdc fb fp fv b p v k + 1 := by rw [rdc, if_pos h]
theorem rdc_0 {fb fp fv : Nat → Int32} {b p v : Int32} {k : Nat} (h : ¬ (fb k = b ∧ fp k = p ∧ fv k = v)) : rdc fb fp fv b p v (k + 1) = rdc fb fp fv b p v k := by rw [rdc, if_neg h]; rfl
theorem dt {P : Prop} [Decidable P] (h : P) : decide P = true := decide_eq_true h
theorem df {P : Prop} [Decidable P] (h : ¬ P) : decide P = false := decide_eq_false h
/-- Integer.bitCount's own words -/
def bc1 (x : Int32) : Int32 := x - ((x.toUInt32 >>> ((1 : Int32).toUInt32 &&& Int32.toUInt32 31)).toInt32 &&& 1431655765)
def bc2 (x : Int32) : Int32 := (x &&& 858993459) + ((x.toUInt32 >>> ((2 : Int32).toUInt32 &&& Int32.toUInt32 31)).toInt32 &&& 858993459)
def bc3 (x : Int32) : Int32 := (x + (x.toUInt32 >>> ((4 : Int32).toUInt32 &&& Int32.toUInt32 31)).toInt32) &&& 252645135
def bc4 (x : Int32) : Int32 := x + (x.toUInt32 >>> ((8 : Int32).toUInt32 &&& Int32.toUInt32 31)).toInt32
def bc5 (x : Int32) : Int32 := (x + (x.toUInt32 >>> ((16 : Int32).toUInt32 &&& Int32.toUInt32 31)).toInt32) &&& 63
def bc (x : Int32) : Int32 := bc5 (bc4 (bc3 (bc2 (bc1 x))))
def fl_f (f : Nat → Int32) (v : Int32) (k : Nat) : Nat → Int32 := fun i => if i < k then v else f i
theorem fl_0 (f : Nat → Int32) (v : Int32) : fl_f f v 0 = f := by funext i; rfl
theorem fl_1 (f : Nat → Int32) (v : Int32) (k : Nat) : upd (fl_f f v k) k v = fl_f f v (k + 1) := by
  funext i
  by_cases e : i = k
  · subst e; rw [pk_us, fl_f, if_pos (Nat.lt_succ_self i)]
  · rw [pk_un e]
    unfold fl_f
    by_cases h : i < k
    · rw [if_pos h, if_pos (by omega)]
    · rw [if_neg h, if_neg (by omega)]
theorem zt {b : Bool} (h : b = true) : some (Value.int 1) = some (Value.int (zb b)) := by rw [h]; rfl
theorem zf {b : Bool} (h : b = false) : some (Value.int 0) = some (Value.int (zb b)) := by rw [h]; rfl
/-- a row's first k bytes, then zeros -/
def cpf (f : Nat → Int32) (k : Nat) : Nat → Int32 := fun i => if i < k then f i else 0
theorem cpf_0 (f : Nat → Int32) : cpf f 0 = (fun _ => 0) := by funext i; rfl
theorem cpf_1 (f : Nat → Int32) (k : Nat) : upd (cpf f k) k (f k) = cpf f (k + 1) := by
  funext i
  by_cases e : i = k
  · subst e; rw [pk_us, cpf, if_pos (Nat.lt_succ_self i)]
  · rw [pk_un e]
    unfold cpf
    by_cases h : i < k
    · rw [if_pos h, if_pos (by omega)]
    · rw [if_neg h, if_neg (by omega)]
