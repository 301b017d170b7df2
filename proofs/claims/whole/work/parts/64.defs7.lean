theorem i_byte {x : Int32} (h1 : -128 ≤ x.toInt) (h2 : x.toInt < 128) : x.toInt8.toInt32 = x := by
  apply Int32.toInt_inj.1
  rw [Int8.toInt_toInt32, Int32.toInt_toInt8, Int.bmod_eq_of_le (by omega) (by omega)]
def okU (v : Int64) (k : Nat) : Prop := 32 ≤ (byU v k).toInt ∧ (byU v k).toInt ≤ 126
theorem okU_all {v : Int64} {n : Nat} (h : ∀ i, i < n → okU v (n - 1 - i)) : ∀ i, i < n → okU v i := fun i hi => by
  have h1 := h (n - 1 - i) (by omega)
  rw [show n - 1 - (n - 1 - i) = i by omega] at h1
  exact h1
