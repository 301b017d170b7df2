/-! pure facts that tie the class's words to the reference's -/
theorem ti_add {x y : Int32} (h1 : -2147483648 ≤ x.toInt + y.toInt) (h2 : x.toInt + y.toInt < 2147483648) : (x + y).toInt = x.toInt + y.toInt := by
  rw [Int32.toInt_add]
  rw [show (2 : Nat) ^ 32 = 4294967296 by decide]
  unfold Int.bmod
  dsimp only
  split <;> omega
theorem by_e1 : ∀ k, k < 8 → (((nI (8 * k)).toInt64 &&& 63).toBitVec.smod 64).toNat = 8 * k := by decide +kernel
theorem by_e2 : ∀ k, k < 8 → (((nI (8 * k)).toInt64.toUInt64 &&& Int64.toUInt64 63).toBitVec % 64).toNat = 8 * k := by decide +kernel
theorem by_255 : ∀ i, i < 32 → ¬ i < 8 → (255 : Int32).toBitVec.getLsbD i = false := by decide +kernel
theorem by_x (v : Int64) {k : Nat} (hk : k < 8) : byU v k = by8 v k := by
  have e1 := by_e1 k hk
  have e2 := by_e2 k hk
  have h1 : ((v.toUInt64 >>> ((nI (8 * k)).toInt64.toUInt64 &&& Int64.toUInt64 63)).toInt64).toBitVec = v.toBitVec >>> (8 * k) := by
    show v.toUInt64.toBitVec >>> (((nI (8 * k)).toInt64.toUInt64 &&& Int64.toUInt64 63).toBitVec % 64).toNat = _
    rw [e2]; rfl
  have h2 : (v >>> ((nI (8 * k)).toInt64 &&& 63)).toBitVec = v.toBitVec.sshiftRight (8 * k) := by
    show v.toBitVec.sshiftRight ((((nI (8 * k)).toInt64 &&& 63).toBitVec.smod 64).toNat) = _
    rw [e1]
  apply Int32.toBitVec_inj.mp
  apply BitVec.eq_of_getLsbD_eq
  intro i hi
  show ((((v.toUInt64 >>> ((nI (8 * k)).toInt64.toUInt64 &&& Int64.toUInt64 63)).toInt64).toInt32 &&& 255).toBitVec).getLsbD i = (((v >>> ((nI (8 * k)).toInt64 &&& 63)).toInt32 &&& 255).toBitVec).getLsbD i
  rw [Int32.toBitVec_and, Int32.toBitVec_and, BitVec.getLsbD_and, BitVec.getLsbD_and]
  by_cases h8 : i < 8
  · rw [Int64.toBitVec_toInt32, Int64.toBitVec_toInt32, h1, h2, BitVec.getLsbD_signExtend, BitVec.getLsbD_signExtend, if_pos (by omega), if_pos (by omega), BitVec.getLsbD_ushiftRight, BitVec.getLsbD_sshiftRight, if_pos (by omega), decide_eq_false (show ¬ 64 ≤ i by omega)]
    simp
  · rw [by_255 i hi h8]; simp
theorem ok_x (v : Int64) {k : Nat} (hk : k < 8) : okU v k ↔ okB v k := by unfold okU okB; rw [by_x v hk]
theorem ok_xs (v : Int64) {n : Nat} (hn : n ≤ 8) : (∀ i, i < n → okU v i) ↔ (∀ i, i < n → okB v i) :=
  ⟨fun h i hi => (ok_x v (by omega)).mp (h i hi), fun h i hi => (ok_x v (by omega)).mpr (h i hi)⟩
theorem bc_s : ∀ n, n < 64 → bc (nI n) = sbt (nI n) 6 := by decide +kernel
theorem or_b : ∀ n, n < 64 → ∀ b, b < 6 → (nI n ||| 1 <<< (nI b &&& 31)) = nI (n ||| 1 <<< b) ∧ (n ||| 1 <<< b) < 64 := by decide +kernel
theorem lkc_cg {f0 f1 f2 f3 h0 h1 h2 h3 : Nat → Int32} : ∀ i, (∀ q, q < i → f0 q = h0 q ∧ f1 q = h1 q ∧ f2 q = h2 q ∧ f3 q = h3 q) → lkc f0 f1 f2 f3 i = lkc h0 h1 h2 h3 i
  | 0, _ => rfl
  | i + 1, h => by
    have ih := lkc_cg i (fun q hq => h q (by omega))
    obtain ⟨e0, e1, e2, e3⟩ := h i (by omega)
    unfold lkc
    rw [ih, e0, e1, e2, e3]
theorem ma_cg {b1 b2 k1 k2 d1 d2 : Nat → Int32} {q : Nat} : ∀ k, (∀ i, i < k → b1 (q + i) = b2 (q + i) ∧ k1 (q + i) = k2 (q + i) ∧ d1 i = d2 i) → ma b1 k1 d1 q k = ma b2 k2 d2 q k
  | 0, _ => rfl
  | k + 1, h => by
    obtain ⟨e0, e1, e2⟩ := h k (by omega)
    unfold ma
    rw [ma_cg k (fun i hi => h i (by omega)), e0, e1, e2]
theorem mz_cg {b1 b2 k1 k2 d1 d2 : Nat → Int32} {n2 n : Nat} (hb : ∀ i, i < n → b1 i = b2 i ∧ k1 i = k2 i) (hd : ∀ i, i < n2 → d1 i = d2 i) : ∀ k, (k = 0 ∨ k + n2 ≤ n + 1) → mz b1 k1 d1 n2 k = mz b2 k2 d2 n2 k
  | 0, _ => rfl
  | k + 1, h => by
    unfold mz
    rw [mz_cg hb hd k (Or.inr (by omega)), ma_cg n2 (fun i hi => ⟨(hb _ (by omega)).1, (hb _ (by omega)).2, hd i hi⟩)]
theorem nmB_cg {f d1 d2 : Nat → Int32} {n dn b : Nat} (h : ∀ i, i < dn → d1 i = d2 i) : nmB f d1 n dn b = nmB f d2 n dn b := by
  unfold nmB
  rw [eqp_cong (u2 := mkF true (nI b) f (fun _ => 0) n) (w2 := d2) (fun _ _ => rfl) h]
theorem nmR_cg {f d1 d2 : Nat → Int32} {n dn : Nat} (h : ∀ i, i < dn → d1 i = d2 i) : ∀ b, nmR f d1 n dn b = nmR f d2 n dn b
  | 0 => rfl
  | b + 1 => by
    unfold nmR
    rw [nmR_cg h b, nmB_cg h]
theorem see_0 {kd : Int32} (h : kd = 0) (wd lg : Int32) (fs fe : Nat → Int32) (i : Nat) (nw : Int32) : seeB kd wd lg fs fe i nw = opn wd fs fe i nw := by
  subst h
  unfold seeB
  rw [dt (show ¬ (0 : Int32) = 1 by decide)]
  simp
theorem see_2 {kd : Int32} (h : kd = 2) (wd lg : Int32) (fs fe : Nat → Int32) (i : Nat) (nw : Int32) : seeB kd wd lg fs fe i nw = opn wd fs fe i nw := by
  subst h
  unfold seeB
  rw [dt (show ¬ (2 : Int32) = 1 by decide)]
  simp
theorem see_1 {kd : Int32} (h : kd = 1) (wd lg : Int32) (fs fe : Nat → Int32) (i : Nat) (nw : Int32) : seeB kd wd lg fs fe i nw = (opn wd fs fe i nw && decide (lg.toInt ≤ nw.toInt)) := by
  subst h
  unfold seeB
  rw [df (show ¬ ¬ (1 : Int32) = 1 by decide)]
  simp
theorem bl_c_cg {k1 k2 : Nat → Int32} {x y : Nat} : ∀ n, (∀ i, i < n → k1 i = k2 i) → bl_c k1 x y n = bl_c k2 x y n
  | 0, _ => rfl
  | n + 1, h => by
    unfold bl_c
    rw [bl_c_cg n (fun i hi => h i (by omega)), h n (by omega)]
theorem pl_8 {b k : Int32} (h1 : 32 ≤ b.toInt) (h2 : b.toInt ≤ 126) : (pl b k).toInt8.toInt32 = pl b k := by
  unfold pl
  split
  · exact i_byte (by omega) (by omega)
  · decide
theorem sw (w : Int32) : w = 0 ∨ w = 1 ∨ w = 2 ∨ w = 3 ∨ w = 4 ∨ w = 5 ∨ (w.toInt < 0 ∨ 5 < w.toInt) := by
  rcases ix_n w 6 (by decide) with ⟨j, hj, rfl⟩ | h
  · rcases (show j = 0 ∨ j = 1 ∨ j = 2 ∨ j = 3 ∨ j = 4 ∨ j = 5 by omega) with rfl | rfl | rfl | rfl | rfl | rfl
    · exact Or.inl rfl
    · exact Or.inr (Or.inl rfl)
    · exact Or.inr (Or.inr (Or.inl rfl))
    · exact Or.inr (Or.inr (Or.inr (Or.inl rfl)))
    · exact Or.inr (Or.inr (Or.inr (Or.inr (Or.inl rfl))))
    · exact Or.inr (Or.inr (Or.inr (Or.inr (Or.inr (Or.inl rfl)))))
  · exact Or.inr (Or.inr (Or.inr (Or.inr (Or.inr (Or.inr (by omega))))))
