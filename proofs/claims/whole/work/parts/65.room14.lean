set_option maxHeartbeats 1000000 in
set_option maxRecDepth 100000 in
theorem c_X_type_n (l : Launch) (D : va_G) (ty : Nat → ClassId) (L : List Nat) (ad : Nat → Nat) (g : Nat → va_E) (pn qn : Nat) (nw : Int32) (tr : Int64) (v : Int64) (n : Int32) (m_0 : 0 ∈ L) (h_0 : g 0 = .inr (8, [.ref (ad 1), .ref (ad 3), .ref (ad 6), .int (nI pn), .ref (ad 7), .ref (ad 20), .ref (ad 22), .ref (ad 28), .int (nI qn), .ref (ad 29), .int nw, .long tr])) (h : ¬ (1 ≤ n.toInt ∧ n.toInt ≤ 8)) : m_E l yX8_type wsX8_type 2 42 D ty [.ref (ad 0), .long v, .int n] L ad g (some (.int (-1))) g := by
  intro sz
  refine Met.ofW (cc := cX8_type) (maxL := 6) (ret := (some .int)) (by decide) rfl ?_
  intro p e s m args below meth c s₁ B hml hv
  have hx := B.exec
  have hb := B.bytes
  have hrt := B.returns
  have hts := atoms_spec (ws := wsX8_type) B.pre
  have hown : s.vm.findClass RX8 = some m.cls := findClass_of_methodNamed B.named
  have hlocks := B.notSynchronized
  obtain ⟨rfl, hB⟩ := m_start hv
  generalize va_A (m_w L ad g) sz = A at hB ⊢
  generalize s.heap = H at hB ⊢
  generalize ([] : List Loc) = locs at hB ⊢
  have hl := lv_entry ([.ref (ad 0), .long v, .int n]) (n := 6) (Nat.le_of_ble_eq_true rfl)
  rw [lg_entry_eq]
  generalize (lg_sl ([.ref (ad 0), .long v, .int n]) ++ List.replicate (6 - (lg_sl ([.ref (ad 0), .long v, .int n])).length) Slot.unset).toArray = ls at hl ⊢
  have hl : lv_has ls 6 [(0, .ref (ad 0)), (1, .long v), (3, .int n)] := hl
  have l1 : (1 : Int32).toInt = 1 := by decide
  have l8 : (8 : Int32).toInt = 8 := by decide
  have l32 : (32 : Int32).toInt = 32 := by decide
  have l126 : (126 : Int32).toInt = 126 := by decide
  refine lv_iload_n hx hb dX8_type_0 rfl (lv_at hl 2 rfl) ?_
  refine lv_iconst (v := 1) hx hb dX8_type_1 (by decide) ?_
  refine b_icmp_lt 11 hx hb dX8_type_2 (by decide) (fun c_2 => ?_) (fun c_2 => ?_)
  · skip
    refine lv_iconst (v := (-1)) hx hb dX8_type_11 (by decide) ?_
    exact m_iret hx hb hrt hlocks hB (Nat.le_refl _) (Nat.le_refl _) dX8_type_12 ⟨rfl, rfl, rfl, rfl⟩
  · skip
    refine lv_iload_n hx hb dX8_type_5 rfl (lv_at hl 2 rfl) ?_
    refine lv_bipush (v := 8) hx hb dX8_type_6 (by decide) ?_
    refine b_icmp_le_f 13 hx hb dX8_type_8 (by decide) (by have := (by decide : (8 : Int32).toInt = 8); omega) ?_
    refine lv_iconst (v := (-1)) hx hb dX8_type_11 (by decide) ?_
    exact m_iret hx hb hrt hlocks hB (Nat.le_refl _) (Nat.le_refl _) dX8_type_12 ⟨rfl, rfl, rfl, rfl⟩
set_option maxHeartbeats 1000000 in
set_option maxRecDepth 100000 in
theorem c_X_type_bad (l : Launch) (D : va_G) (ty : Nat → ClassId) (L : List Nat) (ad : Nat → Nat) (g : Nat → va_E) (pn qn : Nat) (nw : Int32) (tr : Int64) (v : Int64) (n : Nat) (m_0 : 0 ∈ L) (h_0 : g 0 = .inr (8, [.ref (ad 1), .ref (ad 3), .ref (ad 6), .int (nI pn), .ref (ad 7), .ref (ad 20), .ref (ad 22), .ref (ad 28), .int (nI qn), .ref (ad 29), .int nw, .long tr])) (h1 : 1 ≤ n) (h8 : n ≤ 8) (hbad : ¬ ∀ i, i < n → okU v i) : m_E l yX8_type wsX8_type 2 42 D ty [.ref (ad 0), .long v, .int (nI n)] L ad g (some (.int (-1))) g := by
  intro sz
  refine Met.ofW (cc := cX8_type) (maxL := 6) (ret := (some .int)) (by decide) rfl ?_
  intro p e s m args below meth c s₁ B hml hv
  have hx := B.exec
  have hb := B.bytes
  have hrt := B.returns
  have hts := atoms_spec (ws := wsX8_type) B.pre
  have hown : s.vm.findClass RX8 = some m.cls := findClass_of_methodNamed B.named
  have hlocks := B.notSynchronized
  obtain ⟨rfl, hB⟩ := m_start hv
  generalize va_A (m_w L ad g) sz = A at hB ⊢
  generalize s.heap = H at hB ⊢
  generalize ([] : List Loc) = locs at hB ⊢
  have hl := lv_entry ([.ref (ad 0), .long v, .int (nI n)]) (n := 6) (Nat.le_of_ble_eq_true rfl)
  rw [lg_entry_eq]
  generalize (lg_sl ([.ref (ad 0), .long v, .int (nI n)]) ++ List.replicate (6 - (lg_sl ([.ref (ad 0), .long v, .int (nI n)])).length) Slot.unset).toArray = ls at hl ⊢
  have hl : lv_has ls 6 [(0, .ref (ad 0)), (1, .long v), (3, .int (nI n))] := hl
  have l1 : (1 : Int32).toInt = 1 := by decide
  have l8 : (8 : Int32).toInt = 8 := by decide
  have l32 : (32 : Int32).toInt = 32 := by decide
  have l126 : (126 : Int32).toInt = 126 := by decide
  have tI_n : (nI n).toInt = (n : Int) := nI_toInt (by omega)
  refine lv_iload_n hx hb dX8_type_0 rfl (lv_at hl 2 rfl) ?_
  refine lv_iconst (v := 1) hx hb dX8_type_1 (by decide) ?_
  refine b_icmp_lt_f 11 hx hb dX8_type_2 (by decide) (by have := (by decide : (1 : Int32).toInt = 1); omega) ?_
  refine lv_iload_n hx hb dX8_type_5 rfl (lv_at hl 2 rfl) ?_
  refine lv_bipush (v := 8) hx hb dX8_type_6 (by decide) ?_
  refine b_icmp_le_t 13 hx hb dX8_type_8 (by decide) (by have := (by decide : (8 : Int32).toInt = 8); omega) ?_
  refine lv_iload_n hx hb dX8_type_13 rfl (lv_at hl 2 rfl) ?_
  refine lv_iconst (v := 1) hx hb dX8_type_14 (by decide) ?_
  refine lv_isub hx hb dX8_type_15 ?_
  refine lv_istore (lv' := [(4, .int ((nI n) - 1)), (0, .ref (ad 0)), (1, .long v), (3, .int (nI n))]) hx hb dX8_type_16 hl (by decide) rfl (fun ls hl => ?_)
  replace hl : lv_has ls 6 [(0, .ref (ad 0)), (1, .long v), (3, .int (nI n)), (4, .int ((nI n) - 1))] := lv_sub hl [1, 2, 3, 0] rfl
  obtain ⟨k, hk0⟩ : ∃ k : Nat, k = 0 := ⟨0, rfl⟩
  replace hl : lv_has ls 6 [(0, .ref (ad 0)), (1, .long v), (3, .int (nI n)), (4, .int ((nI n) - (nI (k + 1))))] := by rw [hk0]; exact hl
  have hall : ∀ i, i < k → okU v (n - 1 - i) := by rw [hk0]; exact (fun i hi => absurd hi (Nat.not_lt_zero i))
  obtain ⟨jz, hj⟩ : ∃ jz : Nat, k + jz = n := ⟨n - k, by omega⟩
  clear hk0
  induction jz generalizing k H locs ls with
  | zero =>
    have hje : k = n := by omega
    exact absurd (okU_all (fun i hi => hall i (by omega))) hbad
  | succ jz ihj =>
    have hjl : k < n := by omega
    have hd9 : (nI n - nI (k + 1)).toInt = (n : Int) - ((k + 1 : Nat) : Int) := pk_sub_toInt (by omega) (by omega)
    rcases Classical.em (okU v (n - 1 - k)) with hk8 | hk8
    · skip
      have hall1 : ∀ i, i < k + 1 → okU v (n - 1 - i) := lt_s hall hk8
      refine lv_iload hx hb dX8_type_18 (lv_at hl 3 rfl) ?_
      refine b_if_lt_f 53 hx hb dX8_type_20 (by decide) (by rw [hd9]; omega) ?_
      refine lv_lload_n hx hb dX8_type_23 rfl (lv_at hl 1 rfl) ?_
      refine lv_iload hx hb dX8_type_24 (lv_at hl 3 rfl) ?_
      refine b_topi (w := nI (n - 1 - k)) (by rw [pk_sub (a := n) (b := k + 1) (by omega), show n - (k + 1) = n - 1 - k by omega]) ?_
      refine m_callSE (As := [.long v, .int (nI (n - 1 - k))]) (rest := []) (c_X_byteOf l D ty L ad _ v (n - 1 - k)) ⟨hx, hb, hml, hown, hts⟩ (va_cwS 2 hts gX8_type_X8_byteOf rfl rfl rfl (by decide +kernel) ⟨Nat.le_of_ble_eq_true rfl, Nat.le_of_ble_eq_true rfl⟩) hB rfl hl.1 rfl (Nat.le_of_ble_eq_true rfl) dX8_type_26 ⟨Nat.le_of_ble_eq_true rfl, Nat.le_of_ble_eq_true rfl⟩ (fun H locs hB => ?_)
      refine lv_istore (lv' := [(5, .int (byU v (n - 1 - k))), (0, .ref (ad 0)), (1, .long v), (3, .int (nI n)), (4, .int ((nI n) - (nI (k + 1))))]) hx hb dX8_type_29 hl (by decide) rfl (fun ls hl => ?_)
      refine lv_iload hx hb dX8_type_31 (lv_at hl 0 rfl) ?_
      refine lv_bipush (v := 32) hx hb dX8_type_33 (by decide) ?_
      refine b_icmp_lt_f 45 hx hb dX8_type_35 (by decide) (by rw [l32]; have := hk8.1; omega) ?_
      refine lv_iload hx hb dX8_type_38 (lv_at hl 0 rfl) ?_
      refine lv_bipush (v := 126) hx hb dX8_type_40 (by decide) ?_
      refine b_icmp_le_t 47 hx hb dX8_type_42 (by decide) (by rw [l126]; have := hk8.2; omega) ?_
      refine lv_iinc (v := (nI n) - (nI ((k + 1) + 1))) (lv' := [(4, .int ((nI n) - (nI ((k + 1) + 1)))), (5, .int (byU v (n - 1 - k))), (0, .ref (ad 0)), (1, .long v), (3, .int (nI n))]) hx hb dX8_type_47 hl (k := 4) rfl (dec1 n k) (by decide) rfl (fun ls hl => ?_)
      refine lv_goto (tgt := 18) hx hb dX8_type_50 (by decide) ?_
      have hall' : ∀ i, i < (k + 1) → okU v (n - 1 - i) := hall1
      have hl : lv_has ls 6 [(0, .ref (ad 0)), (1, .long v), (3, .int (nI n)), (4, .int ((nI n) - (nI ((k + 1) + 1))))] := lv_sub hl [2, 3, 4, 0] rfl
      apply ihj (k := (k + 1)) (H := H) (locs := locs) (ls := ls) <;> first | omega | exact hB | exact hl | exact hall'
    · skip
      have hk9 : (byU v (n - 1 - k)).toInt < 32 ∨ ¬ (byU v (n - 1 - k)).toInt < 32 ∧ 126 < (byU v (n - 1 - k)).toInt := by unfold okU at hk8; omega
      rcases hk9 with hk9 | hk9
      · skip
        refine lv_iload hx hb dX8_type_18 (lv_at hl 3 rfl) ?_
        refine b_if_lt_f 53 hx hb dX8_type_20 (by decide) (by rw [hd9]; omega) ?_
        refine lv_lload_n hx hb dX8_type_23 rfl (lv_at hl 1 rfl) ?_
        refine lv_iload hx hb dX8_type_24 (lv_at hl 3 rfl) ?_
        refine b_topi (w := nI (n - 1 - k)) (by rw [pk_sub (a := n) (b := k + 1) (by omega), show n - (k + 1) = n - 1 - k by omega]) ?_
        refine m_callSE (As := [.long v, .int (nI (n - 1 - k))]) (rest := []) (c_X_byteOf l D ty L ad _ v (n - 1 - k)) ⟨hx, hb, hml, hown, hts⟩ (va_cwS 2 hts gX8_type_X8_byteOf rfl rfl rfl (by decide +kernel) ⟨Nat.le_of_ble_eq_true rfl, Nat.le_of_ble_eq_true rfl⟩) hB rfl hl.1 rfl (Nat.le_of_ble_eq_true rfl) dX8_type_26 ⟨Nat.le_of_ble_eq_true rfl, Nat.le_of_ble_eq_true rfl⟩ (fun H locs hB => ?_)
        refine lv_istore (lv' := [(5, .int (byU v (n - 1 - k))), (0, .ref (ad 0)), (1, .long v), (3, .int (nI n)), (4, .int ((nI n) - (nI (k + 1))))]) hx hb dX8_type_29 hl (by decide) rfl (fun ls hl => ?_)
        refine lv_iload hx hb dX8_type_31 (lv_at hl 0 rfl) ?_
        refine lv_bipush (v := 32) hx hb dX8_type_33 (by decide) ?_
        refine b_icmp_lt_t 45 hx hb dX8_type_35 (by decide) (by rw [l32]; omega) ?_
        refine lv_iconst (v := (-1)) hx hb dX8_type_45 (by decide) ?_
        exact m_iret hx hb hrt hlocks hB (Nat.le_refl _) (Nat.le_refl _) dX8_type_46 ⟨rfl, rfl, rfl, rfl⟩
      · skip
        refine lv_iload hx hb dX8_type_18 (lv_at hl 3 rfl) ?_
        refine b_if_lt_f 53 hx hb dX8_type_20 (by decide) (by rw [hd9]; omega) ?_
        refine lv_lload_n hx hb dX8_type_23 rfl (lv_at hl 1 rfl) ?_
        refine lv_iload hx hb dX8_type_24 (lv_at hl 3 rfl) ?_
        refine b_topi (w := nI (n - 1 - k)) (by rw [pk_sub (a := n) (b := k + 1) (by omega), show n - (k + 1) = n - 1 - k by omega]) ?_
        refine m_callSE (As := [.long v, .int (nI (n - 1 - k))]) (rest := []) (c_X_byteOf l D ty L ad _ v (n - 1 - k)) ⟨hx, hb, hml, hown, hts⟩ (va_cwS 2 hts gX8_type_X8_byteOf rfl rfl rfl (by decide +kernel) ⟨Nat.le_of_ble_eq_true rfl, Nat.le_of_ble_eq_true rfl⟩) hB rfl hl.1 rfl (Nat.le_of_ble_eq_true rfl) dX8_type_26 ⟨Nat.le_of_ble_eq_true rfl, Nat.le_of_ble_eq_true rfl⟩ (fun H locs hB => ?_)
        refine lv_istore (lv' := [(5, .int (byU v (n - 1 - k))), (0, .ref (ad 0)), (1, .long v), (3, .int (nI n)), (4, .int ((nI n) - (nI (k + 1))))]) hx hb dX8_type_29 hl (by decide) rfl (fun ls hl => ?_)
        refine lv_iload hx hb dX8_type_31 (lv_at hl 0 rfl) ?_
        refine lv_bipush (v := 32) hx hb dX8_type_33 (by decide) ?_
        refine b_icmp_lt_f 45 hx hb dX8_type_35 (by decide) (by rw [l32]; omega) ?_
        refine lv_iload hx hb dX8_type_38 (lv_at hl 0 rfl) ?_
        refine lv_bipush (v := 126) hx hb dX8_type_40 (by decide) ?_
        refine b_icmp_le_f 47 hx hb dX8_type_42 (by decide) (by rw [l126]; omega) ?_
        refine lv_iconst (v := (-1)) hx hb dX8_type_45 (by decide) ?_
        exact m_iret hx hb hrt hlocks hB (Nat.le_refl _) (Nat.le_refl _) dX8_type_46 ⟨rfl, rfl, rfl, rfl⟩
set_option maxRecDepth 20000 in
theorem in_X8_type_X8 : ∀ w ∈ wsX80, w ∈ wsX8_type := by decide +kernel
set_option maxHeartbeats 1000000 in
set_option maxRecDepth 100000 in
theorem c_X_type_full (l : Launch) (D : va_G) (ty : Nat → ClassId) (L : List Nat) (ad : Nat → Nat) (g : Nat → va_E) (pn qn : Nat) (nw : Int32) (tr : Int64) (dn : Nat) (db : Nat → Int32) (v : Int64) (n : Nat) (m_0 : 0 ∈ L) (m_1 : 1 ∈ L) (m_2 : 2 ∈ L) (h_0 : g 0 = .inr (8, [.ref (ad 1), .ref (ad 3), .ref (ad 6), .int (nI pn), .ref (ad 7), .ref (ad 20), .ref (ad 22), .ref (ad 28), .int (nI qn), .ref (ad 29), .int nw, .long tr])) (h_1 : g 1 = .inr (5, [.ref (ad 2), .int (nI dn)])) (h_2 : g 2 = .inl (ty 2, 40, .inl db)) (h1 : 1 ≤ n) (h8 : n ≤ 8) (hok : ∀ i, i < n → okU v i) (hdn : dn ≤ 40) (hfull : 40 < dn + n) : m_E l yX8_type wsX8_type 2 42 D ty [.ref (ad 0), .long v, .int (nI n)] L ad g (some (.int (-3))) g := by
  intro sz
  refine Met.ofW (cc := cX8_type) (maxL := 6) (ret := (some .int)) (by decide) rfl ?_
  intro p e s m args below meth c s₁ B hml hv
  have hx := B.exec
  have hb := B.bytes
  have hrt := B.returns
  have hts := atoms_spec (ws := wsX8_type) B.pre
  have hown : s.vm.findClass RX8 = some m.cls := findClass_of_methodNamed B.named
  have hlocks := B.notSynchronized
  obtain ⟨rfl, hB⟩ := m_start hv
  generalize va_A (m_w L ad g) sz = A at hB ⊢
  generalize s.heap = H at hB ⊢
  generalize ([] : List Loc) = locs at hB ⊢
  have hl := lv_entry ([.ref (ad 0), .long v, .int (nI n)]) (n := 6) (Nat.le_of_ble_eq_true rfl)
  rw [lg_entry_eq]
  generalize (lg_sl ([.ref (ad 0), .long v, .int (nI n)]) ++ List.replicate (6 - (lg_sl ([.ref (ad 0), .long v, .int (nI n)])).length) Slot.unset).toArray = ls at hl ⊢
  have hl : lv_has ls 6 [(0, .ref (ad 0)), (1, .long v), (3, .int (nI n))] := hl
  have l1 : (1 : Int32).toInt = 1 := by decide
  have l8 : (8 : Int32).toInt = 8 := by decide
  have l32 : (32 : Int32).toInt = 32 := by decide
  have l126 : (126 : Int32).toInt = 126 := by decide
  have tI_n : (nI n).toInt = (n : Int) := nI_toInt (by omega)
  have tI_sp : (nI (40 - dn)).toInt = ((40 - dn : Nat) : Int) := nI_toInt (by omega)
  refine lv_iload_n hx hb dX8_type_0 rfl (lv_at hl 2 rfl) ?_
  refine lv_iconst (v := 1) hx hb dX8_type_1 (by decide) ?_
  refine b_icmp_lt_f 11 hx hb dX8_type_2 (by decide) (by have := (by decide : (1 : Int32).toInt = 1); omega) ?_
  refine lv_iload_n hx hb dX8_type_5 rfl (lv_at hl 2 rfl) ?_
  refine lv_bipush (v := 8) hx hb dX8_type_6 (by decide) ?_
  refine b_icmp_le_t 13 hx hb dX8_type_8 (by decide) (by have := (by decide : (8 : Int32).toInt = 8); omega) ?_
  refine lv_iload_n hx hb dX8_type_13 rfl (lv_at hl 2 rfl) ?_
  refine lv_iconst (v := 1) hx hb dX8_type_14 (by decide) ?_
  refine lv_isub hx hb dX8_type_15 ?_
  refine lv_istore (lv' := [(4, .int ((nI n) - 1)), (0, .ref (ad 0)), (1, .long v), (3, .int (nI n))]) hx hb dX8_type_16 hl (by decide) rfl (fun ls hl => ?_)
  replace hl : lv_has ls 6 [(0, .ref (ad 0)), (1, .long v), (3, .int (nI n)), (4, .int ((nI n) - 1))] := lv_sub hl [1, 2, 3, 0] rfl
  obtain ⟨k, hk0⟩ : ∃ k : Nat, k = 0 := ⟨0, rfl⟩
  replace hl : lv_has ls 6 [(0, .ref (ad 0)), (1, .long v), (3, .int (nI n)), (4, .int ((nI n) - (nI (k + 1))))] := by rw [hk0]; exact hl
  obtain ⟨jz, hj⟩ : ∃ jz : Nat, k + jz = n := ⟨n - k, by omega⟩
  clear hk0
  induction jz generalizing k H locs ls with
  | zero =>
    have hje : k = n := by omega
    have hd9 : (nI n - nI (k + 1)).toInt = (n : Int) - ((k + 1 : Nat) : Int) := pk_sub_toInt (by omega) (by omega)
    refine lv_iload hx hb dX8_type_18 (lv_at hl 3 rfl) ?_
    refine b_if_lt_t 53 hx hb dX8_type_20 (by decide) (by rw [hd9]; omega) ?_
    refine lv_iload_n hx hb dX8_type_53 rfl (lv_at hl 2 rfl) ?_
    refine lv_aload_n hx hb dX8_type_54 rfl (lv_at hl 0 rfl) ?_
    refine m_get (C := RX8) (T := TX8) (N := 12) (ci := 8) hx hb hts in_X8_type_X8 hown hB m_0 h_0 rfl 0 (by decide) (hts (.fieldLink RX8 14 "PaperRoom" "draft" "LPaperRoom$Row;") (by decide +kernel)) (fun _ h9 => h9) rfl dX8_type_55 ?_
    refine m_callVE (ci := 5) (As := []) (rest := [.int (nI n)]) (c_Row_space l D ty L ad g 1 2 dn 40 db m_1 m_2 h_1 h_2 hdn) ⟨hx, hb, hml, hown, hts⟩ (cwV 0 hts gX8_type_X5_space rfl rfl rfl (by decide +kernel) ⟨Nat.le_of_ble_eq_true rfl, Nat.le_of_ble_eq_true rfl⟩) hB m_1 h_1 rfl rfl hl.1 rfl (Nat.le_of_ble_eq_true rfl) dX8_type_58 ⟨Nat.le_of_ble_eq_true rfl, Nat.le_of_ble_eq_true rfl⟩ (fun H locs hB => ?_)
    refine b_icmp_le_f 67 hx hb dX8_type_61 (by decide) (by omega) ?_
    refine lv_bipush (v := (-3)) hx hb dX8_type_64 (by decide) ?_
    exact m_iret hx hb hrt hlocks hB (Nat.le_refl _) (Nat.le_refl _) dX8_type_66 ⟨rfl, rfl, rfl, rfl⟩
  | succ jz ihj =>
    have hjl : k < n := by omega
    have hd9 : (nI n - nI (k + 1)).toInt = (n : Int) - ((k + 1 : Nat) : Int) := pk_sub_toInt (by omega) (by omega)
    have hk8 := hok (n - 1 - k) (by omega)
    refine lv_iload hx hb dX8_type_18 (lv_at hl 3 rfl) ?_
    refine b_if_lt_f 53 hx hb dX8_type_20 (by decide) (by rw [hd9]; omega) ?_
    refine lv_lload_n hx hb dX8_type_23 rfl (lv_at hl 1 rfl) ?_
    refine lv_iload hx hb dX8_type_24 (lv_at hl 3 rfl) ?_
    refine b_topi (w := nI (n - 1 - k)) (by rw [pk_sub (a := n) (b := k + 1) (by omega), show n - (k + 1) = n - 1 - k by omega]) ?_
    refine m_callSE (As := [.long v, .int (nI (n - 1 - k))]) (rest := []) (c_X_byteOf l D ty L ad _ v (n - 1 - k)) ⟨hx, hb, hml, hown, hts⟩ (va_cwS 2 hts gX8_type_X8_byteOf rfl rfl rfl (by decide +kernel) ⟨Nat.le_of_ble_eq_true rfl, Nat.le_of_ble_eq_true rfl⟩) hB rfl hl.1 rfl (Nat.le_of_ble_eq_true rfl) dX8_type_26 ⟨Nat.le_of_ble_eq_true rfl, Nat.le_of_ble_eq_true rfl⟩ (fun H locs hB => ?_)
    refine lv_istore (lv' := [(5, .int (byU v (n - 1 - k))), (0, .ref (ad 0)), (1, .long v), (3, .int (nI n)), (4, .int ((nI n) - (nI (k + 1))))]) hx hb dX8_type_29 hl (by decide) rfl (fun ls hl => ?_)
    refine lv_iload hx hb dX8_type_31 (lv_at hl 0 rfl) ?_
    refine lv_bipush (v := 32) hx hb dX8_type_33 (by decide) ?_
    refine b_icmp_lt_f 45 hx hb dX8_type_35 (by decide) (by rw [l32]; have := hk8.1; omega) ?_
    refine lv_iload hx hb dX8_type_38 (lv_at hl 0 rfl) ?_
    refine lv_bipush (v := 126) hx hb dX8_type_40 (by decide) ?_
    refine b_icmp_le_t 47 hx hb dX8_type_42 (by decide) (by rw [l126]; have := hk8.2; omega) ?_
    refine lv_iinc (v := (nI n) - (nI ((k + 1) + 1))) (lv' := [(4, .int ((nI n) - (nI ((k + 1) + 1)))), (5, .int (byU v (n - 1 - k))), (0, .ref (ad 0)), (1, .long v), (3, .int (nI n))]) hx hb dX8_type_47 hl (k := 4) rfl (dec1 n k) (by decide) rfl (fun ls hl => ?_)
    refine lv_goto (tgt := 18) hx hb dX8_type_50 (by decide) ?_
    have hl : lv_has ls 6 [(0, .ref (ad 0)), (1, .long v), (3, .int (nI n)), (4, .int ((nI n) - (nI ((k + 1) + 1))))] := lv_sub hl [2, 3, 4, 0] rfl
    apply ihj (k := (k + 1)) (H := H) (locs := locs) (ls := ls) <;> first | omega | exact hB | exact hl
set_option maxHeartbeats 1000000 in
set_option maxRecDepth 100000 in
theorem c_X_type_ok (l : Launch) (D : va_G) (ty : Nat → ClassId) (L : List Nat) (ad : Nat → Nat) (g : Nat → va_E) (pn qn : Nat) (nw : Int32) (tr : Int64) (dn : Nat) (db : Nat → Int32) (v : Int64) (n : Nat) (m_0 : 0 ∈ L) (m_1 : 1 ∈ L) (m_2 : 2 ∈ L) (h_0 : g 0 = .inr (8, [.ref (ad 1), .ref (ad 3), .ref (ad 6), .int (nI pn), .ref (ad 7), .ref (ad 20), .ref (ad 22), .ref (ad 28), .int (nI qn), .ref (ad 29), .int nw, .long tr])) (h_1 : g 1 = .inr (5, [.ref (ad 2), .int (nI dn)])) (h_2 : g 2 = .inl (ty 2, 40, .inl db)) (h1 : 1 ≤ n) (h8 : n ≤ 8) (hok : ∀ i, i < n → okU v i) (hdn : dn ≤ 40) (hroom : dn + n ≤ 40) : m_E l yX8_type wsX8_type 2 42 D ty [.ref (ad 0), .long v, .int (nI n)] L ad g (some (.int (nI (dn + n)))) (va_up (va_up g 2 (.inl (ty 2, 40, .inl (pb db (fun i => byU v (n - 1 - i)) dn n)))) 1 (.inr (5, [.ref (ad 2), .int (nI (dn + n))]))) := by
  intro sz
  refine Met.ofW (cc := cX8_type) (maxL := 6) (ret := (some .int)) (by decide) rfl ?_
  intro p e s m args below meth c s₁ B hml hv
  have hx := B.exec
  have hb := B.bytes
  have hrt := B.returns
  have hts := atoms_spec (ws := wsX8_type) B.pre
  have hown : s.vm.findClass RX8 = some m.cls := findClass_of_methodNamed B.named
  have hlocks := B.notSynchronized
  obtain ⟨rfl, hB⟩ := m_start hv
  generalize va_A (m_w L ad g) sz = A at hB ⊢
  generalize s.heap = H at hB ⊢
  generalize ([] : List Loc) = locs at hB ⊢
  have hl := lv_entry ([.ref (ad 0), .long v, .int (nI n)]) (n := 6) (Nat.le_of_ble_eq_true rfl)
  rw [lg_entry_eq]
  generalize (lg_sl ([.ref (ad 0), .long v, .int (nI n)]) ++ List.replicate (6 - (lg_sl ([.ref (ad 0), .long v, .int (nI n)])).length) Slot.unset).toArray = ls at hl ⊢
  have hl : lv_has ls 6 [(0, .ref (ad 0)), (1, .long v), (3, .int (nI n))] := hl
  have l1 : (1 : Int32).toInt = 1 := by decide
  have l8 : (8 : Int32).toInt = 8 := by decide
  have l32 : (32 : Int32).toInt = 32 := by decide
  have l126 : (126 : Int32).toInt = 126 := by decide
  have tI_n : (nI n).toInt = (n : Int) := nI_toInt (by omega)
  have tI_sp : (nI (40 - dn)).toInt = ((40 - dn : Nat) : Int) := nI_toInt (by omega)
  refine lv_iload_n hx hb dX8_type_0 rfl (lv_at hl 2 rfl) ?_
  refine lv_iconst (v := 1) hx hb dX8_type_1 (by decide) ?_
  refine b_icmp_lt_f 11 hx hb dX8_type_2 (by decide) (by have := (by decide : (1 : Int32).toInt = 1); omega) ?_
  refine lv_iload_n hx hb dX8_type_5 rfl (lv_at hl 2 rfl) ?_
  refine lv_bipush (v := 8) hx hb dX8_type_6 (by decide) ?_
  refine b_icmp_le_t 13 hx hb dX8_type_8 (by decide) (by have := (by decide : (8 : Int32).toInt = 8); omega) ?_
  refine lv_iload_n hx hb dX8_type_13 rfl (lv_at hl 2 rfl) ?_
  refine lv_iconst (v := 1) hx hb dX8_type_14 (by decide) ?_
  refine lv_isub hx hb dX8_type_15 ?_
  refine lv_istore (lv' := [(4, .int ((nI n) - 1)), (0, .ref (ad 0)), (1, .long v), (3, .int (nI n))]) hx hb dX8_type_16 hl (by decide) rfl (fun ls hl => ?_)
  replace hl : lv_has ls 6 [(0, .ref (ad 0)), (1, .long v), (3, .int (nI n)), (4, .int ((nI n) - 1))] := lv_sub hl [1, 2, 3, 0] rfl
  obtain ⟨k, hk0⟩ : ∃ k : Nat, k = 0 := ⟨0, rfl⟩
  replace hl : lv_has ls 6 [(0, .ref (ad 0)), (1, .long v), (3, .int (nI n)), (4, .int ((nI n) - (nI (k + 1))))] := by rw [hk0]; exact hl
  obtain ⟨jz, hj⟩ : ∃ jz : Nat, k + jz = n := ⟨n - k, by omega⟩
  clear hk0
  induction jz generalizing k H locs ls with
  | zero =>
    have hje : k = n := by omega
    have hd9 : (nI n - nI (k + 1)).toInt = (n : Int) - ((k + 1 : Nat) : Int) := pk_sub_toInt (by omega) (by omega)
    refine lv_iload hx hb dX8_type_18 (lv_at hl 3 rfl) ?_
    refine b_if_lt_t 53 hx hb dX8_type_20 (by decide) (by rw [hd9]; omega) ?_
    refine lv_iload_n hx hb dX8_type_53 rfl (lv_at hl 2 rfl) ?_
    refine lv_aload_n hx hb dX8_type_54 rfl (lv_at hl 0 rfl) ?_
    refine m_get (C := RX8) (T := TX8) (N := 12) (ci := 8) hx hb hts in_X8_type_X8 hown hB m_0 h_0 rfl 0 (by decide) (hts (.fieldLink RX8 14 "PaperRoom" "draft" "LPaperRoom$Row;") (by decide +kernel)) (fun _ h9 => h9) rfl dX8_type_55 ?_
    refine m_callVE (ci := 5) (As := []) (rest := [.int (nI n)]) (c_Row_space l D ty L ad g 1 2 dn 40 db m_1 m_2 h_1 h_2 hdn) ⟨hx, hb, hml, hown, hts⟩ (cwV 0 hts gX8_type_X5_space rfl rfl rfl (by decide +kernel) ⟨Nat.le_of_ble_eq_true rfl, Nat.le_of_ble_eq_true rfl⟩) hB m_1 h_1 rfl rfl hl.1 rfl (Nat.le_of_ble_eq_true rfl) dX8_type_58 ⟨Nat.le_of_ble_eq_true rfl, Nat.le_of_ble_eq_true rfl⟩ (fun H locs hB => ?_)
    refine b_icmp_le_t 67 hx hb dX8_type_61 (by decide) (by omega) ?_
    refine lv_iload_n hx hb dX8_type_67 rfl (lv_at hl 2 rfl) ?_
    refine lv_iconst (v := 1) hx hb dX8_type_68 (by decide) ?_
    refine lv_isub hx hb dX8_type_69 ?_
    refine lv_istore (lv' := [(4, .int ((nI n) - 1)), (0, .ref (ad 0)), (1, .long v), (3, .int (nI n))]) hx hb dX8_type_70 hl (by decide) rfl (fun ls hl => ?_)
    replace hl : lv_has ls 6 [(0, .ref (ad 0)), (1, .long v), (4, .int ((nI n) - 1))] := lv_sub hl [1, 2, 0] rfl
    obtain ⟨i, hi0⟩ : ∃ i : Nat, i = 0 := ⟨0, rfl⟩
    replace hB : m_B D ty A s L ad (va_up (va_up g 2 (.inl (ty 2, 40, .inl (pb db (fun i => byU v (n - 1 - i)) dn i)))) 1 (.inr (5, [.ref (ad 2), .int (nI (dn + i))]))) H locs := by
      rw [hi0]
      show m_B D ty A s L ad (va_up (va_up g 2 (.inl (ty 2, 40, .inl db))) 1 (.inr (5, [.ref (ad 2), .int (nI dn)]))) H locs; rw [up_2 _ h_2, up_same (f := g) h_1]; exact hB
    replace hl : lv_has ls 6 [(0, .ref (ad 0)), (1, .long v), (4, .int ((nI n) - (nI (i + 1))))] := by rw [hi0]; exact hl
    obtain ⟨uz, hu⟩ : ∃ uz : Nat, i + uz = n := ⟨n - i, by omega⟩
    clear hi0
    induction uz generalizing i H locs ls with
    | zero =>
      have hue : i = n := by omega
      have hd8 : (nI n - nI (i + 1)).toInt = (n : Int) - ((i + 1 : Nat) : Int) := pk_sub_toInt (by omega) (by omega)
      refine lv_iload hx hb dX8_type_72 (lv_at hl 2 rfl) ?_
      refine b_if_lt_t 96 hx hb dX8_type_74 (by decide) (by rw [hd8]; omega) ?_
      refine lv_aload_n hx hb dX8_type_96 rfl (lv_at hl 0 rfl) ?_
      refine m_get (C := RX8) (T := TX8) (N := 12) (ci := 8) hx hb hts in_X8_type_X8 hown hB m_0 ((va_up_ne _ _ (by decide)).trans ((va_up_ne _ _ (by decide)).trans h_0)) rfl 0 (by decide) (hts (.fieldLink RX8 14 "PaperRoom" "draft" "LPaperRoom$Row;") (by decide +kernel)) (fun _ h9 => h9) rfl dX8_type_97 ?_
      subst hue
      refine m_callVE (ci := 5) (As := []) (rest := []) (c_Row_length l D ty L ad _ 1 2 (dn + i) m_1 (va_up_self _ _ _)) ⟨hx, hb, hml, hown, hts⟩ (cwV 0 hts gX8_type_X5_length rfl rfl rfl (by decide +kernel) ⟨Nat.le_of_ble_eq_true rfl, Nat.le_of_ble_eq_true rfl⟩) hB m_1 (va_up_self _ _ _) rfl rfl hl.1 rfl (Nat.le_of_ble_eq_true rfl) dX8_type_100 ⟨Nat.le_of_ble_eq_true rfl, Nat.le_of_ble_eq_true rfl⟩ (fun H locs hB => ?_)
      exact m_iret hx hb hrt hlocks hB (Nat.le_refl _) (Nat.le_refl _) dX8_type_103 ⟨rfl, rfl, rfl, rfl⟩
    | succ uz ihu =>
      have hul : i < n := by omega
      have hd8 : (nI n - nI (i + 1)).toInt = (n : Int) - ((i + 1 : Nat) : Int) := pk_sub_toInt (by omega) (by omega)
      have hk8 := hok (n - 1 - i) (by omega)
      refine lv_iload hx hb dX8_type_72 (lv_at hl 2 rfl) ?_
      refine b_if_lt_f 96 hx hb dX8_type_74 (by decide) (by rw [hd8]; omega) ?_
      refine lv_aload_n hx hb dX8_type_77 rfl (lv_at hl 0 rfl) ?_
      refine m_get (C := RX8) (T := TX8) (N := 12) (ci := 8) hx hb hts in_X8_type_X8 hown hB m_0 ((va_up_ne _ _ (by decide)).trans ((va_up_ne _ _ (by decide)).trans h_0)) rfl 0 (by decide) (hts (.fieldLink RX8 14 "PaperRoom" "draft" "LPaperRoom$Row;") (by decide +kernel)) (fun _ h9 => h9) rfl dX8_type_78 ?_
      refine lv_lload_n hx hb dX8_type_81 rfl (lv_at hl 1 rfl) ?_
      refine lv_iload hx hb dX8_type_82 (lv_at hl 2 rfl) ?_
      refine b_topi (w := nI (n - 1 - i)) (by rw [pk_sub (a := n) (b := i + 1) (by omega), show n - (i + 1) = n - 1 - i by omega]) ?_
      refine m_callSE (As := [.long v, .int (nI (n - 1 - i))]) (rest := [.ref (ad 1)]) (c_X_byteOf l D ty L ad _ v (n - 1 - i)) ⟨hx, hb, hml, hown, hts⟩ (va_cwS 2 hts gX8_type_X8_byteOf rfl rfl rfl (by decide +kernel) ⟨Nat.le_of_ble_eq_true rfl, Nat.le_of_ble_eq_true rfl⟩) hB rfl hl.1 rfl (Nat.le_of_ble_eq_true rfl) dX8_type_84 ⟨Nat.le_of_ble_eq_true rfl, Nat.le_of_ble_eq_true rfl⟩ (fun H locs hB => ?_)
      refine m_callVZ (ci := 5) (As := [.int (byU v (n - 1 - i))]) (rest := []) (c_Row_put l D ty L ad _ 1 2 (dn + i) 40 (pb db (fun i => byU v (n - 1 - i)) dn i) (byU v (n - 1 - i)) m_1 m_2 (va_up_self _ _ _) ((va_up_ne _ _ (by decide)).trans (va_up_self _ _ _)) (by decide) (by omega) (by omega) (i_byte (by have := hk8.1; omega) (by have := hk8.2; omega))) ⟨hx, hb, hml, hown, hts⟩ (cwV 1 hts gX8_type_X5_put rfl rfl rfl (by decide +kernel) ⟨Nat.le_of_ble_eq_true rfl, Nat.le_of_ble_eq_true rfl⟩) hB m_1 (va_up_self _ _ _) rfl rfl hl.1 rfl (Nat.le_of_ble_eq_true rfl) dX8_type_87 ⟨Nat.le_of_ble_eq_true rfl, Nat.le_of_ble_eq_true rfl⟩ (fun H locs hB => ?_)
      replace hB : m_B D ty A s L ad (va_up (va_up g 2 (.inl (ty 2, 40, .inl (upd (pb db (fun i => byU v (n - 1 - i)) dn i) (dn + i) (byU v (n - 1 - i)))))) 1 (.inr (5, [.ref (ad 2), .int (nI (dn + i + 1))]))) H locs := by rw [up_4 (by decide)] at hB; exact hB
      refine lv_iinc (v := (nI n) - (nI ((i + 1) + 1))) (lv' := [(4, .int ((nI n) - (nI ((i + 1) + 1)))), (0, .ref (ad 0)), (1, .long v)]) hx hb dX8_type_90 hl (k := 2) rfl (dec1 n i) (by decide) rfl (fun ls hl => ?_)
      refine lv_goto (tgt := 72) hx hb dX8_type_93 (by decide) ?_
      have hB : m_B D ty A s L ad (va_up (va_up g 2 (.inl (ty 2, 40, .inl (pb db (fun i => byU v (n - 1 - i)) dn (i + 1))))) 1 (.inr (5, [.ref (ad 2), .int (nI (dn + (i + 1)))]))) H locs := by
        exact hB
      have hl : lv_has ls 6 [(0, .ref (ad 0)), (1, .long v), (4, .int ((nI n) - (nI ((i + 1) + 1))))] := lv_sub hl [1, 2, 0] rfl
      apply ihu (i := (i + 1)) (H := H) (locs := locs) (ls := ls) <;> first | omega | exact hB | exact hl
  | succ jz ihj =>
    have hjl : k < n := by omega
    have hd9 : (nI n - nI (k + 1)).toInt = (n : Int) - ((k + 1 : Nat) : Int) := pk_sub_toInt (by omega) (by omega)
    have hk8 := hok (n - 1 - k) (by omega)
    refine lv_iload hx hb dX8_type_18 (lv_at hl 3 rfl) ?_
    refine b_if_lt_f 53 hx hb dX8_type_20 (by decide) (by rw [hd9]; omega) ?_
    refine lv_lload_n hx hb dX8_type_23 rfl (lv_at hl 1 rfl) ?_
    refine lv_iload hx hb dX8_type_24 (lv_at hl 3 rfl) ?_
    refine b_topi (w := nI (n - 1 - k)) (by rw [pk_sub (a := n) (b := k + 1) (by omega), show n - (k + 1) = n - 1 - k by omega]) ?_
    refine m_callSE (As := [.long v, .int (nI (n - 1 - k))]) (rest := []) (c_X_byteOf l D ty L ad _ v (n - 1 - k)) ⟨hx, hb, hml, hown, hts⟩ (va_cwS 2 hts gX8_type_X8_byteOf rfl rfl rfl (by decide +kernel) ⟨Nat.le_of_ble_eq_true rfl, Nat.le_of_ble_eq_true rfl⟩) hB rfl hl.1 rfl (Nat.le_of_ble_eq_true rfl) dX8_type_26 ⟨Nat.le_of_ble_eq_true rfl, Nat.le_of_ble_eq_true rfl⟩ (fun H locs hB => ?_)
    refine lv_istore (lv' := [(5, .int (byU v (n - 1 - k))), (0, .ref (ad 0)), (1, .long v), (3, .int (nI n)), (4, .int ((nI n) - (nI (k + 1))))]) hx hb dX8_type_29 hl (by decide) rfl (fun ls hl => ?_)
    refine lv_iload hx hb dX8_type_31 (lv_at hl 0 rfl) ?_
    refine lv_bipush (v := 32) hx hb dX8_type_33 (by decide) ?_
    refine b_icmp_lt_f 45 hx hb dX8_type_35 (by decide) (by rw [l32]; have := hk8.1; omega) ?_
    refine lv_iload hx hb dX8_type_38 (lv_at hl 0 rfl) ?_
    refine lv_bipush (v := 126) hx hb dX8_type_40 (by decide) ?_
    refine b_icmp_le_t 47 hx hb dX8_type_42 (by decide) (by rw [l126]; have := hk8.2; omega) ?_
    refine lv_iinc (v := (nI n) - (nI ((k + 1) + 1))) (lv' := [(4, .int ((nI n) - (nI ((k + 1) + 1)))), (5, .int (byU v (n - 1 - k))), (0, .ref (ad 0)), (1, .long v), (3, .int (nI n))]) hx hb dX8_type_47 hl (k := 4) rfl (dec1 n k) (by decide) rfl (fun ls hl => ?_)
    refine lv_goto (tgt := 18) hx hb dX8_type_50 (by decide) ?_
    have hl : lv_has ls 6 [(0, .ref (ad 0)), (1, .long v), (3, .int (nI n)), (4, .int ((nI n) - (nI ((k + 1) + 1))))] := lv_sub hl [2, 3, 4, 0] rfl
    apply ihj (k := (k + 1)) (H := H) (locs := locs) (ls := ls) <;> first | omega | exact hB | exact hl
