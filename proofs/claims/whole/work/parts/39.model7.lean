set_option maxHeartbeats 1000000 in
set_option maxRecDepth 100000 in
theorem c_M_type_n (l : Launch) (D : va_G) (ty : Nat → ClassId) (L : List Nat) (ad : Nat → Nat) (g : Nat → va_E) (a : Nat → Nat → Int32) (dn pn en qn mz : Nat) (nw lo : Int32) (tr : Int64) (v : Int64) (n : Int32) (hM : RM ty L ad g a dn pn en qn mz nw lo tr) (h : ¬ (1 ≤ n.toInt ∧ n.toInt ≤ 8)) : m_E l yX9_type wsX9_type 1 22 D ty [.ref (ad 1000), .long v, .int n] L ad g (some (.int (-1))) g := by
  intro sz
  refine Met.ofW (cc := cX9_type) (maxL := 5) (ret := (some .int)) (by decide) rfl ?_
  intro p e s m args below meth c s₁ B hml hv
  have hx := B.exec
  have hb := B.bytes
  have hrt := B.returns
  have hts := atoms_spec (ws := wsX9_type) B.pre
  have hown : s.vm.findClass RX9 = some m.cls := findClass_of_methodNamed B.named
  have hlocks := B.notSynchronized
  obtain ⟨rfl, hB⟩ := m_start hv
  generalize va_A (m_w L ad g) sz = A at hB ⊢
  generalize s.heap = H at hB ⊢
  generalize ([] : List Loc) = locs at hB ⊢
  have hl := lv_entry ([.ref (ad 1000), .long v, .int n]) (n := 5) (Nat.le_of_ble_eq_true rfl)
  rw [lg_entry_eq]
  generalize (lg_sl ([.ref (ad 1000), .long v, .int n]) ++ List.replicate (5 - (lg_sl ([.ref (ad 1000), .long v, .int n])).length) Slot.unset).toArray = ls at hl ⊢
  have hl : lv_has ls 5 [(0, .ref (ad 1000)), (1, .long v), (3, .int n)] := hl
  obtain ⟨hL, h_1000, h_1002, h_1004, h_1005, h_1007, h_1008, h_1009, h_1010, h_1011, h_1012, h_1013, h_1014, h_1015, h_1016, h_1019, h_1020, h_1021, h_1022, h_1024, h_1025, h_1026, h_1027, h_1028, h_1029, h_1030, h_1032⟩ := id hM
  have l1 : (1 : Int32).toInt = 1 := by decide
  have l8 : (8 : Int32).toInt = 8 := by decide
  have l32 : (32 : Int32).toInt = 32 := by decide
  have l126 : (126 : Int32).toInt = 126 := by decide
  have l40 : (40 : Int32).toInt = 40 := by decide
  refine lv_iload_n hx hb dX9_type_0 rfl (lv_at hl 2 rfl) ?_
  refine lv_iconst (v := 1) hx hb dX9_type_1 (by decide) ?_
  refine lv_bipush (v := 8) hx hb dX9_type_2 (by decide) ?_
  refine m_callSE (As := [.int n, .int 1, .int 8]) (rest := []) (c_M_in_f l D ty L ad _ _ _ _ (by omega)) ⟨hx, hb, hml, hown, hts⟩ (va_cwS 3 hts gX9_type_X9_in rfl rfl rfl (by decide +kernel) ⟨Nat.le_of_ble_eq_true rfl, Nat.le_of_ble_eq_true rfl⟩) hB rfl hl.1 rfl (Nat.le_of_ble_eq_true rfl) dX9_type_4 ⟨Nat.le_of_ble_eq_true rfl, Nat.le_of_ble_eq_true rfl⟩ (fun H locs hB => ?_)
  refine b_if_ne_f 12 hx hb dX9_type_7 (by decide) (by decide) ?_
  refine lv_iconst (v := (-1)) hx hb dX9_type_10 (by decide) ?_
  exact m_iret hx hb hrt hlocks hB (Nat.le_refl _) (Nat.le_refl _) dX9_type_11 ⟨rfl, rfl, rfl, rfl⟩
set_option maxHeartbeats 1000000 in
set_option maxRecDepth 100000 in
theorem c_M_type_bad (l : Launch) (D : va_G) (ty : Nat → ClassId) (L : List Nat) (ad : Nat → Nat) (g : Nat → va_E) (a : Nat → Nat → Int32) (dn pn en qn mz : Nat) (nw lo : Int32) (tr : Int64) (v : Int64) (n : Nat) (hM : RM ty L ad g a dn pn en qn mz nw lo tr) (h1 : 1 ≤ n) (h8 : n ≤ 8) (hbad : ¬ ∀ i, i < n → okB v i) : m_E l yX9_type wsX9_type 1 22 D ty [.ref (ad 1000), .long v, .int (nI n)] L ad g (some (.int (-1))) g := by
  intro sz
  refine Met.ofW (cc := cX9_type) (maxL := 5) (ret := (some .int)) (by decide) rfl ?_
  intro p e s m args below meth c s₁ B hml hv
  have hx := B.exec
  have hb := B.bytes
  have hrt := B.returns
  have hts := atoms_spec (ws := wsX9_type) B.pre
  have hown : s.vm.findClass RX9 = some m.cls := findClass_of_methodNamed B.named
  have hlocks := B.notSynchronized
  obtain ⟨rfl, hB⟩ := m_start hv
  generalize va_A (m_w L ad g) sz = A at hB ⊢
  generalize s.heap = H at hB ⊢
  generalize ([] : List Loc) = locs at hB ⊢
  have hl := lv_entry ([.ref (ad 1000), .long v, .int (nI n)]) (n := 5) (Nat.le_of_ble_eq_true rfl)
  rw [lg_entry_eq]
  generalize (lg_sl ([.ref (ad 1000), .long v, .int (nI n)]) ++ List.replicate (5 - (lg_sl ([.ref (ad 1000), .long v, .int (nI n)])).length) Slot.unset).toArray = ls at hl ⊢
  have hl : lv_has ls 5 [(0, .ref (ad 1000)), (1, .long v), (3, .int (nI n))] := hl
  obtain ⟨hL, h_1000, h_1002, h_1004, h_1005, h_1007, h_1008, h_1009, h_1010, h_1011, h_1012, h_1013, h_1014, h_1015, h_1016, h_1019, h_1020, h_1021, h_1022, h_1024, h_1025, h_1026, h_1027, h_1028, h_1029, h_1030, h_1032⟩ := id hM
  have l1 : (1 : Int32).toInt = 1 := by decide
  have l8 : (8 : Int32).toInt = 8 := by decide
  have l32 : (32 : Int32).toInt = 32 := by decide
  have l126 : (126 : Int32).toInt = 126 := by decide
  have l40 : (40 : Int32).toInt = 40 := by decide
  have tI_n : (nI n).toInt = (n : Int) := nI_toInt (by omega)
  refine lv_iload_n hx hb dX9_type_0 rfl (lv_at hl 2 rfl) ?_
  refine lv_iconst (v := 1) hx hb dX9_type_1 (by decide) ?_
  refine lv_bipush (v := 8) hx hb dX9_type_2 (by decide) ?_
  refine m_callSE (As := [.int (nI n), .int 1, .int 8]) (rest := []) (c_M_in_t l D ty L ad _ _ _ _ (by omega) (by omega)) ⟨hx, hb, hml, hown, hts⟩ (va_cwS 3 hts gX9_type_X9_in rfl rfl rfl (by decide +kernel) ⟨Nat.le_of_ble_eq_true rfl, Nat.le_of_ble_eq_true rfl⟩) hB rfl hl.1 rfl (Nat.le_of_ble_eq_true rfl) dX9_type_4 ⟨Nat.le_of_ble_eq_true rfl, Nat.le_of_ble_eq_true rfl⟩ (fun H locs hB => ?_)
  refine b_if_ne_t 12 hx hb dX9_type_7 (by decide) (by decide) ?_
  refine lv_iconst (v := 0) hx hb dX9_type_12 (by decide) ?_
  refine lv_istore (lv' := [(4, .int 0), (0, .ref (ad 1000)), (1, .long v), (3, .int (nI n))]) hx hb dX9_type_13 hl (by decide) rfl (fun ls hl => ?_)
  replace hl : lv_has ls 5 [(0, .ref (ad 1000)), (1, .long v), (3, .int (nI n)), (4, .int 0)] := lv_sub hl [1, 2, 3, 0] rfl
  obtain ⟨k, hk0⟩ : ∃ k : Nat, k = 0 := ⟨0, rfl⟩
  replace hl : lv_has ls 5 [(0, .ref (ad 1000)), (1, .long v), (3, .int (nI n)), (4, .int (nI k))] := by rw [hk0]; exact hl
  have hall : ∀ i, i < k → okB v i := by rw [hk0]; exact (fun i hi => absurd hi (Nat.not_lt_zero i))
  obtain ⟨jz, hj⟩ : ∃ jz : Nat, k + jz = n := ⟨n - k, by omega⟩
  clear hk0
  induction jz generalizing k H locs ls with
  | zero =>
    have hje : k = n := by omega
    exact absurd (fun i hi => hall i (by omega)) hbad
  | succ jz ihj =>
    have hjl : k < n := by omega
    have tI_k : (nI k).toInt = (k : Int) := nI_toInt (by omega)
    rcases Classical.em (okB v k) with hk8 | hk8
    · skip
      have hall1 : ∀ i, i < k + 1 → okB v i := lt_s hall hk8
      refine lv_iload hx hb dX9_type_15 (lv_at hl 3 rfl) ?_
      refine lv_iload_n hx hb dX9_type_17 rfl (lv_at hl 2 rfl) ?_
      refine b_icmp_ge_f 51 hx hb dX9_type_18 (by decide) (by omega) ?_
      refine lv_lload_n hx hb dX9_type_21 rfl (lv_at hl 1 rfl) ?_
      refine lv_bipush (v := 8) hx hb dX9_type_22 (by decide) ?_
      refine lv_iload hx hb dX9_type_24 (lv_at hl 3 rfl) ?_
      refine lv_imul hx hb dX9_type_26 ?_
      refine b_topi (w := nI (8 * k)) (pk_mul 8 k) ?_
      refine lv_lshr hx hb dX9_type_27 rfl ?_
      refine lv_l2i hx hb dX9_type_28 rfl ?_
      refine lv_sipush (v := 255) hx hb dX9_type_29 (by decide) ?_
      refine lv_iand hx hb dX9_type_32 ?_
      refine b_topi (w := by8 v k) (rfl) ?_
      refine lv_bipush (v := 32) hx hb dX9_type_33 (by decide) ?_
      refine lv_bipush (v := 126) hx hb dX9_type_35 (by decide) ?_
      refine m_callSE (As := [.int (by8 v k), .int 32, .int 126]) (rest := []) (c_M_in_t l D ty L ad _ _ _ _ (by rw [l32]; exact hk8.1) (by rw [l126]; exact hk8.2)) ⟨hx, hb, hml, hown, hts⟩ (va_cwS 3 hts gX9_type_X9_in rfl rfl rfl (by decide +kernel) ⟨Nat.le_of_ble_eq_true rfl, Nat.le_of_ble_eq_true rfl⟩) hB rfl hl.1 rfl (Nat.le_of_ble_eq_true rfl) dX9_type_37 ⟨Nat.le_of_ble_eq_true rfl, Nat.le_of_ble_eq_true rfl⟩ (fun H locs hB => ?_)
      refine b_if_ne_t 45 hx hb dX9_type_40 (by decide) (by decide) ?_
      refine lv_iinc (v := nI (k + 1)) (lv' := [(4, .int (nI (k + 1))), (0, .ref (ad 1000)), (1, .long v), (3, .int (nI n))]) hx hb dX9_type_45 hl (k := 3) rfl (nI_add k 1) (by decide) rfl (fun ls hl => ?_)
      refine lv_goto (tgt := 15) hx hb dX9_type_48 (by decide) ?_
      have hall' : ∀ i, i < (k + 1) → okB v i := hall1
      have hl : lv_has ls 5 [(0, .ref (ad 1000)), (1, .long v), (3, .int (nI n)), (4, .int (nI (k + 1)))] := lv_sub hl [1, 2, 3, 0] rfl
      apply ihj (k := (k + 1)) (H := H) (locs := locs) (ls := ls) <;> first | omega | exact hB | exact hl | exact hall'
    · skip
      refine lv_iload hx hb dX9_type_15 (lv_at hl 3 rfl) ?_
      refine lv_iload_n hx hb dX9_type_17 rfl (lv_at hl 2 rfl) ?_
      refine b_icmp_ge_f 51 hx hb dX9_type_18 (by decide) (by omega) ?_
      refine lv_lload_n hx hb dX9_type_21 rfl (lv_at hl 1 rfl) ?_
      refine lv_bipush (v := 8) hx hb dX9_type_22 (by decide) ?_
      refine lv_iload hx hb dX9_type_24 (lv_at hl 3 rfl) ?_
      refine lv_imul hx hb dX9_type_26 ?_
      refine b_topi (w := nI (8 * k)) (pk_mul 8 k) ?_
      refine lv_lshr hx hb dX9_type_27 rfl ?_
      refine lv_l2i hx hb dX9_type_28 rfl ?_
      refine lv_sipush (v := 255) hx hb dX9_type_29 (by decide) ?_
      refine lv_iand hx hb dX9_type_32 ?_
      refine b_topi (w := by8 v k) (rfl) ?_
      refine lv_bipush (v := 32) hx hb dX9_type_33 (by decide) ?_
      refine lv_bipush (v := 126) hx hb dX9_type_35 (by decide) ?_
      refine m_callSE (As := [.int (by8 v k), .int 32, .int 126]) (rest := []) (c_M_in_f l D ty L ad _ _ _ _ (by rw [l32, l126]; exact hk8)) ⟨hx, hb, hml, hown, hts⟩ (va_cwS 3 hts gX9_type_X9_in rfl rfl rfl (by decide +kernel) ⟨Nat.le_of_ble_eq_true rfl, Nat.le_of_ble_eq_true rfl⟩) hB rfl hl.1 rfl (Nat.le_of_ble_eq_true rfl) dX9_type_37 ⟨Nat.le_of_ble_eq_true rfl, Nat.le_of_ble_eq_true rfl⟩ (fun H locs hB => ?_)
      refine b_if_ne_f 45 hx hb dX9_type_40 (by decide) (by decide) ?_
      refine lv_iconst (v := (-1)) hx hb dX9_type_43 (by decide) ?_
      exact m_iret hx hb hrt hlocks hB (Nat.le_refl _) (Nat.le_refl _) dX9_type_44 ⟨rfl, rfl, rfl, rfl⟩
set_option maxRecDepth 20000 in
theorem in_X9_type_X9 : ∀ w ∈ wsX90, w ∈ wsX9_type := by decide +kernel
set_option maxHeartbeats 1000000 in
set_option maxRecDepth 100000 in
theorem c_M_type_full (l : Launch) (D : va_G) (ty : Nat → ClassId) (L : List Nat) (ad : Nat → Nat) (g : Nat → va_E) (a : Nat → Nat → Int32) (dn pn en qn mz : Nat) (nw lo : Int32) (tr : Int64) (v : Int64) (n : Nat) (hM : RM ty L ad g a dn pn en qn mz nw lo tr) (h1 : 1 ≤ n) (h8 : n ≤ 8) (hok : ∀ i, i < n → okB v i) (hdn : dn ≤ 40) (hfull : 40 < dn + n) : m_E l yX9_type wsX9_type 1 22 D ty [.ref (ad 1000), .long v, .int (nI n)] L ad g (some (.int (-3))) g := by
  intro sz
  refine Met.ofW (cc := cX9_type) (maxL := 5) (ret := (some .int)) (by decide) rfl ?_
  intro p e s m args below meth c s₁ B hml hv
  have hx := B.exec
  have hb := B.bytes
  have hrt := B.returns
  have hts := atoms_spec (ws := wsX9_type) B.pre
  have hown : s.vm.findClass RX9 = some m.cls := findClass_of_methodNamed B.named
  have hlocks := B.notSynchronized
  obtain ⟨rfl, hB⟩ := m_start hv
  generalize va_A (m_w L ad g) sz = A at hB ⊢
  generalize s.heap = H at hB ⊢
  generalize ([] : List Loc) = locs at hB ⊢
  have hl := lv_entry ([.ref (ad 1000), .long v, .int (nI n)]) (n := 5) (Nat.le_of_ble_eq_true rfl)
  rw [lg_entry_eq]
  generalize (lg_sl ([.ref (ad 1000), .long v, .int (nI n)]) ++ List.replicate (5 - (lg_sl ([.ref (ad 1000), .long v, .int (nI n)])).length) Slot.unset).toArray = ls at hl ⊢
  have hl : lv_has ls 5 [(0, .ref (ad 1000)), (1, .long v), (3, .int (nI n))] := hl
  obtain ⟨hL, h_1000, h_1002, h_1004, h_1005, h_1007, h_1008, h_1009, h_1010, h_1011, h_1012, h_1013, h_1014, h_1015, h_1016, h_1019, h_1020, h_1021, h_1022, h_1024, h_1025, h_1026, h_1027, h_1028, h_1029, h_1030, h_1032⟩ := id hM
  have l1 : (1 : Int32).toInt = 1 := by decide
  have l8 : (8 : Int32).toInt = 8 := by decide
  have l32 : (32 : Int32).toInt = 32 := by decide
  have l126 : (126 : Int32).toInt = 126 := by decide
  have l40 : (40 : Int32).toInt = 40 := by decide
  have tI_n : (nI n).toInt = (n : Int) := nI_toInt (by omega)
  have tI_dnn : (nI (dn + n)).toInt = ((dn + n : Nat) : Int) := nI_toInt (by omega)
  refine lv_iload_n hx hb dX9_type_0 rfl (lv_at hl 2 rfl) ?_
  refine lv_iconst (v := 1) hx hb dX9_type_1 (by decide) ?_
  refine lv_bipush (v := 8) hx hb dX9_type_2 (by decide) ?_
  refine m_callSE (As := [.int (nI n), .int 1, .int 8]) (rest := []) (c_M_in_t l D ty L ad _ _ _ _ (by omega) (by omega)) ⟨hx, hb, hml, hown, hts⟩ (va_cwS 3 hts gX9_type_X9_in rfl rfl rfl (by decide +kernel) ⟨Nat.le_of_ble_eq_true rfl, Nat.le_of_ble_eq_true rfl⟩) hB rfl hl.1 rfl (Nat.le_of_ble_eq_true rfl) dX9_type_4 ⟨Nat.le_of_ble_eq_true rfl, Nat.le_of_ble_eq_true rfl⟩ (fun H locs hB => ?_)
  refine b_if_ne_t 12 hx hb dX9_type_7 (by decide) (by decide) ?_
  refine lv_iconst (v := 0) hx hb dX9_type_12 (by decide) ?_
  refine lv_istore (lv' := [(4, .int 0), (0, .ref (ad 1000)), (1, .long v), (3, .int (nI n))]) hx hb dX9_type_13 hl (by decide) rfl (fun ls hl => ?_)
  replace hl : lv_has ls 5 [(0, .ref (ad 1000)), (1, .long v), (3, .int (nI n)), (4, .int 0)] := lv_sub hl [1, 2, 3, 0] rfl
  obtain ⟨k, hk0⟩ : ∃ k : Nat, k = 0 := ⟨0, rfl⟩
  replace hl : lv_has ls 5 [(0, .ref (ad 1000)), (1, .long v), (3, .int (nI n)), (4, .int (nI k))] := by rw [hk0]; exact hl
  obtain ⟨jz, hj⟩ : ∃ jz : Nat, k + jz = n := ⟨n - k, by omega⟩
  clear hk0
  induction jz generalizing k H locs ls with
  | zero =>
    have hje : k = n := by omega
    have tI_k : (nI k).toInt = (k : Int) := nI_toInt (by omega)
    refine lv_iload hx hb dX9_type_15 (lv_at hl 3 rfl) ?_
    refine lv_iload_n hx hb dX9_type_17 rfl (lv_at hl 2 rfl) ?_
    refine b_icmp_ge_t 51 hx hb dX9_type_18 (by decide) (by omega) ?_
    refine lv_aload_n hx hb dX9_type_51 rfl (lv_at hl 0 rfl) ?_
    refine m_get (C := RX9) (T := TX9) (N := 33) (ci := 9) hx hb hts in_X9_type_X9 hown hB (hL 1000 (by decide)) h_1000 rfl 0 (by decide) (hts (.fieldLink RX9 101 "PaperRoomModel" "drafted" "I") (by decide +kernel)) (fun _ h9 => h9) rfl dX9_type_52 ?_
    refine lv_iload_n hx hb dX9_type_55 rfl (lv_at hl 2 rfl) ?_
    refine lv_iadd hx hb dX9_type_56 ?_
    refine b_topi (w := nI (dn + n)) (nI_add dn n) ?_
    refine lv_bipush (v := 40) hx hb dX9_type_57 (by decide) ?_
    refine b_icmp_le_f 65 hx hb dX9_type_59 (by decide) (by have := (by decide : (40 : Int32).toInt = 40); omega) ?_
    refine lv_bipush (v := (-3)) hx hb dX9_type_62 (by decide) ?_
    exact m_iret hx hb hrt hlocks hB (Nat.le_refl _) (Nat.le_refl _) dX9_type_64 ⟨rfl, rfl, rfl, rfl⟩
  | succ jz ihj =>
    have hjl : k < n := by omega
    have tI_k : (nI k).toInt = (k : Int) := nI_toInt (by omega)
    have hk8 := hok k (by omega)
    refine lv_iload hx hb dX9_type_15 (lv_at hl 3 rfl) ?_
    refine lv_iload_n hx hb dX9_type_17 rfl (lv_at hl 2 rfl) ?_
    refine b_icmp_ge_f 51 hx hb dX9_type_18 (by decide) (by omega) ?_
    refine lv_lload_n hx hb dX9_type_21 rfl (lv_at hl 1 rfl) ?_
    refine lv_bipush (v := 8) hx hb dX9_type_22 (by decide) ?_
    refine lv_iload hx hb dX9_type_24 (lv_at hl 3 rfl) ?_
    refine lv_imul hx hb dX9_type_26 ?_
    refine b_topi (w := nI (8 * k)) (pk_mul 8 k) ?_
    refine lv_lshr hx hb dX9_type_27 rfl ?_
    refine lv_l2i hx hb dX9_type_28 rfl ?_
    refine lv_sipush (v := 255) hx hb dX9_type_29 (by decide) ?_
    refine lv_iand hx hb dX9_type_32 ?_
    refine b_topi (w := by8 v k) (rfl) ?_
    refine lv_bipush (v := 32) hx hb dX9_type_33 (by decide) ?_
    refine lv_bipush (v := 126) hx hb dX9_type_35 (by decide) ?_
    refine m_callSE (As := [.int (by8 v k), .int 32, .int 126]) (rest := []) (c_M_in_t l D ty L ad _ _ _ _ (by rw [l32]; exact hk8.1) (by rw [l126]; exact hk8.2)) ⟨hx, hb, hml, hown, hts⟩ (va_cwS 3 hts gX9_type_X9_in rfl rfl rfl (by decide +kernel) ⟨Nat.le_of_ble_eq_true rfl, Nat.le_of_ble_eq_true rfl⟩) hB rfl hl.1 rfl (Nat.le_of_ble_eq_true rfl) dX9_type_37 ⟨Nat.le_of_ble_eq_true rfl, Nat.le_of_ble_eq_true rfl⟩ (fun H locs hB => ?_)
    refine b_if_ne_t 45 hx hb dX9_type_40 (by decide) (by decide) ?_
    refine lv_iinc (v := nI (k + 1)) (lv' := [(4, .int (nI (k + 1))), (0, .ref (ad 1000)), (1, .long v), (3, .int (nI n))]) hx hb dX9_type_45 hl (k := 3) rfl (nI_add k 1) (by decide) rfl (fun ls hl => ?_)
    refine lv_goto (tgt := 15) hx hb dX9_type_48 (by decide) ?_
    have hl : lv_has ls 5 [(0, .ref (ad 1000)), (1, .long v), (3, .int (nI n)), (4, .int (nI (k + 1)))] := lv_sub hl [1, 2, 3, 0] rfl
    apply ihj (k := (k + 1)) (H := H) (locs := locs) (ls := ls) <;> first | omega | exact hB | exact hl
set_option maxHeartbeats 1000000 in
set_option maxRecDepth 100000 in
theorem c_M_type_ok (l : Launch) (D : va_G) (ty : Nat → ClassId) (L : List Nat) (ad : Nat → Nat) (g : Nat → va_E) (a : Nat → Nat → Int32) (dn pn en qn mz : Nat) (nw lo : Int32) (tr : Int64) (v : Int64) (n : Nat) (hM : RM ty L ad g a dn pn en qn mz nw lo tr) (h1 : 1 ≤ n) (h8 : n ≤ 8) (hok : ∀ i, i < n → okB v i) (hdn : dn ≤ 40) (hroom : dn + n ≤ 40) : m_C l yX9_type wsX9_type 1 22 0 0 D ty [.ref (ad 1000), .long v, .int (nI n)] L ad g (fun v1 L1 ad1 g1 => v1 = (some (.int (nI (dn + n)))) ∧ L1 = L ∧ ad1 = ad ∧ (∀ x, x < 1000 → g1 x = g x) ∧ RM ty L ad g1 (tyA a dn n v) (dn + n) pn en qn mz nw lo tr) := by
  intro sz
  refine Met.ofW (cc := cX9_type) (maxL := 5) (ret := (some .int)) (by decide) rfl ?_
  intro p e s m args below meth c s₁ B hml hv
  have hx := B.exec
  have hb := B.bytes
  have hrt := B.returns
  have hts := atoms_spec (ws := wsX9_type) B.pre
  have hown : s.vm.findClass RX9 = some m.cls := findClass_of_methodNamed B.named
  have hlocks := B.notSynchronized
  obtain ⟨rfl, hB⟩ := m_start hv
  generalize va_A (m_w L ad g) sz = A at hB ⊢
  generalize s.heap = H at hB ⊢
  generalize ([] : List Loc) = locs at hB ⊢
  have hl := lv_entry ([.ref (ad 1000), .long v, .int (nI n)]) (n := 5) (Nat.le_of_ble_eq_true rfl)
  rw [lg_entry_eq]
  generalize (lg_sl ([.ref (ad 1000), .long v, .int (nI n)]) ++ List.replicate (5 - (lg_sl ([.ref (ad 1000), .long v, .int (nI n)])).length) Slot.unset).toArray = ls at hl ⊢
  have hl : lv_has ls 5 [(0, .ref (ad 1000)), (1, .long v), (3, .int (nI n))] := hl
  obtain ⟨hL, h_1000, h_1002, h_1004, h_1005, h_1007, h_1008, h_1009, h_1010, h_1011, h_1012, h_1013, h_1014, h_1015, h_1016, h_1019, h_1020, h_1021, h_1022, h_1024, h_1025, h_1026, h_1027, h_1028, h_1029, h_1030, h_1032⟩ := id hM
  have l1 : (1 : Int32).toInt = 1 := by decide
  have l8 : (8 : Int32).toInt = 8 := by decide
  have l32 : (32 : Int32).toInt = 32 := by decide
  have l126 : (126 : Int32).toInt = 126 := by decide
  have l40 : (40 : Int32).toInt = 40 := by decide
  have tI_n : (nI n).toInt = (n : Int) := nI_toInt (by omega)
  have tI_dnn : (nI (dn + n)).toInt = ((dn + n : Nat) : Int) := nI_toInt (by omega)
  refine lv_iload_n hx hb dX9_type_0 rfl (lv_at hl 2 rfl) ?_
  refine lv_iconst (v := 1) hx hb dX9_type_1 (by decide) ?_
  refine lv_bipush (v := 8) hx hb dX9_type_2 (by decide) ?_
  refine m_callSE (As := [.int (nI n), .int 1, .int 8]) (rest := []) (c_M_in_t l D ty L ad _ _ _ _ (by omega) (by omega)) ⟨hx, hb, hml, hown, hts⟩ (va_cwS 3 hts gX9_type_X9_in rfl rfl rfl (by decide +kernel) ⟨Nat.le_of_ble_eq_true rfl, Nat.le_of_ble_eq_true rfl⟩) hB rfl hl.1 rfl (Nat.le_of_ble_eq_true rfl) dX9_type_4 ⟨Nat.le_of_ble_eq_true rfl, Nat.le_of_ble_eq_true rfl⟩ (fun H locs hB => ?_)
  refine b_if_ne_t 12 hx hb dX9_type_7 (by decide) (by decide) ?_
  refine lv_iconst (v := 0) hx hb dX9_type_12 (by decide) ?_
  refine lv_istore (lv' := [(4, .int 0), (0, .ref (ad 1000)), (1, .long v), (3, .int (nI n))]) hx hb dX9_type_13 hl (by decide) rfl (fun ls hl => ?_)
  replace hl : lv_has ls 5 [(0, .ref (ad 1000)), (1, .long v), (3, .int (nI n)), (4, .int 0)] := lv_sub hl [1, 2, 3, 0] rfl
  obtain ⟨k, hk0⟩ : ∃ k : Nat, k = 0 := ⟨0, rfl⟩
  replace hl : lv_has ls 5 [(0, .ref (ad 1000)), (1, .long v), (3, .int (nI n)), (4, .int (nI k))] := by rw [hk0]; exact hl
  obtain ⟨jz, hj⟩ : ∃ jz : Nat, k + jz = n := ⟨n - k, by omega⟩
  clear hk0
  induction jz generalizing k H locs ls with
  | zero =>
    have hje : k = n := by omega
    have tI_k : (nI k).toInt = (k : Int) := nI_toInt (by omega)
    refine lv_iload hx hb dX9_type_15 (lv_at hl 3 rfl) ?_
    refine lv_iload_n hx hb dX9_type_17 rfl (lv_at hl 2 rfl) ?_
    refine b_icmp_ge_t 51 hx hb dX9_type_18 (by decide) (by omega) ?_
    clear hje hj tI_k
    refine lv_aload_n hx hb dX9_type_51 rfl (lv_at hl 0 rfl) ?_
    refine m_get (C := RX9) (T := TX9) (N := 33) (ci := 9) hx hb hts in_X9_type_X9 hown hB (hL 1000 (by decide)) h_1000 rfl 0 (by decide) (hts (.fieldLink RX9 101 "PaperRoomModel" "drafted" "I") (by decide +kernel)) (fun _ h9 => h9) rfl dX9_type_52 ?_
    refine lv_iload_n hx hb dX9_type_55 rfl (lv_at hl 2 rfl) ?_
    refine lv_iadd hx hb dX9_type_56 ?_
    refine b_topi (w := nI (dn + n)) (nI_add dn n) ?_
    refine lv_bipush (v := 40) hx hb dX9_type_57 (by decide) ?_
    refine b_icmp_le_t 65 hx hb dX9_type_59 (by decide) (by have := (by decide : (40 : Int32).toInt = 40); omega) ?_
    refine lv_iload_n hx hb dX9_type_65 rfl (lv_at hl 2 rfl) ?_
    refine lv_iconst (v := 1) hx hb dX9_type_66 (by decide) ?_
    refine lv_isub hx hb dX9_type_67 ?_
    refine lv_istore (lv' := [(4, .int ((nI n) - 1)), (0, .ref (ad 1000)), (1, .long v), (3, .int (nI n))]) hx hb dX9_type_68 hl (by decide) rfl (fun ls hl => ?_)
    replace hl : lv_has ls 5 [(0, .ref (ad 1000)), (1, .long v), (4, .int ((nI n) - 1))] := lv_sub hl [1, 2, 0] rfl
    obtain ⟨i, hi0⟩ : ∃ i : Nat, i = 0 := ⟨0, rfl⟩
    replace hB : m_B D ty A s L ad (va_up (va_up g 1002 (.inl (ty 0, 40, .inl (pb (a 1) (fun i => by8 v (n - 1 - i)) dn i)))) 1000 (.inr (9, [.int (nI (dn + i)), .ref (ad 1002), .int nw, .ref (ad 1004), .ref (ad 1005), .int (nI pn), .ref (ad 1007), .ref (ad 1008), .ref (ad 1009), .ref (ad 1010), .ref (ad 1011), .ref (ad 1012), .ref (ad 1013), .ref (ad 1014), .ref (ad 1015), .ref (ad 1016), .int (nI en), .int lo, .ref (ad 1019), .ref (ad 1020), .ref (ad 1021), .ref (ad 1022), .int (nI qn), .ref (ad 1024), .ref (ad 1025), .ref (ad 1026), .ref (ad 1027), .ref (ad 1028), .ref (ad 1029), .ref (ad 1030), .long tr, .ref (ad 1032), .int (nI mz)]))) H locs := by
      rw [hi0]
      show m_B D ty A s L ad (va_up (va_up g 1002 (.inl (ty 0, 40, .inl (a 1)))) 1000 (.inr (9, [.int (nI dn), .ref (ad 1002), .int nw, .ref (ad 1004), .ref (ad 1005), .int (nI pn), .ref (ad 1007), .ref (ad 1008), .ref (ad 1009), .ref (ad 1010), .ref (ad 1011), .ref (ad 1012), .ref (ad 1013), .ref (ad 1014), .ref (ad 1015), .ref (ad 1016), .int (nI en), .int lo, .ref (ad 1019), .ref (ad 1020), .ref (ad 1021), .ref (ad 1022), .int (nI qn), .ref (ad 1024), .ref (ad 1025), .ref (ad 1026), .ref (ad 1027), .ref (ad 1028), .ref (ad 1029), .ref (ad 1030), .long tr, .ref (ad 1032), .int (nI mz)]))) H locs; rw [up_2 _ h_1002, up_same (f := g) h_1000]; exact hB
    replace hl : lv_has ls 5 [(0, .ref (ad 1000)), (1, .long v), (4, .int ((nI n) - (nI (i + 1))))] := by rw [hi0]; exact hl
    obtain ⟨uz, hu⟩ : ∃ uz : Nat, i + uz = n := ⟨n - i, by omega⟩
    clear hi0
    induction uz generalizing i H locs ls with
    | zero =>
      have hue : i = n := by omega
      have hd9 : (nI n - nI (i + 1)).toInt = (n : Int) - ((i + 1 : Nat) : Int) := pk_sub_toInt (by omega) (by omega)
      refine lv_iload hx hb dX9_type_70 (lv_at hl 2 rfl) ?_
      refine b_if_lt_t 112 hx hb dX9_type_72 (by decide) (by rw [hd9]; omega) ?_
      subst hue
      refine lv_aload_n hx hb dX9_type_112 rfl (lv_at hl 0 rfl) ?_
      refine m_get (C := RX9) (T := TX9) (N := 33) (ci := 9) hx hb hts in_X9_type_X9 hown hB (hL 1000 (by decide)) (va_up_self _ _ _) rfl 0 (by decide) (hts (.fieldLink RX9 101 "PaperRoomModel" "drafted" "I") (by decide +kernel)) (fun _ h9 => h9) rfl dX9_type_113 ?_
      exact m_iret hx hb hrt hlocks hB (Nat.le_refl _) (Nat.le_refl _) dX9_type_116 ⟨rfl, rfl, rfl, (fun x hx => ((va_up_ne _ _ (by omega)).trans (va_up_ne _ _ (by omega)))), ⟨hL, (va_up_self _ _ _), ((va_up_ne _ _ (by decide)).trans (va_up_self _ _ _)), ((va_up_ne _ _ (by decide)).trans ((va_up_ne _ _ (by decide)).trans h_1004)), ((va_up_ne _ _ (by decide)).trans ((va_up_ne _ _ (by decide)).trans h_1005)), ((va_up_ne _ _ (by decide)).trans ((va_up_ne _ _ (by decide)).trans h_1007)), ((va_up_ne _ _ (by decide)).trans ((va_up_ne _ _ (by decide)).trans h_1008)), ((va_up_ne _ _ (by decide)).trans ((va_up_ne _ _ (by decide)).trans h_1009)), ((va_up_ne _ _ (by decide)).trans ((va_up_ne _ _ (by decide)).trans h_1010)), ((va_up_ne _ _ (by decide)).trans ((va_up_ne _ _ (by decide)).trans h_1011)), ((va_up_ne _ _ (by decide)).trans ((va_up_ne _ _ (by decide)).trans h_1012)), ((va_up_ne _ _ (by decide)).trans ((va_up_ne _ _ (by decide)).trans h_1013)), ((va_up_ne _ _ (by decide)).trans ((va_up_ne _ _ (by decide)).trans h_1014)), ((va_up_ne _ _ (by decide)).trans ((va_up_ne _ _ (by decide)).trans h_1015)), ((va_up_ne _ _ (by decide)).trans ((va_up_ne _ _ (by decide)).trans h_1016)), ((va_up_ne _ _ (by decide)).trans ((va_up_ne _ _ (by decide)).trans h_1019)), ((va_up_ne _ _ (by decide)).trans ((va_up_ne _ _ (by decide)).trans h_1020)), ((va_up_ne _ _ (by decide)).trans ((va_up_ne _ _ (by decide)).trans h_1021)), ((va_up_ne _ _ (by decide)).trans ((va_up_ne _ _ (by decide)).trans h_1022)), ((va_up_ne _ _ (by decide)).trans ((va_up_ne _ _ (by decide)).trans h_1024)), ((va_up_ne _ _ (by decide)).trans ((va_up_ne _ _ (by decide)).trans h_1025)), ((va_up_ne _ _ (by decide)).trans ((va_up_ne _ _ (by decide)).trans h_1026)), ((va_up_ne _ _ (by decide)).trans ((va_up_ne _ _ (by decide)).trans h_1027)), ((va_up_ne _ _ (by decide)).trans ((va_up_ne _ _ (by decide)).trans h_1028)), ((va_up_ne _ _ (by decide)).trans ((va_up_ne _ _ (by decide)).trans h_1029)), ((va_up_ne _ _ (by decide)).trans ((va_up_ne _ _ (by decide)).trans h_1030)), ((va_up_ne _ _ (by decide)).trans ((va_up_ne _ _ (by decide)).trans h_1032))⟩⟩
    | succ uz ihu =>
      have hul : i < n := by omega
      have tI_i : (nI i).toInt = (i : Int) := nI_toInt (by omega)
      have hd9 : (nI n - nI (i + 1)).toInt = (n : Int) - ((i + 1 : Nat) : Int) := pk_sub_toInt (by omega) (by omega)
      refine lv_iload hx hb dX9_type_70 (lv_at hl 2 rfl) ?_
      refine b_if_lt_f 112 hx hb dX9_type_72 (by decide) (by rw [hd9]; omega) ?_
      refine lv_aload_n hx hb dX9_type_75 rfl (lv_at hl 0 rfl) ?_
      refine m_get (C := RX9) (T := TX9) (N := 33) (ci := 9) hx hb hts in_X9_type_X9 hown hB (hL 1000 (by decide)) (va_up_self _ _ _) rfl 1 (by decide) (hts (.fieldLink RX9 7 "PaperRoomModel" "draft" "[I") (by decide +kernel)) (fun _ h9 => h9) rfl dX9_type_76 ?_
      refine lv_aload_n hx hb dX9_type_79 rfl (lv_at hl 0 rfl) ?_
      refine m_get (C := RX9) (T := TX9) (N := 33) (ci := 9) hx hb hts in_X9_type_X9 hown hB (hL 1000 (by decide)) (va_up_self _ _ _) rfl 0 (by decide) (hts (.fieldLink RX9 101 "PaperRoomModel" "drafted" "I") (by decide +kernel)) (fun _ h9 => h9) rfl dX9_type_80 ?_
      refine lv_lload_n hx hb dX9_type_83 rfl (lv_at hl 1 rfl) ?_
      refine lv_bipush (v := 8) hx hb dX9_type_84 (by decide) ?_
      refine lv_iload hx hb dX9_type_86 (lv_at hl 2 rfl) ?_
      refine lv_imul hx hb dX9_type_88 ?_
      refine b_topi (w := nI (8 * (n - 1 - i))) (by rw [pk_sub (a := n) (b := i + 1) (by omega), show n - (i + 1) = n - 1 - i by omega]; exact pk_mul 8 _) ?_
      refine lv_lshr hx hb dX9_type_89 rfl ?_
      refine lv_l2i hx hb dX9_type_90 rfl ?_
      refine lv_sipush (v := 255) hx hb dX9_type_91 (by decide) ?_
      refine lv_iand hx hb dX9_type_94 ?_
      refine b_topi (w := by8 v (n - 1 - i)) (rfl) ?_
      refine n_iast hx hb hB (hL 1002 (by decide)) ((va_up_ne _ _ (by decide)).trans (va_up_self _ _ _)) (dn + i) rfl (by omega) (by omega) dX9_type_95 (fun H locs hB => ?_)
      replace hB : m_B D ty A s L ad (va_up (va_up (va_up g 1002 (.inl (ty 0, 40, .inl (pb (a 1) (fun i => by8 v (n - 1 - i)) dn i)))) 1000 (.inr (9, [.int (nI (dn + i)), .ref (ad 1002), .int nw, .ref (ad 1004), .ref (ad 1005), .int (nI pn), .ref (ad 1007), .ref (ad 1008), .ref (ad 1009), .ref (ad 1010), .ref (ad 1011), .ref (ad 1012), .ref (ad 1013), .ref (ad 1014), .ref (ad 1015), .ref (ad 1016), .int (nI en), .int lo, .ref (ad 1019), .ref (ad 1020), .ref (ad 1021), .ref (ad 1022), .int (nI qn), .ref (ad 1024), .ref (ad 1025), .ref (ad 1026), .ref (ad 1027), .ref (ad 1028), .ref (ad 1029), .ref (ad 1030), .long tr, .ref (ad 1032), .int (nI mz)]))) 1002 (.inl (ty 0, 40, .inl (upd (pb (a 1) (fun i => by8 v (n - 1 - i)) dn i) (dn + i) (by8 v (n - 1 - i)))))) H locs := hB
      refine lv_aload_n hx hb dX9_type_96 rfl (lv_at hl 0 rfl) ?_
      refine lv_dup hx hb dX9_type_97 rfl ?_
      refine m_get (C := RX9) (T := TX9) (N := 33) (ci := 9) hx hb hts in_X9_type_X9 hown hB (hL 1000 (by decide)) ((va_up_ne _ _ (by decide)).trans (va_up_self _ _ _)) rfl 0 (by decide) (hts (.fieldLink RX9 101 "PaperRoomModel" "drafted" "I") (by decide +kernel)) (fun _ h9 => h9) rfl dX9_type_98 ?_
      refine lv_iconst (v := 1) hx hb dX9_type_101 (by decide) ?_
      refine lv_iadd hx hb dX9_type_102 ?_
      refine b_topi (w := nI ((dn + i) + 1)) (nI_add (dn + i) 1) ?_
      refine m_put (C := RX9) (T := TX9) (N := 33) (ci := 9) (v := .int (nI ((dn + i) + 1))) (ft := .int) hx hb hts in_X9_type_X9 tyX9 tyX9_ok nmX9 hown hB (hL 1000 (by decide)) ((va_up_ne _ _ (by decide)).trans (va_up_self _ _ _)) rfl 0 (by decide) (hts (.fieldLink RX9 101 "PaperRoomModel" "drafted" "I") (by decide +kernel)) (fun _ h9 => h9) rfl (by decide +kernel) rfl rfl (Nat.le_of_ble_eq_true rfl) dX9_type_103 (fun H locs hB => ?_)
      replace hB : m_B D ty A s L ad (va_up (va_up (va_up (va_up g 1002 (.inl (ty 0, 40, .inl (pb (a 1) (fun i => by8 v (n - 1 - i)) dn i)))) 1000 (.inr (9, [.int (nI (dn + i)), .ref (ad 1002), .int nw, .ref (ad 1004), .ref (ad 1005), .int (nI pn), .ref (ad 1007), .ref (ad 1008), .ref (ad 1009), .ref (ad 1010), .ref (ad 1011), .ref (ad 1012), .ref (ad 1013), .ref (ad 1014), .ref (ad 1015), .ref (ad 1016), .int (nI en), .int lo, .ref (ad 1019), .ref (ad 1020), .ref (ad 1021), .ref (ad 1022), .int (nI qn), .ref (ad 1024), .ref (ad 1025), .ref (ad 1026), .ref (ad 1027), .ref (ad 1028), .ref (ad 1029), .ref (ad 1030), .long tr, .ref (ad 1032), .int (nI mz)]))) 1002 (.inl (ty 0, 40, .inl (upd (pb (a 1) (fun i => by8 v (n - 1 - i)) dn i) (dn + i) (by8 v (n - 1 - i)))))) 1000 (.inr (9, [.int (nI ((dn + i) + 1)), .ref (ad 1002), .int nw, .ref (ad 1004), .ref (ad 1005), .int (nI pn), .ref (ad 1007), .ref (ad 1008), .ref (ad 1009), .ref (ad 1010), .ref (ad 1011), .ref (ad 1012), .ref (ad 1013), .ref (ad 1014), .ref (ad 1015), .ref (ad 1016), .int (nI en), .int lo, .ref (ad 1019), .ref (ad 1020), .ref (ad 1021), .ref (ad 1022), .int (nI qn), .ref (ad 1024), .ref (ad 1025), .ref (ad 1026), .ref (ad 1027), .ref (ad 1028), .ref (ad 1029), .ref (ad 1030), .long tr, .ref (ad 1032), .int (nI mz)]))) H locs := hB
      refine lv_iinc (v := (nI n) - (nI ((i + 1) + 1))) (lv' := [(4, .int ((nI n) - (nI ((i + 1) + 1)))), (0, .ref (ad 1000)), (1, .long v)]) hx hb dX9_type_106 hl (k := 2) rfl (dec1 n i) (by decide) rfl (fun ls hl => ?_)
      refine lv_goto (tgt := 70) hx hb dX9_type_109 (by decide) ?_
      have hB : m_B D ty A s L ad (va_up (va_up g 1002 (.inl (ty 0, 40, .inl (pb (a 1) (fun i => by8 v (n - 1 - i)) dn (i + 1))))) 1000 (.inr (9, [.int (nI (dn + (i + 1))), .ref (ad 1002), .int nw, .ref (ad 1004), .ref (ad 1005), .int (nI pn), .ref (ad 1007), .ref (ad 1008), .ref (ad 1009), .ref (ad 1010), .ref (ad 1011), .ref (ad 1012), .ref (ad 1013), .ref (ad 1014), .ref (ad 1015), .ref (ad 1016), .int (nI en), .int lo, .ref (ad 1019), .ref (ad 1020), .ref (ad 1021), .ref (ad 1022), .int (nI qn), .ref (ad 1024), .ref (ad 1025), .ref (ad 1026), .ref (ad 1027), .ref (ad 1028), .ref (ad 1029), .ref (ad 1030), .long tr, .ref (ad 1032), .int (nI mz)]))) H locs := by
        rw [up_4 (by decide)] at hB; exact hB
      have hl : lv_has ls 5 [(0, .ref (ad 1000)), (1, .long v), (4, .int ((nI n) - (nI ((i + 1) + 1))))] := lv_sub hl [1, 2, 0] rfl
      apply ihu (i := (i + 1)) (H := H) (locs := locs) (ls := ls) <;> first | omega | exact hB | exact hl
  | succ jz ihj =>
    have hjl : k < n := by omega
    have tI_k : (nI k).toInt = (k : Int) := nI_toInt (by omega)
    have hk8 := hok k (by omega)
    refine lv_iload hx hb dX9_type_15 (lv_at hl 3 rfl) ?_
    refine lv_iload_n hx hb dX9_type_17 rfl (lv_at hl 2 rfl) ?_
    refine b_icmp_ge_f 51 hx hb dX9_type_18 (by decide) (by omega) ?_
    refine lv_lload_n hx hb dX9_type_21 rfl (lv_at hl 1 rfl) ?_
    refine lv_bipush (v := 8) hx hb dX9_type_22 (by decide) ?_
    refine lv_iload hx hb dX9_type_24 (lv_at hl 3 rfl) ?_
    refine lv_imul hx hb dX9_type_26 ?_
    refine b_topi (w := nI (8 * k)) (pk_mul 8 k) ?_
    refine lv_lshr hx hb dX9_type_27 rfl ?_
    refine lv_l2i hx hb dX9_type_28 rfl ?_
    refine lv_sipush (v := 255) hx hb dX9_type_29 (by decide) ?_
    refine lv_iand hx hb dX9_type_32 ?_
    refine b_topi (w := by8 v k) (rfl) ?_
    refine lv_bipush (v := 32) hx hb dX9_type_33 (by decide) ?_
    refine lv_bipush (v := 126) hx hb dX9_type_35 (by decide) ?_
    refine m_callSE (As := [.int (by8 v k), .int 32, .int 126]) (rest := []) (c_M_in_t l D ty L ad _ _ _ _ (by rw [l32]; exact hk8.1) (by rw [l126]; exact hk8.2)) ⟨hx, hb, hml, hown, hts⟩ (va_cwS 3 hts gX9_type_X9_in rfl rfl rfl (by decide +kernel) ⟨Nat.le_of_ble_eq_true rfl, Nat.le_of_ble_eq_true rfl⟩) hB rfl hl.1 rfl (Nat.le_of_ble_eq_true rfl) dX9_type_37 ⟨Nat.le_of_ble_eq_true rfl, Nat.le_of_ble_eq_true rfl⟩ (fun H locs hB => ?_)
    refine b_if_ne_t 45 hx hb dX9_type_40 (by decide) (by decide) ?_
    refine lv_iinc (v := nI (k + 1)) (lv' := [(4, .int (nI (k + 1))), (0, .ref (ad 1000)), (1, .long v), (3, .int (nI n))]) hx hb dX9_type_45 hl (k := 3) rfl (nI_add k 1) (by decide) rfl (fun ls hl => ?_)
    refine lv_goto (tgt := 15) hx hb dX9_type_48 (by decide) ?_
    have hl : lv_has ls 5 [(0, .ref (ad 1000)), (1, .long v), (3, .int (nI n)), (4, .int (nI (k + 1)))] := lv_sub hl [1, 2, 3, 0] rfl
    apply ihj (k := (k + 1)) (H := H) (locs := locs) (ls := ls) <;> first | omega | exact hB | exact hl
set_option maxHeartbeats 1000000 in
set_option maxRecDepth 100000 in
theorem c_M_read_b1 (l : Launch) (D : va_G) (ty : Nat → ClassId) (L : List Nat) (ad : Nat → Nat) (g : Nat → va_E) (a : Nat → Nat → Int32) (dn pn en qn mz : Nat) (nw lo : Int32) (tr : Int64) (i w v : Int32) (hM : RM ty L ad g a dn pn en qn mz nw lo tr) (hi : ¬ (0 ≤ i.toInt ∧ i.toInt < 6)) : m_E l yX9_read wsX9_read 3 65 D ty [.ref (ad 1000), .int i, .int w, .int v] L ad g (some (.int (-1))) g := by
  intro sz
  refine Met.ofW (cc := cX9_read) (maxL := 5) (ret := (some .int)) (by decide) rfl ?_
  intro p e s m args below meth c s₁ B hml hv
  have hx := B.exec
  have hb := B.bytes
  have hrt := B.returns
  have hts := atoms_spec (ws := wsX9_read) B.pre
  have hown : s.vm.findClass RX9 = some m.cls := findClass_of_methodNamed B.named
  have hlocks := B.notSynchronized
  obtain ⟨rfl, hB⟩ := m_start hv
  generalize va_A (m_w L ad g) sz = A at hB ⊢
  generalize s.heap = H at hB ⊢
  generalize ([] : List Loc) = locs at hB ⊢
  have hl := lv_entry ([.ref (ad 1000), .int i, .int w, .int v]) (n := 5) (Nat.le_of_ble_eq_true rfl)
  rw [lg_entry_eq]
  generalize (lg_sl ([.ref (ad 1000), .int i, .int w, .int v]) ++ List.replicate (5 - (lg_sl ([.ref (ad 1000), .int i, .int w, .int v])).length) Slot.unset).toArray = ls at hl ⊢
  have hl : lv_has ls 5 [(0, .ref (ad 1000)), (1, .int i), (2, .int w), (3, .int v)] := hl
  obtain ⟨hL, h_1000, h_1002, h_1004, h_1005, h_1007, h_1008, h_1009, h_1010, h_1011, h_1012, h_1013, h_1014, h_1015, h_1016, h_1019, h_1020, h_1021, h_1022, h_1024, h_1025, h_1026, h_1027, h_1028, h_1029, h_1030, h_1032⟩ := id hM
  refine lv_iload_n hx hb dX9_read_0 rfl (lv_at hl 1 rfl) ?_
  refine m_callSE (As := [.int i]) (rest := []) (c_M_isBidder_f l D ty L ad _ _ hi) ⟨hx, hb, hml, hown, hts⟩ (va_cwS 1 hts gX9_read_X9_isBidder rfl rfl rfl (by decide +kernel) ⟨Nat.le_of_ble_eq_true rfl, Nat.le_of_ble_eq_true rfl⟩) hB rfl hl.1 rfl (Nat.le_of_ble_eq_true rfl) dX9_read_1 ⟨Nat.le_of_ble_eq_true rfl, Nat.le_of_ble_eq_true rfl⟩ (fun H locs hB => ?_)
  refine b_if_eq_t 16 hx hb dX9_read_4 (by decide) (by decide) ?_
  refine lv_iconst (v := (-1)) hx hb dX9_read_16 (by decide) ?_
  exact m_iret hx hb hrt hlocks hB (Nat.le_refl _) (Nat.le_refl _) dX9_read_17 ⟨rfl, rfl, rfl, rfl⟩
set_option maxHeartbeats 1000000 in
set_option maxRecDepth 100000 in
theorem c_M_read_b2 (l : Launch) (D : va_G) (ty : Nat → ClassId) (L : List Nat) (ad : Nat → Nat) (g : Nat → va_E) (a : Nat → Nat → Int32) (dn pn en qn mz : Nat) (nw lo : Int32) (tr : Int64) (b : Nat) (i v : Int32) (hM : RM ty L ad g a dn pn en qn mz nw lo tr) (hb6 : b < 6) (hi : ¬ (0 ≤ i.toInt ∧ i.toInt < pn)) (hpn : pn ≤ 8) : m_E l yX9_read wsX9_read 3 65 D ty [.ref (ad 1000), .int (nI b), .int i, .int v] L ad g (some (.int (-1))) g := by
  intro sz
  refine Met.ofW (cc := cX9_read) (maxL := 5) (ret := (some .int)) (by decide) rfl ?_
  intro p e s m args below meth c s₁ B hml hv
  have hx := B.exec
  have hb := B.bytes
  have hrt := B.returns
  have hts := atoms_spec (ws := wsX9_read) B.pre
  have hown : s.vm.findClass RX9 = some m.cls := findClass_of_methodNamed B.named
  have hlocks := B.notSynchronized
  obtain ⟨rfl, hB⟩ := m_start hv
  generalize va_A (m_w L ad g) sz = A at hB ⊢
  generalize s.heap = H at hB ⊢
  generalize ([] : List Loc) = locs at hB ⊢
  have hl := lv_entry ([.ref (ad 1000), .int (nI b), .int i, .int v]) (n := 5) (Nat.le_of_ble_eq_true rfl)
  rw [lg_entry_eq]
  generalize (lg_sl ([.ref (ad 1000), .int (nI b), .int i, .int v]) ++ List.replicate (5 - (lg_sl ([.ref (ad 1000), .int (nI b), .int i, .int v])).length) Slot.unset).toArray = ls at hl ⊢
  have hl : lv_has ls 5 [(0, .ref (ad 1000)), (1, .int (nI b)), (2, .int i), (3, .int v)] := hl
  obtain ⟨hL, h_1000, h_1002, h_1004, h_1005, h_1007, h_1008, h_1009, h_1010, h_1011, h_1012, h_1013, h_1014, h_1015, h_1016, h_1019, h_1020, h_1021, h_1022, h_1024, h_1025, h_1026, h_1027, h_1028, h_1029, h_1030, h_1032⟩ := id hM
  refine lv_iload_n hx hb dX9_read_0 rfl (lv_at hl 1 rfl) ?_
  refine m_callSE (As := [.int (nI b)]) (rest := []) (c_M_isBidder_t l D ty L ad _ b hb6) ⟨hx, hb, hml, hown, hts⟩ (va_cwS 1 hts gX9_read_X9_isBidder rfl rfl rfl (by decide +kernel) ⟨Nat.le_of_ble_eq_true rfl, Nat.le_of_ble_eq_true rfl⟩) hB rfl hl.1 rfl (Nat.le_of_ble_eq_true rfl) dX9_read_1 ⟨Nat.le_of_ble_eq_true rfl, Nat.le_of_ble_eq_true rfl⟩ (fun H locs hB => ?_)
  refine b_if_eq_f 16 hx hb dX9_read_4 (by decide) (by decide) ?_
  refine lv_aload_n hx hb dX9_read_7 rfl (lv_at hl 0 rfl) ?_
  refine lv_iload_n hx hb dX9_read_8 rfl (lv_at hl 2 rfl) ?_
  refine lv_iload_n hx hb dX9_read_9 rfl (lv_at hl 3 rfl) ?_
  refine m_callVE (ci := 9) (As := [.int i, .int v]) (rest := []) (c_M_isVersion_p l D ty L ad _ a dn pn en qn mz nw lo tr _ _ hM hi hpn) ⟨hx, hb, hml, hown, hts⟩ (cwV 2 hts gX9_read_X9_isVersion rfl rfl rfl (by decide +kernel) ⟨Nat.le_of_ble_eq_true rfl, Nat.le_of_ble_eq_true rfl⟩) hB (hL 1000 (by decide)) h_1000 rfl rfl hl.1 rfl (Nat.le_of_ble_eq_true rfl) dX9_read_10 ⟨Nat.le_of_ble_eq_true rfl, Nat.le_of_ble_eq_true rfl⟩ (fun H locs hB => ?_)
  refine b_if_ne_f 18 hx hb dX9_read_13 (by decide) (by decide) ?_
  refine lv_iconst (v := (-1)) hx hb dX9_read_16 (by decide) ?_
  exact m_iret hx hb hrt hlocks hB (Nat.le_refl _) (Nat.le_refl _) dX9_read_17 ⟨rfl, rfl, rfl, rfl⟩
set_option maxHeartbeats 1000000 in
set_option maxRecDepth 100000 in
theorem c_M_read_b3 (l : Launch) (D : va_G) (ty : Nat → ClassId) (L : List Nat) (ad : Nat → Nat) (g : Nat → va_E) (a : Nat → Nat → Int32) (dn pn en qn mz : Nat) (nw lo : Int32) (tr : Int64) (b j vj : Nat) (v : Int32) (hM : RM ty L ad g a dn pn en qn mz nw lo tr) (hb6 : b < 6) (hj9 : j < pn) (hpn : pn ≤ 8) (hvj : a 10 j = nI vj) (hv4 : vj ≤ 4) (hi : ¬ (0 ≤ v.toInt ∧ v.toInt < vj)) : m_E l yX9_read wsX9_read 3 65 D ty [.ref (ad 1000), .int (nI b), .int (nI j), .int v] L ad g (some (.int (-1))) g := by
  intro sz
  refine Met.ofW (cc := cX9_read) (maxL := 5) (ret := (some .int)) (by decide) rfl ?_
  intro p e s m args below meth c s₁ B hml hv
  have hx := B.exec
  have hb := B.bytes
  have hrt := B.returns
  have hts := atoms_spec (ws := wsX9_read) B.pre
  have hown : s.vm.findClass RX9 = some m.cls := findClass_of_methodNamed B.named
  have hlocks := B.notSynchronized
  obtain ⟨rfl, hB⟩ := m_start hv
  generalize va_A (m_w L ad g) sz = A at hB ⊢
  generalize s.heap = H at hB ⊢
  generalize ([] : List Loc) = locs at hB ⊢
  have hl := lv_entry ([.ref (ad 1000), .int (nI b), .int (nI j), .int v]) (n := 5) (Nat.le_of_ble_eq_true rfl)
  rw [lg_entry_eq]
  generalize (lg_sl ([.ref (ad 1000), .int (nI b), .int (nI j), .int v]) ++ List.replicate (5 - (lg_sl ([.ref (ad 1000), .int (nI b), .int (nI j), .int v])).length) Slot.unset).toArray = ls at hl ⊢
  have hl : lv_has ls 5 [(0, .ref (ad 1000)), (1, .int (nI b)), (2, .int (nI j)), (3, .int v)] := hl
  obtain ⟨hL, h_1000, h_1002, h_1004, h_1005, h_1007, h_1008, h_1009, h_1010, h_1011, h_1012, h_1013, h_1014, h_1015, h_1016, h_1019, h_1020, h_1021, h_1022, h_1024, h_1025, h_1026, h_1027, h_1028, h_1029, h_1030, h_1032⟩ := id hM
  refine lv_iload_n hx hb dX9_read_0 rfl (lv_at hl 1 rfl) ?_
  refine m_callSE (As := [.int (nI b)]) (rest := []) (c_M_isBidder_t l D ty L ad _ b hb6) ⟨hx, hb, hml, hown, hts⟩ (va_cwS 1 hts gX9_read_X9_isBidder rfl rfl rfl (by decide +kernel) ⟨Nat.le_of_ble_eq_true rfl, Nat.le_of_ble_eq_true rfl⟩) hB rfl hl.1 rfl (Nat.le_of_ble_eq_true rfl) dX9_read_1 ⟨Nat.le_of_ble_eq_true rfl, Nat.le_of_ble_eq_true rfl⟩ (fun H locs hB => ?_)
  refine b_if_eq_f 16 hx hb dX9_read_4 (by decide) (by decide) ?_
  refine lv_aload_n hx hb dX9_read_7 rfl (lv_at hl 0 rfl) ?_
  refine lv_iload_n hx hb dX9_read_8 rfl (lv_at hl 2 rfl) ?_
  refine lv_iload_n hx hb dX9_read_9 rfl (lv_at hl 3 rfl) ?_
  refine m_callVE (ci := 9) (As := [.int (nI j), .int v]) (rest := []) (c_M_isVersion_f l D ty L ad _ a dn pn en qn mz nw lo tr j vj _ hM hj9 hpn hvj hv4 hi) ⟨hx, hb, hml, hown, hts⟩ (cwV 2 hts gX9_read_X9_isVersion rfl rfl rfl (by decide +kernel) ⟨Nat.le_of_ble_eq_true rfl, Nat.le_of_ble_eq_true rfl⟩) hB (hL 1000 (by decide)) h_1000 rfl rfl hl.1 rfl (Nat.le_of_ble_eq_true rfl) dX9_read_10 ⟨Nat.le_of_ble_eq_true rfl, Nat.le_of_ble_eq_true rfl⟩ (fun H locs hB => ?_)
  refine b_if_ne_f 18 hx hb dX9_read_13 (by decide) (by decide) ?_
  refine lv_iconst (v := (-1)) hx hb dX9_read_16 (by decide) ?_
  exact m_iret hx hb hrt hlocks hB (Nat.le_refl _) (Nat.le_refl _) dX9_read_17 ⟨rfl, rfl, rfl, rfl⟩
set_option maxHeartbeats 1000000 in
set_option maxRecDepth 100000 in
theorem c_M_read_no (l : Launch) (D : va_G) (ty : Nat → ClassId) (L : List Nat) (ad : Nat → Nat) (g : Nat → va_E) (a : Nat → Nat → Int32) (dn pn en qn mz : Nat) (nw lo : Int32) (tr : Int64) (b j k0 vj fo : Nat) (hM : RM ty L ad g a dn pn en qn mz nw lo tr) (hj9 : j < pn) (hpn : pn ≤ 8) (hvj : a 10 j = nI vj) (hv4 : vj ≤ 4) (hk0 : k0 < vj) (hb6 : b < 6) (hfo : a 7 j = nI fo) (hfo4 : fo < 4) (hw : a 9 j = 0 ∨ a 9 j = 1) (hs : seeB (a 6 j) (a 9 j) (a 8 j) (a 3) (a 4) (b % 3 * 4 + fo) nw = false) : m_E l yX9_read wsX9_read 3 65 D ty [.ref (ad 1000), .int (nI b), .int (nI j), .int (nI k0)] L ad g (some (.int (-4))) g := by
  intro sz
  refine Met.ofW (cc := cX9_read) (maxL := 5) (ret := (some .int)) (by decide) rfl ?_
  intro p e s m args below meth c s₁ B hml hv
  have hx := B.exec
  have hb := B.bytes
  have hrt := B.returns
  have hts := atoms_spec (ws := wsX9_read) B.pre
  have hown : s.vm.findClass RX9 = some m.cls := findClass_of_methodNamed B.named
  have hlocks := B.notSynchronized
  obtain ⟨rfl, hB⟩ := m_start hv
  generalize va_A (m_w L ad g) sz = A at hB ⊢
  generalize s.heap = H at hB ⊢
  generalize ([] : List Loc) = locs at hB ⊢
  have hl := lv_entry ([.ref (ad 1000), .int (nI b), .int (nI j), .int (nI k0)]) (n := 5) (Nat.le_of_ble_eq_true rfl)
  rw [lg_entry_eq]
  generalize (lg_sl ([.ref (ad 1000), .int (nI b), .int (nI j), .int (nI k0)]) ++ List.replicate (5 - (lg_sl ([.ref (ad 1000), .int (nI b), .int (nI j), .int (nI k0)])).length) Slot.unset).toArray = ls at hl ⊢
  have hl : lv_has ls 5 [(0, .ref (ad 1000)), (1, .int (nI b)), (2, .int (nI j)), (3, .int (nI k0))] := hl
  obtain ⟨hL, h_1000, h_1002, h_1004, h_1005, h_1007, h_1008, h_1009, h_1010, h_1011, h_1012, h_1013, h_1014, h_1015, h_1016, h_1019, h_1020, h_1021, h_1022, h_1024, h_1025, h_1026, h_1027, h_1028, h_1029, h_1030, h_1032⟩ := id hM
  have hj8 : j < 8 := by omega
  refine lv_iload_n hx hb dX9_read_0 rfl (lv_at hl 1 rfl) ?_
  refine m_callSE (As := [.int (nI b)]) (rest := []) (c_M_isBidder_t l D ty L ad _ b hb6) ⟨hx, hb, hml, hown, hts⟩ (va_cwS 1 hts gX9_read_X9_isBidder rfl rfl rfl (by decide +kernel) ⟨Nat.le_of_ble_eq_true rfl, Nat.le_of_ble_eq_true rfl⟩) hB rfl hl.1 rfl (Nat.le_of_ble_eq_true rfl) dX9_read_1 ⟨Nat.le_of_ble_eq_true rfl, Nat.le_of_ble_eq_true rfl⟩ (fun H locs hB => ?_)
  refine b_if_eq_f 16 hx hb dX9_read_4 (by decide) (by decide) ?_
  refine lv_aload_n hx hb dX9_read_7 rfl (lv_at hl 0 rfl) ?_
  refine lv_iload_n hx hb dX9_read_8 rfl (lv_at hl 2 rfl) ?_
  refine lv_iload_n hx hb dX9_read_9 rfl (lv_at hl 3 rfl) ?_
  refine m_callVE (ci := 9) (As := [.int (nI j), .int (nI k0)]) (rest := []) (c_M_isVersion_t l D ty L ad _ a dn pn en qn mz nw lo tr j k0 vj hM hj9 hpn hvj hv4 hk0) ⟨hx, hb, hml, hown, hts⟩ (cwV 2 hts gX9_read_X9_isVersion rfl rfl rfl (by decide +kernel) ⟨Nat.le_of_ble_eq_true rfl, Nat.le_of_ble_eq_true rfl⟩) hB (hL 1000 (by decide)) h_1000 rfl rfl hl.1 rfl (Nat.le_of_ble_eq_true rfl) dX9_read_10 ⟨Nat.le_of_ble_eq_true rfl, Nat.le_of_ble_eq_true rfl⟩ (fun H locs hB => ?_)
  refine b_if_ne_t 18 hx hb dX9_read_13 (by decide) (by decide) ?_
  refine lv_aload_n hx hb dX9_read_18 rfl (lv_at hl 0 rfl) ?_
  refine lv_iload_n hx hb dX9_read_19 rfl (lv_at hl 1 rfl) ?_
  refine lv_iload_n hx hb dX9_read_20 rfl (lv_at hl 2 rfl) ?_
  refine m_callVE (ci := 9) (As := [.int (nI b), .int (nI j)]) (rest := []) (c_M_sees l D ty L ad _ a dn pn en qn mz nw lo tr b j fo hM hb6 hj8 hfo hfo4 hw) ⟨hx, hb, hml, hown, hts⟩ (cwV 2 hts gX9_read_X9_sees rfl rfl rfl (by decide +kernel) ⟨Nat.le_of_ble_eq_true rfl, Nat.le_of_ble_eq_true rfl⟩) hB (hL 1000 (by decide)) h_1000 rfl rfl hl.1 rfl (Nat.le_of_ble_eq_true rfl) dX9_read_21 ⟨Nat.le_of_ble_eq_true rfl, Nat.le_of_ble_eq_true rfl⟩ (fun H locs hB => ?_)
  refine b_if_ne_f 30 hx hb dX9_read_24 (by decide) (by rw [hs]; decide) ?_
  refine lv_bipush (v := (-4)) hx hb dX9_read_27 (by decide) ?_
  exact m_iret hx hb hrt hlocks hB (Nat.le_refl _) (Nat.le_refl _) dX9_read_29 ⟨rfl, rfl, rfl, rfl⟩
set_option maxRecDepth 20000 in
theorem in_X9_read_X9 : ∀ w ∈ wsX90, w ∈ wsX9_read := by decide +kernel
set_option maxHeartbeats 1000000 in
set_option maxRecDepth 100000 in
theorem c_M_read_full_t (l : Launch) (D : va_G) (ty : Nat → ClassId) (L : List Nat) (ad : Nat → Nat) (g : Nat → va_E) (a : Nat → Nat → Int32) (dn pn en qn mz : Nat) (nw lo : Int32) (tr : Int64) (b j k0 vj fo n : Nat) (f : Nat → Int32) (hM : RM ty L ad g a dn pn en qn mz nw lo tr) (hj9 : j < pn) (hpn : pn ≤ 8) (hvj : a 10 j = nI vj) (hv4 : vj ≤ 4) (hk0 : k0 < vj) (hb6 : b < 6) (hfo : a 7 j = nI fo) (hfo4 : fo < 4) (hw : a 9 j = 0 ∨ a 9 j = 1) (hs : seeB (a 6 j) (a 9 j) (a 8 j) (a 3) (a 4) (b % 3 * 4 + fo) nw = true) (hsz : a 11 (4 * j + k0) = nI n) (hn40 : n ≤ 40) (hf : ∀ i, i < n → f i = pl (a 12 (40 * (4 * j + k0) + i)) (a 13 (40 * (4 * j + k0) + i))) (hkd : a 6 j = 2) (hen : en = 200) : m_C l yX9_read wsX9_read 3 65 0 0 D ty [.ref (ad 1000), .int (nI b), .int (nI j), .int (nI k0)] L ad g (fun v1 L1 ad1 g1 => v1 = (some (.int (nI (mkN true (nI b) f n)))) ∧ L1 = L ∧ ad1 = ad ∧ (∀ x, x < 1000 → g1 x = g x) ∧ RM ty L ad g1 (rdA a true b f n) dn pn en qn (mkN true (nI b) f n) nw (lo + 1) tr) := by
  intro sz
  refine Met.ofW (cc := cX9_read) (maxL := 5) (ret := (some .int)) (by decide) rfl ?_
  intro p e s m args below meth c s₁ B hml hv
  have hx := B.exec
  have hb := B.bytes
  have hrt := B.returns
  have hts := atoms_spec (ws := wsX9_read) B.pre
  have hown : s.vm.findClass RX9 = some m.cls := findClass_of_methodNamed B.named
  have hlocks := B.notSynchronized
  obtain ⟨rfl, hB⟩ := m_start hv
  generalize va_A (m_w L ad g) sz = A at hB ⊢
  generalize s.heap = H at hB ⊢
  generalize ([] : List Loc) = locs at hB ⊢
  have hl := lv_entry ([.ref (ad 1000), .int (nI b), .int (nI j), .int (nI k0)]) (n := 5) (Nat.le_of_ble_eq_true rfl)
  rw [lg_entry_eq]
  generalize (lg_sl ([.ref (ad 1000), .int (nI b), .int (nI j), .int (nI k0)]) ++ List.replicate (5 - (lg_sl ([.ref (ad 1000), .int (nI b), .int (nI j), .int (nI k0)])).length) Slot.unset).toArray = ls at hl ⊢
  have hl : lv_has ls 5 [(0, .ref (ad 1000)), (1, .int (nI b)), (2, .int (nI j)), (3, .int (nI k0))] := hl
  obtain ⟨hL, h_1000, h_1002, h_1004, h_1005, h_1007, h_1008, h_1009, h_1010, h_1011, h_1012, h_1013, h_1014, h_1015, h_1016, h_1019, h_1020, h_1021, h_1022, h_1024, h_1025, h_1026, h_1027, h_1028, h_1029, h_1030, h_1032⟩ := id hM
  have hj8 : j < 8 := by omega
  have hN := mkN_le true (nI b) f n
  refine lv_iload_n hx hb dX9_read_0 rfl (lv_at hl 1 rfl) ?_
  refine m_callSE (As := [.int (nI b)]) (rest := []) (c_M_isBidder_t l D ty L ad _ b hb6) ⟨hx, hb, hml, hown, hts⟩ (va_cwS 1 hts gX9_read_X9_isBidder rfl rfl rfl (by decide +kernel) ⟨Nat.le_of_ble_eq_true rfl, Nat.le_of_ble_eq_true rfl⟩) hB rfl hl.1 rfl (Nat.le_of_ble_eq_true rfl) dX9_read_1 ⟨Nat.le_of_ble_eq_true rfl, Nat.le_of_ble_eq_true rfl⟩ (fun H locs hB => ?_)
  refine b_if_eq_f 16 hx hb dX9_read_4 (by decide) (by decide) ?_
  refine lv_aload_n hx hb dX9_read_7 rfl (lv_at hl 0 rfl) ?_
  refine lv_iload_n hx hb dX9_read_8 rfl (lv_at hl 2 rfl) ?_
  refine lv_iload_n hx hb dX9_read_9 rfl (lv_at hl 3 rfl) ?_
  refine m_callVE (ci := 9) (As := [.int (nI j), .int (nI k0)]) (rest := []) (c_M_isVersion_t l D ty L ad _ a dn pn en qn mz nw lo tr j k0 vj hM hj9 hpn hvj hv4 hk0) ⟨hx, hb, hml, hown, hts⟩ (cwV 2 hts gX9_read_X9_isVersion rfl rfl rfl (by decide +kernel) ⟨Nat.le_of_ble_eq_true rfl, Nat.le_of_ble_eq_true rfl⟩) hB (hL 1000 (by decide)) h_1000 rfl rfl hl.1 rfl (Nat.le_of_ble_eq_true rfl) dX9_read_10 ⟨Nat.le_of_ble_eq_true rfl, Nat.le_of_ble_eq_true rfl⟩ (fun H locs hB => ?_)
  refine b_if_ne_t 18 hx hb dX9_read_13 (by decide) (by decide) ?_
  refine lv_aload_n hx hb dX9_read_18 rfl (lv_at hl 0 rfl) ?_
  refine lv_iload_n hx hb dX9_read_19 rfl (lv_at hl 1 rfl) ?_
  refine lv_iload_n hx hb dX9_read_20 rfl (lv_at hl 2 rfl) ?_
  refine m_callVE (ci := 9) (As := [.int (nI b), .int (nI j)]) (rest := []) (c_M_sees l D ty L ad _ a dn pn en qn mz nw lo tr b j fo hM hb6 hj8 hfo hfo4 hw) ⟨hx, hb, hml, hown, hts⟩ (cwV 2 hts gX9_read_X9_sees rfl rfl rfl (by decide +kernel) ⟨Nat.le_of_ble_eq_true rfl, Nat.le_of_ble_eq_true rfl⟩) hB (hL 1000 (by decide)) h_1000 rfl rfl hl.1 rfl (Nat.le_of_ble_eq_true rfl) dX9_read_21 ⟨Nat.le_of_ble_eq_true rfl, Nat.le_of_ble_eq_true rfl⟩ (fun H locs hB => ?_)
  refine b_if_ne_t 30 hx hb dX9_read_24 (by decide) (by rw [hs]; decide) ?_
  refine lv_aload_n hx hb dX9_read_30 rfl (lv_at hl 0 rfl) ?_
  refine lv_iload_n hx hb dX9_read_31 rfl (lv_at hl 1 rfl) ?_
  refine lv_iload_n hx hb dX9_read_32 rfl (lv_at hl 2 rfl) ?_
  refine lv_iload_n hx hb dX9_read_33 rfl (lv_at hl 3 rfl) ?_
  refine m_callV (ci := 9) (As := [.int (nI b), .int (nI j), .int (nI k0)]) (rest := []) (c_M_makes_t l D ty L ad _ a dn pn en qn mz nw lo tr (nI b) j k0 n f hM hj8 (by omega) hsz hn40 hf hkd) ⟨hx, hb, hml, hown, hts⟩ (cwV 3 hts gX9_read_X9_makes rfl rfl rfl (by decide +kernel) ⟨Nat.le_of_ble_eq_true rfl, Nat.le_of_ble_eq_true rfl⟩) hB (hL 1000 (by decide)) h_1000 rfl rfl hl.1 rfl (Nat.le_of_ble_eq_true rfl) dX9_read_34 ⟨Nat.le_of_ble_eq_true rfl, Nat.le_of_ble_eq_true rfl⟩ (fun v134 L134 ad_134 g134 H locs hp134 hB => ?_)
  obtain ⟨q1_134, q2_134, q3_134, hfr_134, hM_134⟩ := hp134
  rw [q2_134, q3_134] at hB
  obtain ⟨_, f134_1000, f134_1002, f134_1004, f134_1005, f134_1007, f134_1008, f134_1009, f134_1010, f134_1011, f134_1012, f134_1013, f134_1014, f134_1015, f134_1016, f134_1019, f134_1020, f134_1021, f134_1022, f134_1024, f134_1025, f134_1026, f134_1027, f134_1028, f134_1029, f134_1030, f134_1032⟩ := id hM_134
  refine W.eq (g2 := F0 m 37 ls []) (by rw [q1_134]; rfl) ?_
  refine lv_aload_n hx hb dX9_read_37 rfl (lv_at hl 0 rfl) ?_
  refine m_get (C := RX9) (T := TX9) (N := 33) (ci := 9) hx hb hts in_X9_read_X9 hown hB (hL 1000 (by decide)) f134_1000 rfl 14 (by decide) (hts (.fieldLink RX9 44 "PaperRoomModel" "viewSize" "[I") (by decide +kernel)) (fun _ h9 => h9) rfl dX9_read_38 ?_
  refine lv_iload_n hx hb dX9_read_41 rfl (lv_at hl 1 rfl) ?_
  refine lv_aload_n hx hb dX9_read_42 rfl (lv_at hl 0 rfl) ?_
  refine m_get (C := RX9) (T := TX9) (N := 33) (ci := 9) hx hb hts in_X9_read_X9 hown hB (hL 1000 (by decide)) f134_1000 rfl 32 (by decide) (hts (.fieldLink RX9 127 "PaperRoomModel" "madeSize" "I") (by decide +kernel)) (fun _ h9 => h9) rfl dX9_read_43 ?_
  refine n_iast hx hb hB (hL 1015 (by decide)) f134_1015 b rfl (by omega) (by omega) dX9_read_46 (fun H locs hB => ?_)
  replace hB : m_B D ty A s L ad (va_up g134 1015 (.inl (ty 0, 6, .inl (upd ((va_up a 31 (mkF true (nI b) f (a 31) n)) 14) b (nI (mkN true (nI b) f n)))))) H locs := hB
  refine lv_iconst (v := 0) hx hb dX9_read_47 (by decide) ?_
  refine lv_istore (lv' := [(4, .int 0), (0, .ref (ad 1000)), (1, .int (nI b)), (2, .int (nI j)), (3, .int (nI k0))]) hx hb dX9_read_48 hl (by decide) rfl (fun ls hl => ?_)
  obtain ⟨gB, hgB⟩ : ∃ z, z = (va_up g134 1015 (.inl (ty 0, 6, .inl (upd ((va_up a 31 (mkF true (nI b) f (a 31) n)) 14) b (nI (mkN true (nI b) f n)))))) := ⟨_, rfl⟩
  rw [← hgB] at hB
  have FgB_1000 : gB 1000 = .inr (9, [.int (nI dn), .ref (ad 1002), .int nw, .ref (ad 1004), .ref (ad 1005), .int (nI pn), .ref (ad 1007), .ref (ad 1008), .ref (ad 1009), .ref (ad 1010), .ref (ad 1011), .ref (ad 1012), .ref (ad 1013), .ref (ad 1014), .ref (ad 1015), .ref (ad 1016), .int (nI en), .int lo, .ref (ad 1019), .ref (ad 1020), .ref (ad 1021), .ref (ad 1022), .int (nI qn), .ref (ad 1024), .ref (ad 1025), .ref (ad 1026), .ref (ad 1027), .ref (ad 1028), .ref (ad 1029), .ref (ad 1030), .long tr, .ref (ad 1032), .int (nI (mkN true (nI b) f n))]) := by rw [hgB]; exact ((va_up_ne _ _ (by decide)).trans f134_1000)
  have FgB_1002 : gB 1002 = .inl (ty 0, 40, .inl ((va_up a 31 (mkF true (nI b) f (a 31) n)) 1)) := by rw [hgB]; exact ((va_up_ne _ _ (by decide)).trans f134_1002)
  have FgB_1004 : gB 1004 = .inl (ty 0, 12, .inl ((va_up a 31 (mkF true (nI b) f (a 31) n)) 3)) := by rw [hgB]; exact ((va_up_ne _ _ (by decide)).trans f134_1004)
  have FgB_1005 : gB 1005 = .inl (ty 0, 12, .inl ((va_up a 31 (mkF true (nI b) f (a 31) n)) 4)) := by rw [hgB]; exact ((va_up_ne _ _ (by decide)).trans f134_1005)
  have FgB_1007 : gB 1007 = .inl (ty 0, 8, .inl ((va_up a 31 (mkF true (nI b) f (a 31) n)) 6)) := by rw [hgB]; exact ((va_up_ne _ _ (by decide)).trans f134_1007)
  have FgB_1008 : gB 1008 = .inl (ty 0, 8, .inl ((va_up a 31 (mkF true (nI b) f (a 31) n)) 7)) := by rw [hgB]; exact ((va_up_ne _ _ (by decide)).trans f134_1008)
  have FgB_1009 : gB 1009 = .inl (ty 0, 8, .inl ((va_up a 31 (mkF true (nI b) f (a 31) n)) 8)) := by rw [hgB]; exact ((va_up_ne _ _ (by decide)).trans f134_1009)
  have FgB_1010 : gB 1010 = .inl (ty 3, 8, .inl ((va_up a 31 (mkF true (nI b) f (a 31) n)) 9)) := by rw [hgB]; exact ((va_up_ne _ _ (by decide)).trans f134_1010)
  have FgB_1011 : gB 1011 = .inl (ty 0, 8, .inl ((va_up a 31 (mkF true (nI b) f (a 31) n)) 10)) := by rw [hgB]; exact ((va_up_ne _ _ (by decide)).trans f134_1011)
  have FgB_1012 : gB 1012 = .inl (ty 0, 32, .inl ((va_up a 31 (mkF true (nI b) f (a 31) n)) 11)) := by rw [hgB]; exact ((va_up_ne _ _ (by decide)).trans f134_1012)
  have FgB_1013 : gB 1013 = .inl (ty 0, 1280, .inl ((va_up a 31 (mkF true (nI b) f (a 31) n)) 12)) := by rw [hgB]; exact ((va_up_ne _ _ (by decide)).trans f134_1013)
  have FgB_1014 : gB 1014 = .inl (ty 3, 1280, .inl ((va_up a 31 (mkF true (nI b) f (a 31) n)) 13)) := by rw [hgB]; exact ((va_up_ne _ _ (by decide)).trans f134_1014)
  have FgB_1015 : gB 1015 = .inl (ty 0, 6, .inl (upd ((va_up a 31 (mkF true (nI b) f (a 31) n)) 14) b (nI (mkN true (nI b) f n)))) := by rw [hgB]; exact (va_up_self _ _ _)
  have FgB_1016 : gB 1016 = .inl (ty 0, 480, .inl ((va_up a 31 (mkF true (nI b) f (a 31) n)) 15)) := by rw [hgB]; exact ((va_up_ne _ _ (by decide)).trans f134_1016)
  have FgB_1019 : gB 1019 = .inl (ty 0, 200, .inl ((va_up a 31 (mkF true (nI b) f (a 31) n)) 18)) := by rw [hgB]; exact ((va_up_ne _ _ (by decide)).trans f134_1019)
  have FgB_1020 : gB 1020 = .inl (ty 0, 200, .inl ((va_up a 31 (mkF true (nI b) f (a 31) n)) 19)) := by rw [hgB]; exact ((va_up_ne _ _ (by decide)).trans f134_1020)
  have FgB_1021 : gB 1021 = .inl (ty 0, 200, .inl ((va_up a 31 (mkF true (nI b) f (a 31) n)) 20)) := by rw [hgB]; exact ((va_up_ne _ _ (by decide)).trans f134_1021)
  have FgB_1022 : gB 1022 = .inl (ty 0, 200, .inl ((va_up a 31 (mkF true (nI b) f (a 31) n)) 21)) := by rw [hgB]; exact ((va_up_ne _ _ (by decide)).trans f134_1022)
  have FgB_1024 : gB 1024 = .inl (ty 0, 30, .inl ((va_up a 31 (mkF true (nI b) f (a 31) n)) 23)) := by rw [hgB]; exact ((va_up_ne _ _ (by decide)).trans f134_1024)
  have FgB_1025 : gB 1025 = .inl (ty 0, 30, .inl ((va_up a 31 (mkF true (nI b) f (a 31) n)) 24)) := by rw [hgB]; exact ((va_up_ne _ _ (by decide)).trans f134_1025)
  have FgB_1026 : gB 1026 = .inl (ty 0, 30, .inl ((va_up a 31 (mkF true (nI b) f (a 31) n)) 25)) := by rw [hgB]; exact ((va_up_ne _ _ (by decide)).trans f134_1026)
  have FgB_1027 : gB 1027 = .inl (ty 0, 30, .inl ((va_up a 31 (mkF true (nI b) f (a 31) n)) 26)) := by rw [hgB]; exact ((va_up_ne _ _ (by decide)).trans f134_1027)
  have FgB_1028 : gB 1028 = .inl (ty 0, 30, .inl ((va_up a 31 (mkF true (nI b) f (a 31) n)) 27)) := by rw [hgB]; exact ((va_up_ne _ _ (by decide)).trans f134_1028)
  have FgB_1029 : gB 1029 = .inl (ty 0, 6, .inl ((va_up a 31 (mkF true (nI b) f (a 31) n)) 28)) := by rw [hgB]; exact ((va_up_ne _ _ (by decide)).trans f134_1029)
  have FgB_1030 : gB 1030 = .inl (ty 0, 6, .inl ((va_up a 31 (mkF true (nI b) f (a 31) n)) 29)) := by rw [hgB]; exact ((va_up_ne _ _ (by decide)).trans f134_1030)
  have FgB_1032 : gB 1032 = .inl (ty 0, 80, .inl ((va_up a 31 (mkF true (nI b) f (a 31) n)) 31)) := by rw [hgB]; exact ((va_up_ne _ _ (by decide)).trans f134_1032)
  have RgB : ∀ x, x < 1000 → gB x = g x := by intro x hx; rw [hgB]; exact ((va_up_ne _ _ (by omega)).trans ((hfr_134 x hx).trans rfl))
  have tI_N : (nI (mkN true (nI b) f n)).toInt = ((mkN true (nI b) f n) : Int) := nI_toInt (by omega)
  replace hl : lv_has ls 5 [(0, .ref (ad 1000)), (1, .int (nI b)), (2, .int (nI j)), (3, .int (nI k0)), (4, .int 0)] := lv_sub hl [1, 2, 3, 4, 0] rfl
  obtain ⟨k, hk0⟩ : ∃ k : Nat, k = 0 := ⟨0, rfl⟩
  replace hB : m_B D ty A s L ad (va_up gB 1016 (.inl (ty 0, 480, .inl (pb (a 15) (mkF true (nI b) f (a 31) n) (80 * b) k)))) H locs := by
    rw [hk0]
    show m_B D ty A s L ad (va_up gB 1016 (.inl (ty 0, 480, .inl (a 15)))) H locs; rw [up_same (f := gB) (k := 1016) (v := .inl (ty 0, 480, .inl (a 15))) FgB_1016]; exact hB
  replace hl : lv_has ls 5 [(0, .ref (ad 1000)), (1, .int (nI b)), (2, .int (nI j)), (3, .int (nI k0)), (4, .int (nI k))] := by rw [hk0]; exact hl
  obtain ⟨jz, hj⟩ : ∃ jz : Nat, k + jz = (mkN true (nI b) f n) := ⟨(mkN true (nI b) f n) - k, by omega⟩
  clear hk0
  induction jz generalizing k H locs ls with
  | zero =>
    have hje : k = (mkN true (nI b) f n) := by omega
    have tI_k : (nI k).toInt = (k : Int) := nI_toInt (by omega)
    refine lv_iload hx hb dX9_read_50 (lv_at hl 4 rfl) ?_
    refine lv_aload_n hx hb dX9_read_52 rfl (lv_at hl 0 rfl) ?_
    refine m_get (C := RX9) (T := TX9) (N := 33) (ci := 9) hx hb hts in_X9_read_X9 hown hB (hL 1000 (by decide)) ((va_up_ne _ _ (by decide)).trans FgB_1000) rfl 32 (by decide) (hts (.fieldLink RX9 127 "PaperRoomModel" "madeSize" "I") (by decide +kernel)) (fun _ h9 => h9) rfl dX9_read_53 ?_
    refine b_icmp_ge_t 84 hx hb dX9_read_56 (by decide) (by omega) ?_
    subst hje
    refine lv_aload_n hx hb dX9_read_84 rfl (lv_at hl 0 rfl) ?_
    refine m_get (C := RX9) (T := TX9) (N := 33) (ci := 9) hx hb hts in_X9_read_X9 hown hB (hL 1000 (by decide)) ((va_up_ne _ _ (by decide)).trans FgB_1000) rfl 16 (by decide) (hts (.fieldLink RX9 134 "PaperRoomModel" "entries" "I") (by decide +kernel)) (fun _ h9 => h9) rfl dX9_read_85 ?_
    refine lv_sipush (v := 200) hx hb dX9_read_88 (by decide) ?_
    refine b_icmp_ne_f 107 hx hb dX9_read_91 (by decide) (by rw [hen]; decide) ?_
    refine lv_aload_n hx hb dX9_read_94 rfl (lv_at hl 0 rfl) ?_
    refine lv_dup hx hb dX9_read_95 rfl ?_
    refine m_get (C := RX9) (T := TX9) (N := 33) (ci := 9) hx hb hts in_X9_read_X9 hown hB (hL 1000 (by decide)) ((va_up_ne _ _ (by decide)).trans FgB_1000) rfl 17 (by decide) (hts (.fieldLink RX9 137 "PaperRoomModel" "lost" "I") (by decide +kernel)) (fun _ h9 => h9) rfl dX9_read_96 ?_
    refine lv_iconst (v := 1) hx hb dX9_read_99 (by decide) ?_
    refine lv_iadd hx hb dX9_read_100 ?_
    refine m_put (C := RX9) (T := TX9) (N := 33) (ci := 9) (v := .int (lo + 1)) (ft := .int) hx hb hts in_X9_read_X9 tyX9 tyX9_ok nmX9 hown hB (hL 1000 (by decide)) ((va_up_ne _ _ (by decide)).trans FgB_1000) rfl 17 (by decide) (hts (.fieldLink RX9 137 "PaperRoomModel" "lost" "I") (by decide +kernel)) (fun _ h9 => h9) rfl (by decide +kernel) rfl rfl (Nat.le_of_ble_eq_true rfl) dX9_read_101 (fun H locs hB => ?_)
    replace hB : m_B D ty A s L ad (va_up (va_up gB 1016 (.inl (ty 0, 480, .inl (pb (a 15) (mkF true (nI b) f (a 31) n) (80 * b) (mkN true (nI b) f n))))) 1000 (.inr (9, [.int (nI dn), .ref (ad 1002), .int nw, .ref (ad 1004), .ref (ad 1005), .int (nI pn), .ref (ad 1007), .ref (ad 1008), .ref (ad 1009), .ref (ad 1010), .ref (ad 1011), .ref (ad 1012), .ref (ad 1013), .ref (ad 1014), .ref (ad 1015), .ref (ad 1016), .int (nI en), .int (lo + 1), .ref (ad 1019), .ref (ad 1020), .ref (ad 1021), .ref (ad 1022), .int (nI qn), .ref (ad 1024), .ref (ad 1025), .ref (ad 1026), .ref (ad 1027), .ref (ad 1028), .ref (ad 1029), .ref (ad 1030), .long tr, .ref (ad 1032), .int (nI (mkN true (nI b) f n))]))) H locs := hB
    refine lv_goto (tgt := 160) hx hb dX9_read_104 (by decide) ?_
    refine lv_aload_n hx hb dX9_read_160 rfl (lv_at hl 0 rfl) ?_
    refine m_get (C := RX9) (T := TX9) (N := 33) (ci := 9) hx hb hts in_X9_read_X9 hown hB (hL 1000 (by decide)) (va_up_self _ _ _) rfl 32 (by decide) (hts (.fieldLink RX9 127 "PaperRoomModel" "madeSize" "I") (by decide +kernel)) (fun _ h9 => h9) rfl dX9_read_161 ?_
    exact m_iret hx hb hrt hlocks hB (Nat.le_refl _) (Nat.le_refl _) dX9_read_164 ⟨rfl, rfl, rfl, (fun x hx => ((va_up_ne _ _ (by omega)).trans ((va_up_ne _ _ (by omega)).trans (RgB x hx)))), ⟨hL, (va_up_self _ _ _), ((va_up_ne _ _ (by decide)).trans ((va_up_ne _ _ (by decide)).trans FgB_1002)), ((va_up_ne _ _ (by decide)).trans ((va_up_ne _ _ (by decide)).trans FgB_1004)), ((va_up_ne _ _ (by decide)).trans ((va_up_ne _ _ (by decide)).trans FgB_1005)), ((va_up_ne _ _ (by decide)).trans ((va_up_ne _ _ (by decide)).trans FgB_1007)), ((va_up_ne _ _ (by decide)).trans ((va_up_ne _ _ (by decide)).trans FgB_1008)), ((va_up_ne _ _ (by decide)).trans ((va_up_ne _ _ (by decide)).trans FgB_1009)), ((va_up_ne _ _ (by decide)).trans ((va_up_ne _ _ (by decide)).trans FgB_1010)), ((va_up_ne _ _ (by decide)).trans ((va_up_ne _ _ (by decide)).trans FgB_1011)), ((va_up_ne _ _ (by decide)).trans ((va_up_ne _ _ (by decide)).trans FgB_1012)), ((va_up_ne _ _ (by decide)).trans ((va_up_ne _ _ (by decide)).trans FgB_1013)), ((va_up_ne _ _ (by decide)).trans ((va_up_ne _ _ (by decide)).trans FgB_1014)), ((va_up_ne _ _ (by decide)).trans ((va_up_ne _ _ (by decide)).trans FgB_1015)), ((va_up_ne _ _ (by decide)).trans (va_up_self _ _ _)), ((va_up_ne _ _ (by decide)).trans ((va_up_ne _ _ (by decide)).trans FgB_1019)), ((va_up_ne _ _ (by decide)).trans ((va_up_ne _ _ (by decide)).trans FgB_1020)), ((va_up_ne _ _ (by decide)).trans ((va_up_ne _ _ (by decide)).trans FgB_1021)), ((va_up_ne _ _ (by decide)).trans ((va_up_ne _ _ (by decide)).trans FgB_1022)), ((va_up_ne _ _ (by decide)).trans ((va_up_ne _ _ (by decide)).trans FgB_1024)), ((va_up_ne _ _ (by decide)).trans ((va_up_ne _ _ (by decide)).trans FgB_1025)), ((va_up_ne _ _ (by decide)).trans ((va_up_ne _ _ (by decide)).trans FgB_1026)), ((va_up_ne _ _ (by decide)).trans ((va_up_ne _ _ (by decide)).trans FgB_1027)), ((va_up_ne _ _ (by decide)).trans ((va_up_ne _ _ (by decide)).trans FgB_1028)), ((va_up_ne _ _ (by decide)).trans ((va_up_ne _ _ (by decide)).trans FgB_1029)), ((va_up_ne _ _ (by decide)).trans ((va_up_ne _ _ (by decide)).trans FgB_1030)), ((va_up_ne _ _ (by decide)).trans ((va_up_ne _ _ (by decide)).trans FgB_1032))⟩⟩
  | succ jz ihj =>
    have hjl : k < (mkN true (nI b) f n) := by omega
    have tI_k : (nI k).toInt = (k : Int) := nI_toInt (by omega)
    refine lv_iload hx hb dX9_read_50 (lv_at hl 4 rfl) ?_
    refine lv_aload_n hx hb dX9_read_52 rfl (lv_at hl 0 rfl) ?_
    refine m_get (C := RX9) (T := TX9) (N := 33) (ci := 9) hx hb hts in_X9_read_X9 hown hB (hL 1000 (by decide)) ((va_up_ne _ _ (by decide)).trans FgB_1000) rfl 32 (by decide) (hts (.fieldLink RX9 127 "PaperRoomModel" "madeSize" "I") (by decide +kernel)) (fun _ h9 => h9) rfl dX9_read_53 ?_
    refine b_icmp_ge_f 84 hx hb dX9_read_56 (by decide) (by omega) ?_
    refine lv_aload_n hx hb dX9_read_59 rfl (lv_at hl 0 rfl) ?_
    refine m_get (C := RX9) (T := TX9) (N := 33) (ci := 9) hx hb hts in_X9_read_X9 hown hB (hL 1000 (by decide)) ((va_up_ne _ _ (by decide)).trans FgB_1000) rfl 15 (by decide) (hts (.fieldLink RX9 47 "PaperRoomModel" "view" "[I") (by decide +kernel)) (fun _ h9 => h9) rfl dX9_read_60 ?_
    refine lv_bipush (v := 80) hx hb dX9_read_63 (by decide) ?_
    refine lv_iload_n hx hb dX9_read_65 rfl (lv_at hl 1 rfl) ?_
    refine lv_imul hx hb dX9_read_66 ?_
    refine b_topi (w := nI (80 * b)) (pk_mul 80 b) ?_
    refine lv_iload hx hb dX9_read_67 (lv_at hl 4 rfl) ?_
    refine lv_iadd hx hb dX9_read_69 ?_
    refine b_topi (w := nI ((80 * b) + k)) (nI_add (80 * b) k) ?_
    refine lv_aload_n hx hb dX9_read_70 rfl (lv_at hl 0 rfl) ?_
    refine m_get (C := RX9) (T := TX9) (N := 33) (ci := 9) hx hb hts in_X9_read_X9 hown hB (hL 1000 (by decide)) ((va_up_ne _ _ (by decide)).trans FgB_1000) rfl 31 (by decide) (hts (.fieldLink RX9 83 "PaperRoomModel" "made" "[I") (by decide +kernel)) (fun _ h9 => h9) rfl dX9_read_71 ?_
    refine lv_iload hx hb dX9_read_74 (lv_at hl 4 rfl) ?_
    refine n_iald hx hb hB (hL 1032 (by decide)) ((va_up_ne _ _ (by decide)).trans FgB_1032) k rfl (by omega) (by omega) dX9_read_76 ?_
    refine n_iast hx hb hB (hL 1016 (by decide)) (va_up_self _ _ _) ((80 * b) + k) rfl (by omega) (by omega) dX9_read_77 (fun H locs hB => ?_)
    replace hB : m_B D ty A s L ad (va_up (va_up gB 1016 (.inl (ty 0, 480, .inl (pb (a 15) (mkF true (nI b) f (a 31) n) (80 * b) k)))) 1016 (.inl (ty 0, 480, .inl (upd (pb (a 15) (mkF true (nI b) f (a 31) n) (80 * b) k) ((80 * b) + k) (((va_up a 31 (mkF true (nI b) f (a 31) n)) 31) k))))) H locs := hB
    refine lv_iinc (v := nI (k + 1)) (lv' := [(4, .int (nI (k + 1))), (0, .ref (ad 1000)), (1, .int (nI b)), (2, .int (nI j)), (3, .int (nI k0))]) hx hb dX9_read_78 hl (k := 4) rfl (nI_add k 1) (by decide) rfl (fun ls hl => ?_)
    refine lv_goto (tgt := 50) hx hb dX9_read_81 (by decide) ?_
    have hB : m_B D ty A s L ad (va_up gB 1016 (.inl (ty 0, 480, .inl (pb (a 15) (mkF true (nI b) f (a 31) n) (80 * b) (k + 1))))) H locs := by
      rw [bx_uu] at hB; exact hB
    have hl : lv_has ls 5 [(0, .ref (ad 1000)), (1, .int (nI b)), (2, .int (nI j)), (3, .int (nI k0)), (4, .int (nI (k + 1)))] := lv_sub hl [1, 2, 3, 4, 0] rfl
    apply ihj (k := (k + 1)) (H := H) (locs := locs) (ls := ls) <;> first | omega | exact hB | exact hl
set_option maxHeartbeats 1000000 in
set_option maxRecDepth 100000 in
theorem c_M_read_ok_t (l : Launch) (D : va_G) (ty : Nat → ClassId) (L : List Nat) (ad : Nat → Nat) (g : Nat → va_E) (a : Nat → Nat → Int32) (dn pn en qn mz : Nat) (nw lo : Int32) (tr : Int64) (b j k0 vj fo n : Nat) (f : Nat → Int32) (hM : RM ty L ad g a dn pn en qn mz nw lo tr) (hj9 : j < pn) (hpn : pn ≤ 8) (hvj : a 10 j = nI vj) (hv4 : vj ≤ 4) (hk0 : k0 < vj) (hb6 : b < 6) (hfo : a 7 j = nI fo) (hfo4 : fo < 4) (hw : a 9 j = 0 ∨ a 9 j = 1) (hs : seeB (a 6 j) (a 9 j) (a 8 j) (a 3) (a 4) (b % 3 * 4 + fo) nw = true) (hsz : a 11 (4 * j + k0) = nI n) (hn40 : n ≤ 40) (hf : ∀ i, i < n → f i = pl (a 12 (40 * (4 * j + k0) + i)) (a 13 (40 * (4 * j + k0) + i))) (hkd : a 6 j = 2) (hen : en < 200) : m_C l yX9_read wsX9_read 3 65 0 0 D ty [.ref (ad 1000), .int (nI b), .int (nI j), .int (nI k0)] L ad g (fun v1 L1 ad1 g1 => v1 = (some (.int (nI (mkN true (nI b) f n)))) ∧ L1 = L ∧ ad1 = ad ∧ (∀ x, x < 1000 → g1 x = g x) ∧ RM ty L ad g1 (lgA (rdA a true b f n) en nw (nI b) (nI j) (nI k0)) dn pn (en + 1) qn (mkN true (nI b) f n) nw lo tr) := by
  intro sz
  refine Met.ofW (cc := cX9_read) (maxL := 5) (ret := (some .int)) (by decide) rfl ?_
  intro p e s m args below meth c s₁ B hml hv
  have hx := B.exec
  have hb := B.bytes
  have hrt := B.returns
  have hts := atoms_spec (ws := wsX9_read) B.pre
  have hown : s.vm.findClass RX9 = some m.cls := findClass_of_methodNamed B.named
  have hlocks := B.notSynchronized
  obtain ⟨rfl, hB⟩ := m_start hv
  generalize va_A (m_w L ad g) sz = A at hB ⊢
  generalize s.heap = H at hB ⊢
  generalize ([] : List Loc) = locs at hB ⊢
  have hl := lv_entry ([.ref (ad 1000), .int (nI b), .int (nI j), .int (nI k0)]) (n := 5) (Nat.le_of_ble_eq_true rfl)
  rw [lg_entry_eq]
  generalize (lg_sl ([.ref (ad 1000), .int (nI b), .int (nI j), .int (nI k0)]) ++ List.replicate (5 - (lg_sl ([.ref (ad 1000), .int (nI b), .int (nI j), .int (nI k0)])).length) Slot.unset).toArray = ls at hl ⊢
  have hl : lv_has ls 5 [(0, .ref (ad 1000)), (1, .int (nI b)), (2, .int (nI j)), (3, .int (nI k0))] := hl
  obtain ⟨hL, h_1000, h_1002, h_1004, h_1005, h_1007, h_1008, h_1009, h_1010, h_1011, h_1012, h_1013, h_1014, h_1015, h_1016, h_1019, h_1020, h_1021, h_1022, h_1024, h_1025, h_1026, h_1027, h_1028, h_1029, h_1030, h_1032⟩ := id hM
  have hj8 : j < 8 := by omega
  have hN := mkN_le true (nI b) f n
  refine lv_iload_n hx hb dX9_read_0 rfl (lv_at hl 1 rfl) ?_
  refine m_callSE (As := [.int (nI b)]) (rest := []) (c_M_isBidder_t l D ty L ad _ b hb6) ⟨hx, hb, hml, hown, hts⟩ (va_cwS 1 hts gX9_read_X9_isBidder rfl rfl rfl (by decide +kernel) ⟨Nat.le_of_ble_eq_true rfl, Nat.le_of_ble_eq_true rfl⟩) hB rfl hl.1 rfl (Nat.le_of_ble_eq_true rfl) dX9_read_1 ⟨Nat.le_of_ble_eq_true rfl, Nat.le_of_ble_eq_true rfl⟩ (fun H locs hB => ?_)
  refine b_if_eq_f 16 hx hb dX9_read_4 (by decide) (by decide) ?_
  refine lv_aload_n hx hb dX9_read_7 rfl (lv_at hl 0 rfl) ?_
  refine lv_iload_n hx hb dX9_read_8 rfl (lv_at hl 2 rfl) ?_
  refine lv_iload_n hx hb dX9_read_9 rfl (lv_at hl 3 rfl) ?_
  refine m_callVE (ci := 9) (As := [.int (nI j), .int (nI k0)]) (rest := []) (c_M_isVersion_t l D ty L ad _ a dn pn en qn mz nw lo tr j k0 vj hM hj9 hpn hvj hv4 hk0) ⟨hx, hb, hml, hown, hts⟩ (cwV 2 hts gX9_read_X9_isVersion rfl rfl rfl (by decide +kernel) ⟨Nat.le_of_ble_eq_true rfl, Nat.le_of_ble_eq_true rfl⟩) hB (hL 1000 (by decide)) h_1000 rfl rfl hl.1 rfl (Nat.le_of_ble_eq_true rfl) dX9_read_10 ⟨Nat.le_of_ble_eq_true rfl, Nat.le_of_ble_eq_true rfl⟩ (fun H locs hB => ?_)
  refine b_if_ne_t 18 hx hb dX9_read_13 (by decide) (by decide) ?_
  refine lv_aload_n hx hb dX9_read_18 rfl (lv_at hl 0 rfl) ?_
  refine lv_iload_n hx hb dX9_read_19 rfl (lv_at hl 1 rfl) ?_
  refine lv_iload_n hx hb dX9_read_20 rfl (lv_at hl 2 rfl) ?_
  refine m_callVE (ci := 9) (As := [.int (nI b), .int (nI j)]) (rest := []) (c_M_sees l D ty L ad _ a dn pn en qn mz nw lo tr b j fo hM hb6 hj8 hfo hfo4 hw) ⟨hx, hb, hml, hown, hts⟩ (cwV 2 hts gX9_read_X9_sees rfl rfl rfl (by decide +kernel) ⟨Nat.le_of_ble_eq_true rfl, Nat.le_of_ble_eq_true rfl⟩) hB (hL 1000 (by decide)) h_1000 rfl rfl hl.1 rfl (Nat.le_of_ble_eq_true rfl) dX9_read_21 ⟨Nat.le_of_ble_eq_true rfl, Nat.le_of_ble_eq_true rfl⟩ (fun H locs hB => ?_)
  refine b_if_ne_t 30 hx hb dX9_read_24 (by decide) (by rw [hs]; decide) ?_
  refine lv_aload_n hx hb dX9_read_30 rfl (lv_at hl 0 rfl) ?_
  refine lv_iload_n hx hb dX9_read_31 rfl (lv_at hl 1 rfl) ?_
  refine lv_iload_n hx hb dX9_read_32 rfl (lv_at hl 2 rfl) ?_
  refine lv_iload_n hx hb dX9_read_33 rfl (lv_at hl 3 rfl) ?_
  refine m_callV (ci := 9) (As := [.int (nI b), .int (nI j), .int (nI k0)]) (rest := []) (c_M_makes_t l D ty L ad _ a dn pn en qn mz nw lo tr (nI b) j k0 n f hM hj8 (by omega) hsz hn40 hf hkd) ⟨hx, hb, hml, hown, hts⟩ (cwV 3 hts gX9_read_X9_makes rfl rfl rfl (by decide +kernel) ⟨Nat.le_of_ble_eq_true rfl, Nat.le_of_ble_eq_true rfl⟩) hB (hL 1000 (by decide)) h_1000 rfl rfl hl.1 rfl (Nat.le_of_ble_eq_true rfl) dX9_read_34 ⟨Nat.le_of_ble_eq_true rfl, Nat.le_of_ble_eq_true rfl⟩ (fun v134 L134 ad_134 g134 H locs hp134 hB => ?_)
  obtain ⟨q1_134, q2_134, q3_134, hfr_134, hM_134⟩ := hp134
  rw [q2_134, q3_134] at hB
  obtain ⟨_, f134_1000, f134_1002, f134_1004, f134_1005, f134_1007, f134_1008, f134_1009, f134_1010, f134_1011, f134_1012, f134_1013, f134_1014, f134_1015, f134_1016, f134_1019, f134_1020, f134_1021, f134_1022, f134_1024, f134_1025, f134_1026, f134_1027, f134_1028, f134_1029, f134_1030, f134_1032⟩ := id hM_134
  refine W.eq (g2 := F0 m 37 ls []) (by rw [q1_134]; rfl) ?_
  refine lv_aload_n hx hb dX9_read_37 rfl (lv_at hl 0 rfl) ?_
  refine m_get (C := RX9) (T := TX9) (N := 33) (ci := 9) hx hb hts in_X9_read_X9 hown hB (hL 1000 (by decide)) f134_1000 rfl 14 (by decide) (hts (.fieldLink RX9 44 "PaperRoomModel" "viewSize" "[I") (by decide +kernel)) (fun _ h9 => h9) rfl dX9_read_38 ?_
  refine lv_iload_n hx hb dX9_read_41 rfl (lv_at hl 1 rfl) ?_
  refine lv_aload_n hx hb dX9_read_42 rfl (lv_at hl 0 rfl) ?_
  refine m_get (C := RX9) (T := TX9) (N := 33) (ci := 9) hx hb hts in_X9_read_X9 hown hB (hL 1000 (by decide)) f134_1000 rfl 32 (by decide) (hts (.fieldLink RX9 127 "PaperRoomModel" "madeSize" "I") (by decide +kernel)) (fun _ h9 => h9) rfl dX9_read_43 ?_
  refine n_iast hx hb hB (hL 1015 (by decide)) f134_1015 b rfl (by omega) (by omega) dX9_read_46 (fun H locs hB => ?_)
  replace hB : m_B D ty A s L ad (va_up g134 1015 (.inl (ty 0, 6, .inl (upd ((va_up a 31 (mkF true (nI b) f (a 31) n)) 14) b (nI (mkN true (nI b) f n)))))) H locs := hB
  refine lv_iconst (v := 0) hx hb dX9_read_47 (by decide) ?_
  refine lv_istore (lv' := [(4, .int 0), (0, .ref (ad 1000)), (1, .int (nI b)), (2, .int (nI j)), (3, .int (nI k0))]) hx hb dX9_read_48 hl (by decide) rfl (fun ls hl => ?_)
  obtain ⟨gB, hgB⟩ : ∃ z, z = (va_up g134 1015 (.inl (ty 0, 6, .inl (upd ((va_up a 31 (mkF true (nI b) f (a 31) n)) 14) b (nI (mkN true (nI b) f n)))))) := ⟨_, rfl⟩
  rw [← hgB] at hB
  have FgB_1000 : gB 1000 = .inr (9, [.int (nI dn), .ref (ad 1002), .int nw, .ref (ad 1004), .ref (ad 1005), .int (nI pn), .ref (ad 1007), .ref (ad 1008), .ref (ad 1009), .ref (ad 1010), .ref (ad 1011), .ref (ad 1012), .ref (ad 1013), .ref (ad 1014), .ref (ad 1015), .ref (ad 1016), .int (nI en), .int lo, .ref (ad 1019), .ref (ad 1020), .ref (ad 1021), .ref (ad 1022), .int (nI qn), .ref (ad 1024), .ref (ad 1025), .ref (ad 1026), .ref (ad 1027), .ref (ad 1028), .ref (ad 1029), .ref (ad 1030), .long tr, .ref (ad 1032), .int (nI (mkN true (nI b) f n))]) := by rw [hgB]; exact ((va_up_ne _ _ (by decide)).trans f134_1000)
  have FgB_1002 : gB 1002 = .inl (ty 0, 40, .inl ((va_up a 31 (mkF true (nI b) f (a 31) n)) 1)) := by rw [hgB]; exact ((va_up_ne _ _ (by decide)).trans f134_1002)
  have FgB_1004 : gB 1004 = .inl (ty 0, 12, .inl ((va_up a 31 (mkF true (nI b) f (a 31) n)) 3)) := by rw [hgB]; exact ((va_up_ne _ _ (by decide)).trans f134_1004)
  have FgB_1005 : gB 1005 = .inl (ty 0, 12, .inl ((va_up a 31 (mkF true (nI b) f (a 31) n)) 4)) := by rw [hgB]; exact ((va_up_ne _ _ (by decide)).trans f134_1005)
  have FgB_1007 : gB 1007 = .inl (ty 0, 8, .inl ((va_up a 31 (mkF true (nI b) f (a 31) n)) 6)) := by rw [hgB]; exact ((va_up_ne _ _ (by decide)).trans f134_1007)
  have FgB_1008 : gB 1008 = .inl (ty 0, 8, .inl ((va_up a 31 (mkF true (nI b) f (a 31) n)) 7)) := by rw [hgB]; exact ((va_up_ne _ _ (by decide)).trans f134_1008)
  have FgB_1009 : gB 1009 = .inl (ty 0, 8, .inl ((va_up a 31 (mkF true (nI b) f (a 31) n)) 8)) := by rw [hgB]; exact ((va_up_ne _ _ (by decide)).trans f134_1009)
  have FgB_1010 : gB 1010 = .inl (ty 3, 8, .inl ((va_up a 31 (mkF true (nI b) f (a 31) n)) 9)) := by rw [hgB]; exact ((va_up_ne _ _ (by decide)).trans f134_1010)
  have FgB_1011 : gB 1011 = .inl (ty 0, 8, .inl ((va_up a 31 (mkF true (nI b) f (a 31) n)) 10)) := by rw [hgB]; exact ((va_up_ne _ _ (by decide)).trans f134_1011)
  have FgB_1012 : gB 1012 = .inl (ty 0, 32, .inl ((va_up a 31 (mkF true (nI b) f (a 31) n)) 11)) := by rw [hgB]; exact ((va_up_ne _ _ (by decide)).trans f134_1012)
  have FgB_1013 : gB 1013 = .inl (ty 0, 1280, .inl ((va_up a 31 (mkF true (nI b) f (a 31) n)) 12)) := by rw [hgB]; exact ((va_up_ne _ _ (by decide)).trans f134_1013)
  have FgB_1014 : gB 1014 = .inl (ty 3, 1280, .inl ((va_up a 31 (mkF true (nI b) f (a 31) n)) 13)) := by rw [hgB]; exact ((va_up_ne _ _ (by decide)).trans f134_1014)
  have FgB_1015 : gB 1015 = .inl (ty 0, 6, .inl (upd ((va_up a 31 (mkF true (nI b) f (a 31) n)) 14) b (nI (mkN true (nI b) f n)))) := by rw [hgB]; exact (va_up_self _ _ _)
  have FgB_1016 : gB 1016 = .inl (ty 0, 480, .inl ((va_up a 31 (mkF true (nI b) f (a 31) n)) 15)) := by rw [hgB]; exact ((va_up_ne _ _ (by decide)).trans f134_1016)
  have FgB_1019 : gB 1019 = .inl (ty 0, 200, .inl ((va_up a 31 (mkF true (nI b) f (a 31) n)) 18)) := by rw [hgB]; exact ((va_up_ne _ _ (by decide)).trans f134_1019)
  have FgB_1020 : gB 1020 = .inl (ty 0, 200, .inl ((va_up a 31 (mkF true (nI b) f (a 31) n)) 19)) := by rw [hgB]; exact ((va_up_ne _ _ (by decide)).trans f134_1020)
  have FgB_1021 : gB 1021 = .inl (ty 0, 200, .inl ((va_up a 31 (mkF true (nI b) f (a 31) n)) 20)) := by rw [hgB]; exact ((va_up_ne _ _ (by decide)).trans f134_1021)
  have FgB_1022 : gB 1022 = .inl (ty 0, 200, .inl ((va_up a 31 (mkF true (nI b) f (a 31) n)) 21)) := by rw [hgB]; exact ((va_up_ne _ _ (by decide)).trans f134_1022)
  have FgB_1024 : gB 1024 = .inl (ty 0, 30, .inl ((va_up a 31 (mkF true (nI b) f (a 31) n)) 23)) := by rw [hgB]; exact ((va_up_ne _ _ (by decide)).trans f134_1024)
  have FgB_1025 : gB 1025 = .inl (ty 0, 30, .inl ((va_up a 31 (mkF true (nI b) f (a 31) n)) 24)) := by rw [hgB]; exact ((va_up_ne _ _ (by decide)).trans f134_1025)
  have FgB_1026 : gB 1026 = .inl (ty 0, 30, .inl ((va_up a 31 (mkF true (nI b) f (a 31) n)) 25)) := by rw [hgB]; exact ((va_up_ne _ _ (by decide)).trans f134_1026)
  have FgB_1027 : gB 1027 = .inl (ty 0, 30, .inl ((va_up a 31 (mkF true (nI b) f (a 31) n)) 26)) := by rw [hgB]; exact ((va_up_ne _ _ (by decide)).trans f134_1027)
  have FgB_1028 : gB 1028 = .inl (ty 0, 30, .inl ((va_up a 31 (mkF true (nI b) f (a 31) n)) 27)) := by rw [hgB]; exact ((va_up_ne _ _ (by decide)).trans f134_1028)
  have FgB_1029 : gB 1029 = .inl (ty 0, 6, .inl ((va_up a 31 (mkF true (nI b) f (a 31) n)) 28)) := by rw [hgB]; exact ((va_up_ne _ _ (by decide)).trans f134_1029)
  have FgB_1030 : gB 1030 = .inl (ty 0, 6, .inl ((va_up a 31 (mkF true (nI b) f (a 31) n)) 29)) := by rw [hgB]; exact ((va_up_ne _ _ (by decide)).trans f134_1030)
  have FgB_1032 : gB 1032 = .inl (ty 0, 80, .inl ((va_up a 31 (mkF true (nI b) f (a 31) n)) 31)) := by rw [hgB]; exact ((va_up_ne _ _ (by decide)).trans f134_1032)
  have RgB : ∀ x, x < 1000 → gB x = g x := by intro x hx; rw [hgB]; exact ((va_up_ne _ _ (by omega)).trans ((hfr_134 x hx).trans rfl))
  have tI_N : (nI (mkN true (nI b) f n)).toInt = ((mkN true (nI b) f n) : Int) := nI_toInt (by omega)
  replace hl : lv_has ls 5 [(0, .ref (ad 1000)), (1, .int (nI b)), (2, .int (nI j)), (3, .int (nI k0)), (4, .int 0)] := lv_sub hl [1, 2, 3, 4, 0] rfl
  obtain ⟨k, hk0⟩ : ∃ k : Nat, k = 0 := ⟨0, rfl⟩
  replace hB : m_B D ty A s L ad (va_up gB 1016 (.inl (ty 0, 480, .inl (pb (a 15) (mkF true (nI b) f (a 31) n) (80 * b) k)))) H locs := by
    rw [hk0]
    show m_B D ty A s L ad (va_up gB 1016 (.inl (ty 0, 480, .inl (a 15)))) H locs; rw [up_same (f := gB) (k := 1016) (v := .inl (ty 0, 480, .inl (a 15))) FgB_1016]; exact hB
  replace hl : lv_has ls 5 [(0, .ref (ad 1000)), (1, .int (nI b)), (2, .int (nI j)), (3, .int (nI k0)), (4, .int (nI k))] := by rw [hk0]; exact hl
  obtain ⟨jz, hj⟩ : ∃ jz : Nat, k + jz = (mkN true (nI b) f n) := ⟨(mkN true (nI b) f n) - k, by omega⟩
  clear hk0
  induction jz generalizing k H locs ls with
  | zero =>
    have hje : k = (mkN true (nI b) f n) := by omega
    have tI_k : (nI k).toInt = (k : Int) := nI_toInt (by omega)
    refine lv_iload hx hb dX9_read_50 (lv_at hl 4 rfl) ?_
    refine lv_aload_n hx hb dX9_read_52 rfl (lv_at hl 0 rfl) ?_
    refine m_get (C := RX9) (T := TX9) (N := 33) (ci := 9) hx hb hts in_X9_read_X9 hown hB (hL 1000 (by decide)) ((va_up_ne _ _ (by decide)).trans FgB_1000) rfl 32 (by decide) (hts (.fieldLink RX9 127 "PaperRoomModel" "madeSize" "I") (by decide +kernel)) (fun _ h9 => h9) rfl dX9_read_53 ?_
    refine b_icmp_ge_t 84 hx hb dX9_read_56 (by decide) (by omega) ?_
    subst hje
    refine lv_aload_n hx hb dX9_read_84 rfl (lv_at hl 0 rfl) ?_
    refine m_get (C := RX9) (T := TX9) (N := 33) (ci := 9) hx hb hts in_X9_read_X9 hown hB (hL 1000 (by decide)) ((va_up_ne _ _ (by decide)).trans FgB_1000) rfl 16 (by decide) (hts (.fieldLink RX9 134 "PaperRoomModel" "entries" "I") (by decide +kernel)) (fun _ h9 => h9) rfl dX9_read_85 ?_
    refine lv_sipush (v := 200) hx hb dX9_read_88 (by decide) ?_
    refine b_icmp_ne_t 107 hx hb dX9_read_91 (by decide) (by rw [nI_toInt (by omega), show (200 : Int32).toInt = 200 by decide]; omega) ?_
    refine lv_aload_n hx hb dX9_read_107 rfl (lv_at hl 0 rfl) ?_
    refine m_get (C := RX9) (T := TX9) (N := 33) (ci := 9) hx hb hts in_X9_read_X9 hown hB (hL 1000 (by decide)) ((va_up_ne _ _ (by decide)).trans FgB_1000) rfl 18 (by decide) (hts (.fieldLink RX9 50 "PaperRoomModel" "entryTick" "[I") (by decide +kernel)) (fun _ h9 => h9) rfl dX9_read_108 ?_
    refine lv_aload_n hx hb dX9_read_111 rfl (lv_at hl 0 rfl) ?_
    refine m_get (C := RX9) (T := TX9) (N := 33) (ci := 9) hx hb hts in_X9_read_X9 hown hB (hL 1000 (by decide)) ((va_up_ne _ _ (by decide)).trans FgB_1000) rfl 16 (by decide) (hts (.fieldLink RX9 134 "PaperRoomModel" "entries" "I") (by decide +kernel)) (fun _ h9 => h9) rfl dX9_read_112 ?_
    refine lv_aload_n hx hb dX9_read_115 rfl (lv_at hl 0 rfl) ?_
    refine m_get (C := RX9) (T := TX9) (N := 33) (ci := 9) hx hb hts in_X9_read_X9 hown hB (hL 1000 (by decide)) ((va_up_ne _ _ (by decide)).trans FgB_1000) rfl 2 (by decide) (hts (.fieldLink RX9 86 "PaperRoomModel" "now" "I") (by decide +kernel)) (fun _ h9 => h9) rfl dX9_read_116 ?_
    refine n_iast hx hb hB (hL 1019 (by decide)) ((va_up_ne _ _ (by decide)).trans FgB_1019) en rfl (by omega) (by omega) dX9_read_119 (fun H locs hB => ?_)
    replace hB : m_B D ty A s L ad (va_up (va_up gB 1016 (.inl (ty 0, 480, .inl (pb (a 15) (mkF true (nI b) f (a 31) n) (80 * b) (mkN true (nI b) f n))))) 1019 (.inl (ty 0, 200, .inl (upd ((va_up a 31 (mkF true (nI b) f (a 31) n)) 18) en nw)))) H locs := hB
    refine lv_aload_n hx hb dX9_read_120 rfl (lv_at hl 0 rfl) ?_
    refine m_get (C := RX9) (T := TX9) (N := 33) (ci := 9) hx hb hts in_X9_read_X9 hown hB (hL 1000 (by decide)) ((va_up_ne _ _ (by decide)).trans ((va_up_ne _ _ (by decide)).trans FgB_1000)) rfl 19 (by decide) (hts (.fieldLink RX9 53 "PaperRoomModel" "entryBidder" "[I") (by decide +kernel)) (fun _ h9 => h9) rfl dX9_read_121 ?_
    refine lv_aload_n hx hb dX9_read_124 rfl (lv_at hl 0 rfl) ?_
    refine m_get (C := RX9) (T := TX9) (N := 33) (ci := 9) hx hb hts in_X9_read_X9 hown hB (hL 1000 (by decide)) ((va_up_ne _ _ (by decide)).trans ((va_up_ne _ _ (by decide)).trans FgB_1000)) rfl 16 (by decide) (hts (.fieldLink RX9 134 "PaperRoomModel" "entries" "I") (by decide +kernel)) (fun _ h9 => h9) rfl dX9_read_125 ?_
    refine lv_iload_n hx hb dX9_read_128 rfl (lv_at hl 1 rfl) ?_
    refine n_iast hx hb hB (hL 1020 (by decide)) ((va_up_ne _ _ (by decide)).trans ((va_up_ne _ _ (by decide)).trans FgB_1020)) en rfl (by omega) (by omega) dX9_read_129 (fun H locs hB => ?_)
    replace hB : m_B D ty A s L ad (va_up (va_up (va_up gB 1016 (.inl (ty 0, 480, .inl (pb (a 15) (mkF true (nI b) f (a 31) n) (80 * b) (mkN true (nI b) f n))))) 1019 (.inl (ty 0, 200, .inl (upd ((va_up a 31 (mkF true (nI b) f (a 31) n)) 18) en nw)))) 1020 (.inl (ty 0, 200, .inl (upd ((va_up a 31 (mkF true (nI b) f (a 31) n)) 19) en (nI b))))) H locs := hB
    refine lv_aload_n hx hb dX9_read_130 rfl (lv_at hl 0 rfl) ?_
    refine m_get (C := RX9) (T := TX9) (N := 33) (ci := 9) hx hb hts in_X9_read_X9 hown hB (hL 1000 (by decide)) ((va_up_ne _ _ (by decide)).trans ((va_up_ne _ _ (by decide)).trans ((va_up_ne _ _ (by decide)).trans FgB_1000))) rfl 20 (by decide) (hts (.fieldLink RX9 56 "PaperRoomModel" "entryPaper" "[I") (by decide +kernel)) (fun _ h9 => h9) rfl dX9_read_131 ?_
    refine lv_aload_n hx hb dX9_read_134 rfl (lv_at hl 0 rfl) ?_
    refine m_get (C := RX9) (T := TX9) (N := 33) (ci := 9) hx hb hts in_X9_read_X9 hown hB (hL 1000 (by decide)) ((va_up_ne _ _ (by decide)).trans ((va_up_ne _ _ (by decide)).trans ((va_up_ne _ _ (by decide)).trans FgB_1000))) rfl 16 (by decide) (hts (.fieldLink RX9 134 "PaperRoomModel" "entries" "I") (by decide +kernel)) (fun _ h9 => h9) rfl dX9_read_135 ?_
    refine lv_iload_n hx hb dX9_read_138 rfl (lv_at hl 2 rfl) ?_
    refine n_iast hx hb hB (hL 1021 (by decide)) ((va_up_ne _ _ (by decide)).trans ((va_up_ne _ _ (by decide)).trans ((va_up_ne _ _ (by decide)).trans FgB_1021))) en rfl (by omega) (by omega) dX9_read_139 (fun H locs hB => ?_)
    replace hB : m_B D ty A s L ad (va_up (va_up (va_up (va_up gB 1016 (.inl (ty 0, 480, .inl (pb (a 15) (mkF true (nI b) f (a 31) n) (80 * b) (mkN true (nI b) f n))))) 1019 (.inl (ty 0, 200, .inl (upd ((va_up a 31 (mkF true (nI b) f (a 31) n)) 18) en nw)))) 1020 (.inl (ty 0, 200, .inl (upd ((va_up a 31 (mkF true (nI b) f (a 31) n)) 19) en (nI b))))) 1021 (.inl (ty 0, 200, .inl (upd ((va_up a 31 (mkF true (nI b) f (a 31) n)) 20) en (nI j))))) H locs := hB
    refine lv_aload_n hx hb dX9_read_140 rfl (lv_at hl 0 rfl) ?_
    refine m_get (C := RX9) (T := TX9) (N := 33) (ci := 9) hx hb hts in_X9_read_X9 hown hB (hL 1000 (by decide)) ((va_up_ne _ _ (by decide)).trans ((va_up_ne _ _ (by decide)).trans ((va_up_ne _ _ (by decide)).trans ((va_up_ne _ _ (by decide)).trans FgB_1000)))) rfl 21 (by decide) (hts (.fieldLink RX9 59 "PaperRoomModel" "entryVersion" "[I") (by decide +kernel)) (fun _ h9 => h9) rfl dX9_read_141 ?_
    refine lv_aload_n hx hb dX9_read_144 rfl (lv_at hl 0 rfl) ?_
    refine m_get (C := RX9) (T := TX9) (N := 33) (ci := 9) hx hb hts in_X9_read_X9 hown hB (hL 1000 (by decide)) ((va_up_ne _ _ (by decide)).trans ((va_up_ne _ _ (by decide)).trans ((va_up_ne _ _ (by decide)).trans ((va_up_ne _ _ (by decide)).trans FgB_1000)))) rfl 16 (by decide) (hts (.fieldLink RX9 134 "PaperRoomModel" "entries" "I") (by decide +kernel)) (fun _ h9 => h9) rfl dX9_read_145 ?_
    refine lv_iload_n hx hb dX9_read_148 rfl (lv_at hl 3 rfl) ?_
    refine n_iast hx hb hB (hL 1022 (by decide)) ((va_up_ne _ _ (by decide)).trans ((va_up_ne _ _ (by decide)).trans ((va_up_ne _ _ (by decide)).trans ((va_up_ne _ _ (by decide)).trans FgB_1022)))) en rfl (by omega) (by omega) dX9_read_149 (fun H locs hB => ?_)
    replace hB : m_B D ty A s L ad (va_up (va_up (va_up (va_up (va_up gB 1016 (.inl (ty 0, 480, .inl (pb (a 15) (mkF true (nI b) f (a 31) n) (80 * b) (mkN true (nI b) f n))))) 1019 (.inl (ty 0, 200, .inl (upd ((va_up a 31 (mkF true (nI b) f (a 31) n)) 18) en nw)))) 1020 (.inl (ty 0, 200, .inl (upd ((va_up a 31 (mkF true (nI b) f (a 31) n)) 19) en (nI b))))) 1021 (.inl (ty 0, 200, .inl (upd ((va_up a 31 (mkF true (nI b) f (a 31) n)) 20) en (nI j))))) 1022 (.inl (ty 0, 200, .inl (upd ((va_up a 31 (mkF true (nI b) f (a 31) n)) 21) en (nI k0))))) H locs := hB
    refine lv_aload_n hx hb dX9_read_150 rfl (lv_at hl 0 rfl) ?_
    refine lv_dup hx hb dX9_read_151 rfl ?_
    refine m_get (C := RX9) (T := TX9) (N := 33) (ci := 9) hx hb hts in_X9_read_X9 hown hB (hL 1000 (by decide)) ((va_up_ne _ _ (by decide)).trans ((va_up_ne _ _ (by decide)).trans ((va_up_ne _ _ (by decide)).trans ((va_up_ne _ _ (by decide)).trans ((va_up_ne _ _ (by decide)).trans FgB_1000))))) rfl 16 (by decide) (hts (.fieldLink RX9 134 "PaperRoomModel" "entries" "I") (by decide +kernel)) (fun _ h9 => h9) rfl dX9_read_152 ?_
    refine lv_iconst (v := 1) hx hb dX9_read_155 (by decide) ?_
    refine lv_iadd hx hb dX9_read_156 ?_
    refine b_topi (w := nI (en + 1)) (nI_add en 1) ?_
    refine m_put (C := RX9) (T := TX9) (N := 33) (ci := 9) (v := .int (nI (en + 1))) (ft := .int) hx hb hts in_X9_read_X9 tyX9 tyX9_ok nmX9 hown hB (hL 1000 (by decide)) ((va_up_ne _ _ (by decide)).trans ((va_up_ne _ _ (by decide)).trans ((va_up_ne _ _ (by decide)).trans ((va_up_ne _ _ (by decide)).trans ((va_up_ne _ _ (by decide)).trans FgB_1000))))) rfl 16 (by decide) (hts (.fieldLink RX9 134 "PaperRoomModel" "entries" "I") (by decide +kernel)) (fun _ h9 => h9) rfl (by decide +kernel) rfl rfl (Nat.le_of_ble_eq_true rfl) dX9_read_157 (fun H locs hB => ?_)
    replace hB : m_B D ty A s L ad (va_up (va_up (va_up (va_up (va_up (va_up gB 1016 (.inl (ty 0, 480, .inl (pb (a 15) (mkF true (nI b) f (a 31) n) (80 * b) (mkN true (nI b) f n))))) 1019 (.inl (ty 0, 200, .inl (upd ((va_up a 31 (mkF true (nI b) f (a 31) n)) 18) en nw)))) 1020 (.inl (ty 0, 200, .inl (upd ((va_up a 31 (mkF true (nI b) f (a 31) n)) 19) en (nI b))))) 1021 (.inl (ty 0, 200, .inl (upd ((va_up a 31 (mkF true (nI b) f (a 31) n)) 20) en (nI j))))) 1022 (.inl (ty 0, 200, .inl (upd ((va_up a 31 (mkF true (nI b) f (a 31) n)) 21) en (nI k0))))) 1000 (.inr (9, [.int (nI dn), .ref (ad 1002), .int nw, .ref (ad 1004), .ref (ad 1005), .int (nI pn), .ref (ad 1007), .ref (ad 1008), .ref (ad 1009), .ref (ad 1010), .ref (ad 1011), .ref (ad 1012), .ref (ad 1013), .ref (ad 1014), .ref (ad 1015), .ref (ad 1016), .int (nI (en + 1)), .int lo, .ref (ad 1019), .ref (ad 1020), .ref (ad 1021), .ref (ad 1022), .int (nI qn), .ref (ad 1024), .ref (ad 1025), .ref (ad 1026), .ref (ad 1027), .ref (ad 1028), .ref (ad 1029), .ref (ad 1030), .long tr, .ref (ad 1032), .int (nI (mkN true (nI b) f n))]))) H locs := hB
    refine lv_aload_n hx hb dX9_read_160 rfl (lv_at hl 0 rfl) ?_
    refine m_get (C := RX9) (T := TX9) (N := 33) (ci := 9) hx hb hts in_X9_read_X9 hown hB (hL 1000 (by decide)) (va_up_self _ _ _) rfl 32 (by decide) (hts (.fieldLink RX9 127 "PaperRoomModel" "madeSize" "I") (by decide +kernel)) (fun _ h9 => h9) rfl dX9_read_161 ?_
    exact m_iret hx hb hrt hlocks hB (Nat.le_refl _) (Nat.le_refl _) dX9_read_164 ⟨rfl, rfl, rfl, (fun x hx => ((va_up_ne _ _ (by omega)).trans ((va_up_ne _ _ (by omega)).trans ((va_up_ne _ _ (by omega)).trans ((va_up_ne _ _ (by omega)).trans ((va_up_ne _ _ (by omega)).trans ((va_up_ne _ _ (by omega)).trans (RgB x hx)))))))), ⟨hL, (va_up_self _ _ _), ((va_up_ne _ _ (by decide)).trans ((va_up_ne _ _ (by decide)).trans ((va_up_ne _ _ (by decide)).trans ((va_up_ne _ _ (by decide)).trans ((va_up_ne _ _ (by decide)).trans ((va_up_ne _ _ (by decide)).trans FgB_1002)))))), ((va_up_ne _ _ (by decide)).trans ((va_up_ne _ _ (by decide)).trans ((va_up_ne _ _ (by decide)).trans ((va_up_ne _ _ (by decide)).trans ((va_up_ne _ _ (by decide)).trans ((va_up_ne _ _ (by decide)).trans FgB_1004)))))), ((va_up_ne _ _ (by decide)).trans ((va_up_ne _ _ (by decide)).trans ((va_up_ne _ _ (by decide)).trans ((va_up_ne _ _ (by decide)).trans ((va_up_ne _ _ (by decide)).trans ((va_up_ne _ _ (by decide)).trans FgB_1005)))))), ((va_up_ne _ _ (by decide)).trans ((va_up_ne _ _ (by decide)).trans ((va_up_ne _ _ (by decide)).trans ((va_up_ne _ _ (by decide)).trans ((va_up_ne _ _ (by decide)).trans ((va_up_ne _ _ (by decide)).trans FgB_1007)))))), ((va_up_ne _ _ (by decide)).trans ((va_up_ne _ _ (by decide)).trans ((va_up_ne _ _ (by decide)).trans ((va_up_ne _ _ (by decide)).trans ((va_up_ne _ _ (by decide)).trans ((va_up_ne _ _ (by decide)).trans FgB_1008)))))), ((va_up_ne _ _ (by decide)).trans ((va_up_ne _ _ (by decide)).trans ((va_up_ne _ _ (by decide)).trans ((va_up_ne _ _ (by decide)).trans ((va_up_ne _ _ (by decide)).trans ((va_up_ne _ _ (by decide)).trans FgB_1009)))))), ((va_up_ne _ _ (by decide)).trans ((va_up_ne _ _ (by decide)).trans ((va_up_ne _ _ (by decide)).trans ((va_up_ne _ _ (by decide)).trans ((va_up_ne _ _ (by decide)).trans ((va_up_ne _ _ (by decide)).trans FgB_1010)))))), ((va_up_ne _ _ (by decide)).trans ((va_up_ne _ _ (by decide)).trans ((va_up_ne _ _ (by decide)).trans ((va_up_ne _ _ (by decide)).trans ((va_up_ne _ _ (by decide)).trans ((va_up_ne _ _ (by decide)).trans FgB_1011)))))), ((va_up_ne _ _ (by decide)).trans ((va_up_ne _ _ (by decide)).trans ((va_up_ne _ _ (by decide)).trans ((va_up_ne _ _ (by decide)).trans ((va_up_ne _ _ (by decide)).trans ((va_up_ne _ _ (by decide)).trans FgB_1012)))))), ((va_up_ne _ _ (by decide)).trans ((va_up_ne _ _ (by decide)).trans ((va_up_ne _ _ (by decide)).trans ((va_up_ne _ _ (by decide)).trans ((va_up_ne _ _ (by decide)).trans ((va_up_ne _ _ (by decide)).trans FgB_1013)))))), ((va_up_ne _ _ (by decide)).trans ((va_up_ne _ _ (by decide)).trans ((va_up_ne _ _ (by decide)).trans ((va_up_ne _ _ (by decide)).trans ((va_up_ne _ _ (by decide)).trans ((va_up_ne _ _ (by decide)).trans FgB_1014)))))), ((va_up_ne _ _ (by decide)).trans ((va_up_ne _ _ (by decide)).trans ((va_up_ne _ _ (by decide)).trans ((va_up_ne _ _ (by decide)).trans ((va_up_ne _ _ (by decide)).trans ((va_up_ne _ _ (by decide)).trans FgB_1015)))))), ((va_up_ne _ _ (by decide)).trans ((va_up_ne _ _ (by decide)).trans ((va_up_ne _ _ (by decide)).trans ((va_up_ne _ _ (by decide)).trans ((va_up_ne _ _ (by decide)).trans (va_up_self _ _ _)))))), ((va_up_ne _ _ (by decide)).trans ((va_up_ne _ _ (by decide)).trans ((va_up_ne _ _ (by decide)).trans ((va_up_ne _ _ (by decide)).trans (va_up_self _ _ _))))), ((va_up_ne _ _ (by decide)).trans ((va_up_ne _ _ (by decide)).trans ((va_up_ne _ _ (by decide)).trans (va_up_self _ _ _)))), ((va_up_ne _ _ (by decide)).trans ((va_up_ne _ _ (by decide)).trans (va_up_self _ _ _))), ((va_up_ne _ _ (by decide)).trans (va_up_self _ _ _)), ((va_up_ne _ _ (by decide)).trans ((va_up_ne _ _ (by decide)).trans ((va_up_ne _ _ (by decide)).trans ((va_up_ne _ _ (by decide)).trans ((va_up_ne _ _ (by decide)).trans ((va_up_ne _ _ (by decide)).trans FgB_1024)))))), ((va_up_ne _ _ (by decide)).trans ((va_up_ne _ _ (by decide)).trans ((va_up_ne _ _ (by decide)).trans ((va_up_ne _ _ (by decide)).trans ((va_up_ne _ _ (by decide)).trans ((va_up_ne _ _ (by decide)).trans FgB_1025)))))), ((va_up_ne _ _ (by decide)).trans ((va_up_ne _ _ (by decide)).trans ((va_up_ne _ _ (by decide)).trans ((va_up_ne _ _ (by decide)).trans ((va_up_ne _ _ (by decide)).trans ((va_up_ne _ _ (by decide)).trans FgB_1026)))))), ((va_up_ne _ _ (by decide)).trans ((va_up_ne _ _ (by decide)).trans ((va_up_ne _ _ (by decide)).trans ((va_up_ne _ _ (by decide)).trans ((va_up_ne _ _ (by decide)).trans ((va_up_ne _ _ (by decide)).trans FgB_1027)))))), ((va_up_ne _ _ (by decide)).trans ((va_up_ne _ _ (by decide)).trans ((va_up_ne _ _ (by decide)).trans ((va_up_ne _ _ (by decide)).trans ((va_up_ne _ _ (by decide)).trans ((va_up_ne _ _ (by decide)).trans FgB_1028)))))), ((va_up_ne _ _ (by decide)).trans ((va_up_ne _ _ (by decide)).trans ((va_up_ne _ _ (by decide)).trans ((va_up_ne _ _ (by decide)).trans ((va_up_ne _ _ (by decide)).trans ((va_up_ne _ _ (by decide)).trans FgB_1029)))))), ((va_up_ne _ _ (by decide)).trans ((va_up_ne _ _ (by decide)).trans ((va_up_ne _ _ (by decide)).trans ((va_up_ne _ _ (by decide)).trans ((va_up_ne _ _ (by decide)).trans ((va_up_ne _ _ (by decide)).trans FgB_1030)))))), ((va_up_ne _ _ (by decide)).trans ((va_up_ne _ _ (by decide)).trans ((va_up_ne _ _ (by decide)).trans ((va_up_ne _ _ (by decide)).trans ((va_up_ne _ _ (by decide)).trans ((va_up_ne _ _ (by decide)).trans FgB_1032))))))⟩⟩
  | succ jz ihj =>
    have hjl : k < (mkN true (nI b) f n) := by omega
    have tI_k : (nI k).toInt = (k : Int) := nI_toInt (by omega)
    refine lv_iload hx hb dX9_read_50 (lv_at hl 4 rfl) ?_
    refine lv_aload_n hx hb dX9_read_52 rfl (lv_at hl 0 rfl) ?_
    refine m_get (C := RX9) (T := TX9) (N := 33) (ci := 9) hx hb hts in_X9_read_X9 hown hB (hL 1000 (by decide)) ((va_up_ne _ _ (by decide)).trans FgB_1000) rfl 32 (by decide) (hts (.fieldLink RX9 127 "PaperRoomModel" "madeSize" "I") (by decide +kernel)) (fun _ h9 => h9) rfl dX9_read_53 ?_
    refine b_icmp_ge_f 84 hx hb dX9_read_56 (by decide) (by omega) ?_
    refine lv_aload_n hx hb dX9_read_59 rfl (lv_at hl 0 rfl) ?_
    refine m_get (C := RX9) (T := TX9) (N := 33) (ci := 9) hx hb hts in_X9_read_X9 hown hB (hL 1000 (by decide)) ((va_up_ne _ _ (by decide)).trans FgB_1000) rfl 15 (by decide) (hts (.fieldLink RX9 47 "PaperRoomModel" "view" "[I") (by decide +kernel)) (fun _ h9 => h9) rfl dX9_read_60 ?_
    refine lv_bipush (v := 80) hx hb dX9_read_63 (by decide) ?_
    refine lv_iload_n hx hb dX9_read_65 rfl (lv_at hl 1 rfl) ?_
    refine lv_imul hx hb dX9_read_66 ?_
    refine b_topi (w := nI (80 * b)) (pk_mul 80 b) ?_
    refine lv_iload hx hb dX9_read_67 (lv_at hl 4 rfl) ?_
    refine lv_iadd hx hb dX9_read_69 ?_
    refine b_topi (w := nI ((80 * b) + k)) (nI_add (80 * b) k) ?_
    refine lv_aload_n hx hb dX9_read_70 rfl (lv_at hl 0 rfl) ?_
    refine m_get (C := RX9) (T := TX9) (N := 33) (ci := 9) hx hb hts in_X9_read_X9 hown hB (hL 1000 (by decide)) ((va_up_ne _ _ (by decide)).trans FgB_1000) rfl 31 (by decide) (hts (.fieldLink RX9 83 "PaperRoomModel" "made" "[I") (by decide +kernel)) (fun _ h9 => h9) rfl dX9_read_71 ?_
    refine lv_iload hx hb dX9_read_74 (lv_at hl 4 rfl) ?_
    refine n_iald hx hb hB (hL 1032 (by decide)) ((va_up_ne _ _ (by decide)).trans FgB_1032) k rfl (by omega) (by omega) dX9_read_76 ?_
    refine n_iast hx hb hB (hL 1016 (by decide)) (va_up_self _ _ _) ((80 * b) + k) rfl (by omega) (by omega) dX9_read_77 (fun H locs hB => ?_)
    replace hB : m_B D ty A s L ad (va_up (va_up gB 1016 (.inl (ty 0, 480, .inl (pb (a 15) (mkF true (nI b) f (a 31) n) (80 * b) k)))) 1016 (.inl (ty 0, 480, .inl (upd (pb (a 15) (mkF true (nI b) f (a 31) n) (80 * b) k) ((80 * b) + k) (((va_up a 31 (mkF true (nI b) f (a 31) n)) 31) k))))) H locs := hB
    refine lv_iinc (v := nI (k + 1)) (lv' := [(4, .int (nI (k + 1))), (0, .ref (ad 1000)), (1, .int (nI b)), (2, .int (nI j)), (3, .int (nI k0))]) hx hb dX9_read_78 hl (k := 4) rfl (nI_add k 1) (by decide) rfl (fun ls hl => ?_)
    refine lv_goto (tgt := 50) hx hb dX9_read_81 (by decide) ?_
    have hB : m_B D ty A s L ad (va_up gB 1016 (.inl (ty 0, 480, .inl (pb (a 15) (mkF true (nI b) f (a 31) n) (80 * b) (k + 1))))) H locs := by
      rw [bx_uu] at hB; exact hB
    have hl : lv_has ls 5 [(0, .ref (ad 1000)), (1, .int (nI b)), (2, .int (nI j)), (3, .int (nI k0)), (4, .int (nI (k + 1)))] := lv_sub hl [1, 2, 3, 4, 0] rfl
    apply ihj (k := (k + 1)) (H := H) (locs := locs) (ls := ls) <;> first | omega | exact hB | exact hl
set_option maxHeartbeats 1000000 in
set_option maxRecDepth 100000 in
theorem c_M_read_full_f (l : Launch) (D : va_G) (ty : Nat → ClassId) (L : List Nat) (ad : Nat → Nat) (g : Nat → va_E) (a : Nat → Nat → Int32) (dn pn en qn mz : Nat) (nw lo : Int32) (tr : Int64) (b j k0 vj fo n : Nat) (f : Nat → Int32) (hM : RM ty L ad g a dn pn en qn mz nw lo tr) (hj9 : j < pn) (hpn : pn ≤ 8) (hvj : a 10 j = nI vj) (hv4 : vj ≤ 4) (hk0 : k0 < vj) (hb6 : b < 6) (hfo : a 7 j = nI fo) (hfo4 : fo < 4) (hw : a 9 j = 0 ∨ a 9 j = 1) (hs : seeB (a 6 j) (a 9 j) (a 8 j) (a 3) (a 4) (b % 3 * 4 + fo) nw = true) (hsz : a 11 (4 * j + k0) = nI n) (hn40 : n ≤ 40) (hf : ∀ i, i < n → f i = pl (a 12 (40 * (4 * j + k0) + i)) (a 13 (40 * (4 * j + k0) + i))) (hkd : ¬ a 6 j = 2) (hen : en = 200) : m_C l yX9_read wsX9_read 3 65 0 0 D ty [.ref (ad 1000), .int (nI b), .int (nI j), .int (nI k0)] L ad g (fun v1 L1 ad1 g1 => v1 = (some (.int (nI (mkN false (nI b) f n)))) ∧ L1 = L ∧ ad1 = ad ∧ (∀ x, x < 1000 → g1 x = g x) ∧ RM ty L ad g1 (rdA a false b f n) dn pn en qn (mkN false (nI b) f n) nw (lo + 1) tr) := by
  intro sz
  refine Met.ofW (cc := cX9_read) (maxL := 5) (ret := (some .int)) (by decide) rfl ?_
  intro p e s m args below meth c s₁ B hml hv
  have hx := B.exec
  have hb := B.bytes
  have hrt := B.returns
  have hts := atoms_spec (ws := wsX9_read) B.pre
  have hown : s.vm.findClass RX9 = some m.cls := findClass_of_methodNamed B.named
  have hlocks := B.notSynchronized
  obtain ⟨rfl, hB⟩ := m_start hv
  generalize va_A (m_w L ad g) sz = A at hB ⊢
  generalize s.heap = H at hB ⊢
  generalize ([] : List Loc) = locs at hB ⊢
  have hl := lv_entry ([.ref (ad 1000), .int (nI b), .int (nI j), .int (nI k0)]) (n := 5) (Nat.le_of_ble_eq_true rfl)
  rw [lg_entry_eq]
  generalize (lg_sl ([.ref (ad 1000), .int (nI b), .int (nI j), .int (nI k0)]) ++ List.replicate (5 - (lg_sl ([.ref (ad 1000), .int (nI b), .int (nI j), .int (nI k0)])).length) Slot.unset).toArray = ls at hl ⊢
  have hl : lv_has ls 5 [(0, .ref (ad 1000)), (1, .int (nI b)), (2, .int (nI j)), (3, .int (nI k0))] := hl
  obtain ⟨hL, h_1000, h_1002, h_1004, h_1005, h_1007, h_1008, h_1009, h_1010, h_1011, h_1012, h_1013, h_1014, h_1015, h_1016, h_1019, h_1020, h_1021, h_1022, h_1024, h_1025, h_1026, h_1027, h_1028, h_1029, h_1030, h_1032⟩ := id hM
  have hj8 : j < 8 := by omega
  have hN := mkN_le false (nI b) f n
  refine lv_iload_n hx hb dX9_read_0 rfl (lv_at hl 1 rfl) ?_
  refine m_callSE (As := [.int (nI b)]) (rest := []) (c_M_isBidder_t l D ty L ad _ b hb6) ⟨hx, hb, hml, hown, hts⟩ (va_cwS 1 hts gX9_read_X9_isBidder rfl rfl rfl (by decide +kernel) ⟨Nat.le_of_ble_eq_true rfl, Nat.le_of_ble_eq_true rfl⟩) hB rfl hl.1 rfl (Nat.le_of_ble_eq_true rfl) dX9_read_1 ⟨Nat.le_of_ble_eq_true rfl, Nat.le_of_ble_eq_true rfl⟩ (fun H locs hB => ?_)
  refine b_if_eq_f 16 hx hb dX9_read_4 (by decide) (by decide) ?_
  refine lv_aload_n hx hb dX9_read_7 rfl (lv_at hl 0 rfl) ?_
  refine lv_iload_n hx hb dX9_read_8 rfl (lv_at hl 2 rfl) ?_
  refine lv_iload_n hx hb dX9_read_9 rfl (lv_at hl 3 rfl) ?_
  refine m_callVE (ci := 9) (As := [.int (nI j), .int (nI k0)]) (rest := []) (c_M_isVersion_t l D ty L ad _ a dn pn en qn mz nw lo tr j k0 vj hM hj9 hpn hvj hv4 hk0) ⟨hx, hb, hml, hown, hts⟩ (cwV 2 hts gX9_read_X9_isVersion rfl rfl rfl (by decide +kernel) ⟨Nat.le_of_ble_eq_true rfl, Nat.le_of_ble_eq_true rfl⟩) hB (hL 1000 (by decide)) h_1000 rfl rfl hl.1 rfl (Nat.le_of_ble_eq_true rfl) dX9_read_10 ⟨Nat.le_of_ble_eq_true rfl, Nat.le_of_ble_eq_true rfl⟩ (fun H locs hB => ?_)
  refine b_if_ne_t 18 hx hb dX9_read_13 (by decide) (by decide) ?_
  refine lv_aload_n hx hb dX9_read_18 rfl (lv_at hl 0 rfl) ?_
  refine lv_iload_n hx hb dX9_read_19 rfl (lv_at hl 1 rfl) ?_
  refine lv_iload_n hx hb dX9_read_20 rfl (lv_at hl 2 rfl) ?_
  refine m_callVE (ci := 9) (As := [.int (nI b), .int (nI j)]) (rest := []) (c_M_sees l D ty L ad _ a dn pn en qn mz nw lo tr b j fo hM hb6 hj8 hfo hfo4 hw) ⟨hx, hb, hml, hown, hts⟩ (cwV 2 hts gX9_read_X9_sees rfl rfl rfl (by decide +kernel) ⟨Nat.le_of_ble_eq_true rfl, Nat.le_of_ble_eq_true rfl⟩) hB (hL 1000 (by decide)) h_1000 rfl rfl hl.1 rfl (Nat.le_of_ble_eq_true rfl) dX9_read_21 ⟨Nat.le_of_ble_eq_true rfl, Nat.le_of_ble_eq_true rfl⟩ (fun H locs hB => ?_)
  refine b_if_ne_t 30 hx hb dX9_read_24 (by decide) (by rw [hs]; decide) ?_
  refine lv_aload_n hx hb dX9_read_30 rfl (lv_at hl 0 rfl) ?_
  refine lv_iload_n hx hb dX9_read_31 rfl (lv_at hl 1 rfl) ?_
  refine lv_iload_n hx hb dX9_read_32 rfl (lv_at hl 2 rfl) ?_
  refine lv_iload_n hx hb dX9_read_33 rfl (lv_at hl 3 rfl) ?_
  refine m_callV (ci := 9) (As := [.int (nI b), .int (nI j), .int (nI k0)]) (rest := []) (c_M_makes_f l D ty L ad _ a dn pn en qn mz nw lo tr (nI b) j k0 n f hM hj8 (by omega) hsz hn40 hf hkd) ⟨hx, hb, hml, hown, hts⟩ (cwV 3 hts gX9_read_X9_makes rfl rfl rfl (by decide +kernel) ⟨Nat.le_of_ble_eq_true rfl, Nat.le_of_ble_eq_true rfl⟩) hB (hL 1000 (by decide)) h_1000 rfl rfl hl.1 rfl (Nat.le_of_ble_eq_true rfl) dX9_read_34 ⟨Nat.le_of_ble_eq_true rfl, Nat.le_of_ble_eq_true rfl⟩ (fun v134 L134 ad_134 g134 H locs hp134 hB => ?_)
  obtain ⟨q1_134, q2_134, q3_134, hfr_134, hM_134⟩ := hp134
  rw [q2_134, q3_134] at hB
  obtain ⟨_, f134_1000, f134_1002, f134_1004, f134_1005, f134_1007, f134_1008, f134_1009, f134_1010, f134_1011, f134_1012, f134_1013, f134_1014, f134_1015, f134_1016, f134_1019, f134_1020, f134_1021, f134_1022, f134_1024, f134_1025, f134_1026, f134_1027, f134_1028, f134_1029, f134_1030, f134_1032⟩ := id hM_134
  refine W.eq (g2 := F0 m 37 ls []) (by rw [q1_134]; rfl) ?_
  refine lv_aload_n hx hb dX9_read_37 rfl (lv_at hl 0 rfl) ?_
  refine m_get (C := RX9) (T := TX9) (N := 33) (ci := 9) hx hb hts in_X9_read_X9 hown hB (hL 1000 (by decide)) f134_1000 rfl 14 (by decide) (hts (.fieldLink RX9 44 "PaperRoomModel" "viewSize" "[I") (by decide +kernel)) (fun _ h9 => h9) rfl dX9_read_38 ?_
  refine lv_iload_n hx hb dX9_read_41 rfl (lv_at hl 1 rfl) ?_
  refine lv_aload_n hx hb dX9_read_42 rfl (lv_at hl 0 rfl) ?_
  refine m_get (C := RX9) (T := TX9) (N := 33) (ci := 9) hx hb hts in_X9_read_X9 hown hB (hL 1000 (by decide)) f134_1000 rfl 32 (by decide) (hts (.fieldLink RX9 127 "PaperRoomModel" "madeSize" "I") (by decide +kernel)) (fun _ h9 => h9) rfl dX9_read_43 ?_
  refine n_iast hx hb hB (hL 1015 (by decide)) f134_1015 b rfl (by omega) (by omega) dX9_read_46 (fun H locs hB => ?_)
  replace hB : m_B D ty A s L ad (va_up g134 1015 (.inl (ty 0, 6, .inl (upd ((va_up a 31 (mkF false (nI b) f (a 31) n)) 14) b (nI (mkN false (nI b) f n)))))) H locs := hB
  refine lv_iconst (v := 0) hx hb dX9_read_47 (by decide) ?_
  refine lv_istore (lv' := [(4, .int 0), (0, .ref (ad 1000)), (1, .int (nI b)), (2, .int (nI j)), (3, .int (nI k0))]) hx hb dX9_read_48 hl (by decide) rfl (fun ls hl => ?_)
  obtain ⟨gB, hgB⟩ : ∃ z, z = (va_up g134 1015 (.inl (ty 0, 6, .inl (upd ((va_up a 31 (mkF false (nI b) f (a 31) n)) 14) b (nI (mkN false (nI b) f n)))))) := ⟨_, rfl⟩
  rw [← hgB] at hB
  have FgB_1000 : gB 1000 = .inr (9, [.int (nI dn), .ref (ad 1002), .int nw, .ref (ad 1004), .ref (ad 1005), .int (nI pn), .ref (ad 1007), .ref (ad 1008), .ref (ad 1009), .ref (ad 1010), .ref (ad 1011), .ref (ad 1012), .ref (ad 1013), .ref (ad 1014), .ref (ad 1015), .ref (ad 1016), .int (nI en), .int lo, .ref (ad 1019), .ref (ad 1020), .ref (ad 1021), .ref (ad 1022), .int (nI qn), .ref (ad 1024), .ref (ad 1025), .ref (ad 1026), .ref (ad 1027), .ref (ad 1028), .ref (ad 1029), .ref (ad 1030), .long tr, .ref (ad 1032), .int (nI (mkN false (nI b) f n))]) := by rw [hgB]; exact ((va_up_ne _ _ (by decide)).trans f134_1000)
  have FgB_1002 : gB 1002 = .inl (ty 0, 40, .inl ((va_up a 31 (mkF false (nI b) f (a 31) n)) 1)) := by rw [hgB]; exact ((va_up_ne _ _ (by decide)).trans f134_1002)
  have FgB_1004 : gB 1004 = .inl (ty 0, 12, .inl ((va_up a 31 (mkF false (nI b) f (a 31) n)) 3)) := by rw [hgB]; exact ((va_up_ne _ _ (by decide)).trans f134_1004)
  have FgB_1005 : gB 1005 = .inl (ty 0, 12, .inl ((va_up a 31 (mkF false (nI b) f (a 31) n)) 4)) := by rw [hgB]; exact ((va_up_ne _ _ (by decide)).trans f134_1005)
  have FgB_1007 : gB 1007 = .inl (ty 0, 8, .inl ((va_up a 31 (mkF false (nI b) f (a 31) n)) 6)) := by rw [hgB]; exact ((va_up_ne _ _ (by decide)).trans f134_1007)
  have FgB_1008 : gB 1008 = .inl (ty 0, 8, .inl ((va_up a 31 (mkF false (nI b) f (a 31) n)) 7)) := by rw [hgB]; exact ((va_up_ne _ _ (by decide)).trans f134_1008)
  have FgB_1009 : gB 1009 = .inl (ty 0, 8, .inl ((va_up a 31 (mkF false (nI b) f (a 31) n)) 8)) := by rw [hgB]; exact ((va_up_ne _ _ (by decide)).trans f134_1009)
  have FgB_1010 : gB 1010 = .inl (ty 3, 8, .inl ((va_up a 31 (mkF false (nI b) f (a 31) n)) 9)) := by rw [hgB]; exact ((va_up_ne _ _ (by decide)).trans f134_1010)
  have FgB_1011 : gB 1011 = .inl (ty 0, 8, .inl ((va_up a 31 (mkF false (nI b) f (a 31) n)) 10)) := by rw [hgB]; exact ((va_up_ne _ _ (by decide)).trans f134_1011)
  have FgB_1012 : gB 1012 = .inl (ty 0, 32, .inl ((va_up a 31 (mkF false (nI b) f (a 31) n)) 11)) := by rw [hgB]; exact ((va_up_ne _ _ (by decide)).trans f134_1012)
  have FgB_1013 : gB 1013 = .inl (ty 0, 1280, .inl ((va_up a 31 (mkF false (nI b) f (a 31) n)) 12)) := by rw [hgB]; exact ((va_up_ne _ _ (by decide)).trans f134_1013)
  have FgB_1014 : gB 1014 = .inl (ty 3, 1280, .inl ((va_up a 31 (mkF false (nI b) f (a 31) n)) 13)) := by rw [hgB]; exact ((va_up_ne _ _ (by decide)).trans f134_1014)
  have FgB_1015 : gB 1015 = .inl (ty 0, 6, .inl (upd ((va_up a 31 (mkF false (nI b) f (a 31) n)) 14) b (nI (mkN false (nI b) f n)))) := by rw [hgB]; exact (va_up_self _ _ _)
  have FgB_1016 : gB 1016 = .inl (ty 0, 480, .inl ((va_up a 31 (mkF false (nI b) f (a 31) n)) 15)) := by rw [hgB]; exact ((va_up_ne _ _ (by decide)).trans f134_1016)
  have FgB_1019 : gB 1019 = .inl (ty 0, 200, .inl ((va_up a 31 (mkF false (nI b) f (a 31) n)) 18)) := by rw [hgB]; exact ((va_up_ne _ _ (by decide)).trans f134_1019)
  have FgB_1020 : gB 1020 = .inl (ty 0, 200, .inl ((va_up a 31 (mkF false (nI b) f (a 31) n)) 19)) := by rw [hgB]; exact ((va_up_ne _ _ (by decide)).trans f134_1020)
  have FgB_1021 : gB 1021 = .inl (ty 0, 200, .inl ((va_up a 31 (mkF false (nI b) f (a 31) n)) 20)) := by rw [hgB]; exact ((va_up_ne _ _ (by decide)).trans f134_1021)
  have FgB_1022 : gB 1022 = .inl (ty 0, 200, .inl ((va_up a 31 (mkF false (nI b) f (a 31) n)) 21)) := by rw [hgB]; exact ((va_up_ne _ _ (by decide)).trans f134_1022)
  have FgB_1024 : gB 1024 = .inl (ty 0, 30, .inl ((va_up a 31 (mkF false (nI b) f (a 31) n)) 23)) := by rw [hgB]; exact ((va_up_ne _ _ (by decide)).trans f134_1024)
  have FgB_1025 : gB 1025 = .inl (ty 0, 30, .inl ((va_up a 31 (mkF false (nI b) f (a 31) n)) 24)) := by rw [hgB]; exact ((va_up_ne _ _ (by decide)).trans f134_1025)
  have FgB_1026 : gB 1026 = .inl (ty 0, 30, .inl ((va_up a 31 (mkF false (nI b) f (a 31) n)) 25)) := by rw [hgB]; exact ((va_up_ne _ _ (by decide)).trans f134_1026)
  have FgB_1027 : gB 1027 = .inl (ty 0, 30, .inl ((va_up a 31 (mkF false (nI b) f (a 31) n)) 26)) := by rw [hgB]; exact ((va_up_ne _ _ (by decide)).trans f134_1027)
  have FgB_1028 : gB 1028 = .inl (ty 0, 30, .inl ((va_up a 31 (mkF false (nI b) f (a 31) n)) 27)) := by rw [hgB]; exact ((va_up_ne _ _ (by decide)).trans f134_1028)
  have FgB_1029 : gB 1029 = .inl (ty 0, 6, .inl ((va_up a 31 (mkF false (nI b) f (a 31) n)) 28)) := by rw [hgB]; exact ((va_up_ne _ _ (by decide)).trans f134_1029)
  have FgB_1030 : gB 1030 = .inl (ty 0, 6, .inl ((va_up a 31 (mkF false (nI b) f (a 31) n)) 29)) := by rw [hgB]; exact ((va_up_ne _ _ (by decide)).trans f134_1030)
  have FgB_1032 : gB 1032 = .inl (ty 0, 80, .inl ((va_up a 31 (mkF false (nI b) f (a 31) n)) 31)) := by rw [hgB]; exact ((va_up_ne _ _ (by decide)).trans f134_1032)
  have RgB : ∀ x, x < 1000 → gB x = g x := by intro x hx; rw [hgB]; exact ((va_up_ne _ _ (by omega)).trans ((hfr_134 x hx).trans rfl))
  have tI_N : (nI (mkN false (nI b) f n)).toInt = ((mkN false (nI b) f n) : Int) := nI_toInt (by omega)
  replace hl : lv_has ls 5 [(0, .ref (ad 1000)), (1, .int (nI b)), (2, .int (nI j)), (3, .int (nI k0)), (4, .int 0)] := lv_sub hl [1, 2, 3, 4, 0] rfl
  obtain ⟨k, hk0⟩ : ∃ k : Nat, k = 0 := ⟨0, rfl⟩
  replace hB : m_B D ty A s L ad (va_up gB 1016 (.inl (ty 0, 480, .inl (pb (a 15) (mkF false (nI b) f (a 31) n) (80 * b) k)))) H locs := by
    rw [hk0]
    show m_B D ty A s L ad (va_up gB 1016 (.inl (ty 0, 480, .inl (a 15)))) H locs; rw [up_same (f := gB) (k := 1016) (v := .inl (ty 0, 480, .inl (a 15))) FgB_1016]; exact hB
  replace hl : lv_has ls 5 [(0, .ref (ad 1000)), (1, .int (nI b)), (2, .int (nI j)), (3, .int (nI k0)), (4, .int (nI k))] := by rw [hk0]; exact hl
  obtain ⟨jz, hj⟩ : ∃ jz : Nat, k + jz = (mkN false (nI b) f n) := ⟨(mkN false (nI b) f n) - k, by omega⟩
  clear hk0
  induction jz generalizing k H locs ls with
  | zero =>
    have hje : k = (mkN false (nI b) f n) := by omega
    have tI_k : (nI k).toInt = (k : Int) := nI_toInt (by omega)
    refine lv_iload hx hb dX9_read_50 (lv_at hl 4 rfl) ?_
    refine lv_aload_n hx hb dX9_read_52 rfl (lv_at hl 0 rfl) ?_
    refine m_get (C := RX9) (T := TX9) (N := 33) (ci := 9) hx hb hts in_X9_read_X9 hown hB (hL 1000 (by decide)) ((va_up_ne _ _ (by decide)).trans FgB_1000) rfl 32 (by decide) (hts (.fieldLink RX9 127 "PaperRoomModel" "madeSize" "I") (by decide +kernel)) (fun _ h9 => h9) rfl dX9_read_53 ?_
    refine b_icmp_ge_t 84 hx hb dX9_read_56 (by decide) (by omega) ?_
    subst hje
    refine lv_aload_n hx hb dX9_read_84 rfl (lv_at hl 0 rfl) ?_
    refine m_get (C := RX9) (T := TX9) (N := 33) (ci := 9) hx hb hts in_X9_read_X9 hown hB (hL 1000 (by decide)) ((va_up_ne _ _ (by decide)).trans FgB_1000) rfl 16 (by decide) (hts (.fieldLink RX9 134 "PaperRoomModel" "entries" "I") (by decide +kernel)) (fun _ h9 => h9) rfl dX9_read_85 ?_
    refine lv_sipush (v := 200) hx hb dX9_read_88 (by decide) ?_
    refine b_icmp_ne_f 107 hx hb dX9_read_91 (by decide) (by rw [hen]; decide) ?_
    refine lv_aload_n hx hb dX9_read_94 rfl (lv_at hl 0 rfl) ?_
    refine lv_dup hx hb dX9_read_95 rfl ?_
    refine m_get (C := RX9) (T := TX9) (N := 33) (ci := 9) hx hb hts in_X9_read_X9 hown hB (hL 1000 (by decide)) ((va_up_ne _ _ (by decide)).trans FgB_1000) rfl 17 (by decide) (hts (.fieldLink RX9 137 "PaperRoomModel" "lost" "I") (by decide +kernel)) (fun _ h9 => h9) rfl dX9_read_96 ?_
    refine lv_iconst (v := 1) hx hb dX9_read_99 (by decide) ?_
    refine lv_iadd hx hb dX9_read_100 ?_
    refine m_put (C := RX9) (T := TX9) (N := 33) (ci := 9) (v := .int (lo + 1)) (ft := .int) hx hb hts in_X9_read_X9 tyX9 tyX9_ok nmX9 hown hB (hL 1000 (by decide)) ((va_up_ne _ _ (by decide)).trans FgB_1000) rfl 17 (by decide) (hts (.fieldLink RX9 137 "PaperRoomModel" "lost" "I") (by decide +kernel)) (fun _ h9 => h9) rfl (by decide +kernel) rfl rfl (Nat.le_of_ble_eq_true rfl) dX9_read_101 (fun H locs hB => ?_)
    replace hB : m_B D ty A s L ad (va_up (va_up gB 1016 (.inl (ty 0, 480, .inl (pb (a 15) (mkF false (nI b) f (a 31) n) (80 * b) (mkN false (nI b) f n))))) 1000 (.inr (9, [.int (nI dn), .ref (ad 1002), .int nw, .ref (ad 1004), .ref (ad 1005), .int (nI pn), .ref (ad 1007), .ref (ad 1008), .ref (ad 1009), .ref (ad 1010), .ref (ad 1011), .ref (ad 1012), .ref (ad 1013), .ref (ad 1014), .ref (ad 1015), .ref (ad 1016), .int (nI en), .int (lo + 1), .ref (ad 1019), .ref (ad 1020), .ref (ad 1021), .ref (ad 1022), .int (nI qn), .ref (ad 1024), .ref (ad 1025), .ref (ad 1026), .ref (ad 1027), .ref (ad 1028), .ref (ad 1029), .ref (ad 1030), .long tr, .ref (ad 1032), .int (nI (mkN false (nI b) f n))]))) H locs := hB
    refine lv_goto (tgt := 160) hx hb dX9_read_104 (by decide) ?_
    refine lv_aload_n hx hb dX9_read_160 rfl (lv_at hl 0 rfl) ?_
    refine m_get (C := RX9) (T := TX9) (N := 33) (ci := 9) hx hb hts in_X9_read_X9 hown hB (hL 1000 (by decide)) (va_up_self _ _ _) rfl 32 (by decide) (hts (.fieldLink RX9 127 "PaperRoomModel" "madeSize" "I") (by decide +kernel)) (fun _ h9 => h9) rfl dX9_read_161 ?_
    exact m_iret hx hb hrt hlocks hB (Nat.le_refl _) (Nat.le_refl _) dX9_read_164 ⟨rfl, rfl, rfl, (fun x hx => ((va_up_ne _ _ (by omega)).trans ((va_up_ne _ _ (by omega)).trans (RgB x hx)))), ⟨hL, (va_up_self _ _ _), ((va_up_ne _ _ (by decide)).trans ((va_up_ne _ _ (by decide)).trans FgB_1002)), ((va_up_ne _ _ (by decide)).trans ((va_up_ne _ _ (by decide)).trans FgB_1004)), ((va_up_ne _ _ (by decide)).trans ((va_up_ne _ _ (by decide)).trans FgB_1005)), ((va_up_ne _ _ (by decide)).trans ((va_up_ne _ _ (by decide)).trans FgB_1007)), ((va_up_ne _ _ (by decide)).trans ((va_up_ne _ _ (by decide)).trans FgB_1008)), ((va_up_ne _ _ (by decide)).trans ((va_up_ne _ _ (by decide)).trans FgB_1009)), ((va_up_ne _ _ (by decide)).trans ((va_up_ne _ _ (by decide)).trans FgB_1010)), ((va_up_ne _ _ (by decide)).trans ((va_up_ne _ _ (by decide)).trans FgB_1011)), ((va_up_ne _ _ (by decide)).trans ((va_up_ne _ _ (by decide)).trans FgB_1012)), ((va_up_ne _ _ (by decide)).trans ((va_up_ne _ _ (by decide)).trans FgB_1013)), ((va_up_ne _ _ (by decide)).trans ((va_up_ne _ _ (by decide)).trans FgB_1014)), ((va_up_ne _ _ (by decide)).trans ((va_up_ne _ _ (by decide)).trans FgB_1015)), ((va_up_ne _ _ (by decide)).trans (va_up_self _ _ _)), ((va_up_ne _ _ (by decide)).trans ((va_up_ne _ _ (by decide)).trans FgB_1019)), ((va_up_ne _ _ (by decide)).trans ((va_up_ne _ _ (by decide)).trans FgB_1020)), ((va_up_ne _ _ (by decide)).trans ((va_up_ne _ _ (by decide)).trans FgB_1021)), ((va_up_ne _ _ (by decide)).trans ((va_up_ne _ _ (by decide)).trans FgB_1022)), ((va_up_ne _ _ (by decide)).trans ((va_up_ne _ _ (by decide)).trans FgB_1024)), ((va_up_ne _ _ (by decide)).trans ((va_up_ne _ _ (by decide)).trans FgB_1025)), ((va_up_ne _ _ (by decide)).trans ((va_up_ne _ _ (by decide)).trans FgB_1026)), ((va_up_ne _ _ (by decide)).trans ((va_up_ne _ _ (by decide)).trans FgB_1027)), ((va_up_ne _ _ (by decide)).trans ((va_up_ne _ _ (by decide)).trans FgB_1028)), ((va_up_ne _ _ (by decide)).trans ((va_up_ne _ _ (by decide)).trans FgB_1029)), ((va_up_ne _ _ (by decide)).trans ((va_up_ne _ _ (by decide)).trans FgB_1030)), ((va_up_ne _ _ (by decide)).trans ((va_up_ne _ _ (by decide)).trans FgB_1032))⟩⟩
  | succ jz ihj =>
    have hjl : k < (mkN false (nI b) f n) := by omega
    have tI_k : (nI k).toInt = (k : Int) := nI_toInt (by omega)
    refine lv_iload hx hb dX9_read_50 (lv_at hl 4 rfl) ?_
    refine lv_aload_n hx hb dX9_read_52 rfl (lv_at hl 0 rfl) ?_
    refine m_get (C := RX9) (T := TX9) (N := 33) (ci := 9) hx hb hts in_X9_read_X9 hown hB (hL 1000 (by decide)) ((va_up_ne _ _ (by decide)).trans FgB_1000) rfl 32 (by decide) (hts (.fieldLink RX9 127 "PaperRoomModel" "madeSize" "I") (by decide +kernel)) (fun _ h9 => h9) rfl dX9_read_53 ?_
    refine b_icmp_ge_f 84 hx hb dX9_read_56 (by decide) (by omega) ?_
    refine lv_aload_n hx hb dX9_read_59 rfl (lv_at hl 0 rfl) ?_
    refine m_get (C := RX9) (T := TX9) (N := 33) (ci := 9) hx hb hts in_X9_read_X9 hown hB (hL 1000 (by decide)) ((va_up_ne _ _ (by decide)).trans FgB_1000) rfl 15 (by decide) (hts (.fieldLink RX9 47 "PaperRoomModel" "view" "[I") (by decide +kernel)) (fun _ h9 => h9) rfl dX9_read_60 ?_
    refine lv_bipush (v := 80) hx hb dX9_read_63 (by decide) ?_
    refine lv_iload_n hx hb dX9_read_65 rfl (lv_at hl 1 rfl) ?_
    refine lv_imul hx hb dX9_read_66 ?_
    refine b_topi (w := nI (80 * b)) (pk_mul 80 b) ?_
    refine lv_iload hx hb dX9_read_67 (lv_at hl 4 rfl) ?_
    refine lv_iadd hx hb dX9_read_69 ?_
    refine b_topi (w := nI ((80 * b) + k)) (nI_add (80 * b) k) ?_
    refine lv_aload_n hx hb dX9_read_70 rfl (lv_at hl 0 rfl) ?_
    refine m_get (C := RX9) (T := TX9) (N := 33) (ci := 9) hx hb hts in_X9_read_X9 hown hB (hL 1000 (by decide)) ((va_up_ne _ _ (by decide)).trans FgB_1000) rfl 31 (by decide) (hts (.fieldLink RX9 83 "PaperRoomModel" "made" "[I") (by decide +kernel)) (fun _ h9 => h9) rfl dX9_read_71 ?_
    refine lv_iload hx hb dX9_read_74 (lv_at hl 4 rfl) ?_
    refine n_iald hx hb hB (hL 1032 (by decide)) ((va_up_ne _ _ (by decide)).trans FgB_1032) k rfl (by omega) (by omega) dX9_read_76 ?_
    refine n_iast hx hb hB (hL 1016 (by decide)) (va_up_self _ _ _) ((80 * b) + k) rfl (by omega) (by omega) dX9_read_77 (fun H locs hB => ?_)
    replace hB : m_B D ty A s L ad (va_up (va_up gB 1016 (.inl (ty 0, 480, .inl (pb (a 15) (mkF false (nI b) f (a 31) n) (80 * b) k)))) 1016 (.inl (ty 0, 480, .inl (upd (pb (a 15) (mkF false (nI b) f (a 31) n) (80 * b) k) ((80 * b) + k) (((va_up a 31 (mkF false (nI b) f (a 31) n)) 31) k))))) H locs := hB
    refine lv_iinc (v := nI (k + 1)) (lv' := [(4, .int (nI (k + 1))), (0, .ref (ad 1000)), (1, .int (nI b)), (2, .int (nI j)), (3, .int (nI k0))]) hx hb dX9_read_78 hl (k := 4) rfl (nI_add k 1) (by decide) rfl (fun ls hl => ?_)
    refine lv_goto (tgt := 50) hx hb dX9_read_81 (by decide) ?_
    have hB : m_B D ty A s L ad (va_up gB 1016 (.inl (ty 0, 480, .inl (pb (a 15) (mkF false (nI b) f (a 31) n) (80 * b) (k + 1))))) H locs := by
      rw [bx_uu] at hB; exact hB
    have hl : lv_has ls 5 [(0, .ref (ad 1000)), (1, .int (nI b)), (2, .int (nI j)), (3, .int (nI k0)), (4, .int (nI (k + 1)))] := lv_sub hl [1, 2, 3, 4, 0] rfl
    apply ihj (k := (k + 1)) (H := H) (locs := locs) (ls := ls) <;> first | omega | exact hB | exact hl
set_option maxHeartbeats 1000000 in
set_option maxRecDepth 100000 in
theorem c_M_read_ok_f (l : Launch) (D : va_G) (ty : Nat → ClassId) (L : List Nat) (ad : Nat → Nat) (g : Nat → va_E) (a : Nat → Nat → Int32) (dn pn en qn mz : Nat) (nw lo : Int32) (tr : Int64) (b j k0 vj fo n : Nat) (f : Nat → Int32) (hM : RM ty L ad g a dn pn en qn mz nw lo tr) (hj9 : j < pn) (hpn : pn ≤ 8) (hvj : a 10 j = nI vj) (hv4 : vj ≤ 4) (hk0 : k0 < vj) (hb6 : b < 6) (hfo : a 7 j = nI fo) (hfo4 : fo < 4) (hw : a 9 j = 0 ∨ a 9 j = 1) (hs : seeB (a 6 j) (a 9 j) (a 8 j) (a 3) (a 4) (b % 3 * 4 + fo) nw = true) (hsz : a 11 (4 * j + k0) = nI n) (hn40 : n ≤ 40) (hf : ∀ i, i < n → f i = pl (a 12 (40 * (4 * j + k0) + i)) (a 13 (40 * (4 * j + k0) + i))) (hkd : ¬ a 6 j = 2) (hen : en < 200) : m_C l yX9_read wsX9_read 3 65 0 0 D ty [.ref (ad 1000), .int (nI b), .int (nI j), .int (nI k0)] L ad g (fun v1 L1 ad1 g1 => v1 = (some (.int (nI (mkN false (nI b) f n)))) ∧ L1 = L ∧ ad1 = ad ∧ (∀ x, x < 1000 → g1 x = g x) ∧ RM ty L ad g1 (lgA (rdA a false b f n) en nw (nI b) (nI j) (nI k0)) dn pn (en + 1) qn (mkN false (nI b) f n) nw lo tr) := by
  intro sz
  refine Met.ofW (cc := cX9_read) (maxL := 5) (ret := (some .int)) (by decide) rfl ?_
  intro p e s m args below meth c s₁ B hml hv
  have hx := B.exec
  have hb := B.bytes
  have hrt := B.returns
  have hts := atoms_spec (ws := wsX9_read) B.pre
  have hown : s.vm.findClass RX9 = some m.cls := findClass_of_methodNamed B.named
  have hlocks := B.notSynchronized
  obtain ⟨rfl, hB⟩ := m_start hv
  generalize va_A (m_w L ad g) sz = A at hB ⊢
  generalize s.heap = H at hB ⊢
  generalize ([] : List Loc) = locs at hB ⊢
  have hl := lv_entry ([.ref (ad 1000), .int (nI b), .int (nI j), .int (nI k0)]) (n := 5) (Nat.le_of_ble_eq_true rfl)
  rw [lg_entry_eq]
  generalize (lg_sl ([.ref (ad 1000), .int (nI b), .int (nI j), .int (nI k0)]) ++ List.replicate (5 - (lg_sl ([.ref (ad 1000), .int (nI b), .int (nI j), .int (nI k0)])).length) Slot.unset).toArray = ls at hl ⊢
  have hl : lv_has ls 5 [(0, .ref (ad 1000)), (1, .int (nI b)), (2, .int (nI j)), (3, .int (nI k0))] := hl
  obtain ⟨hL, h_1000, h_1002, h_1004, h_1005, h_1007, h_1008, h_1009, h_1010, h_1011, h_1012, h_1013, h_1014, h_1015, h_1016, h_1019, h_1020, h_1021, h_1022, h_1024, h_1025, h_1026, h_1027, h_1028, h_1029, h_1030, h_1032⟩ := id hM
  have hj8 : j < 8 := by omega
  have hN := mkN_le false (nI b) f n
  refine lv_iload_n hx hb dX9_read_0 rfl (lv_at hl 1 rfl) ?_
  refine m_callSE (As := [.int (nI b)]) (rest := []) (c_M_isBidder_t l D ty L ad _ b hb6) ⟨hx, hb, hml, hown, hts⟩ (va_cwS 1 hts gX9_read_X9_isBidder rfl rfl rfl (by decide +kernel) ⟨Nat.le_of_ble_eq_true rfl, Nat.le_of_ble_eq_true rfl⟩) hB rfl hl.1 rfl (Nat.le_of_ble_eq_true rfl) dX9_read_1 ⟨Nat.le_of_ble_eq_true rfl, Nat.le_of_ble_eq_true rfl⟩ (fun H locs hB => ?_)
  refine b_if_eq_f 16 hx hb dX9_read_4 (by decide) (by decide) ?_
  refine lv_aload_n hx hb dX9_read_7 rfl (lv_at hl 0 rfl) ?_
  refine lv_iload_n hx hb dX9_read_8 rfl (lv_at hl 2 rfl) ?_
  refine lv_iload_n hx hb dX9_read_9 rfl (lv_at hl 3 rfl) ?_
  refine m_callVE (ci := 9) (As := [.int (nI j), .int (nI k0)]) (rest := []) (c_M_isVersion_t l D ty L ad _ a dn pn en qn mz nw lo tr j k0 vj hM hj9 hpn hvj hv4 hk0) ⟨hx, hb, hml, hown, hts⟩ (cwV 2 hts gX9_read_X9_isVersion rfl rfl rfl (by decide +kernel) ⟨Nat.le_of_ble_eq_true rfl, Nat.le_of_ble_eq_true rfl⟩) hB (hL 1000 (by decide)) h_1000 rfl rfl hl.1 rfl (Nat.le_of_ble_eq_true rfl) dX9_read_10 ⟨Nat.le_of_ble_eq_true rfl, Nat.le_of_ble_eq_true rfl⟩ (fun H locs hB => ?_)
  refine b_if_ne_t 18 hx hb dX9_read_13 (by decide) (by decide) ?_
  refine lv_aload_n hx hb dX9_read_18 rfl (lv_at hl 0 rfl) ?_
  refine lv_iload_n hx hb dX9_read_19 rfl (lv_at hl 1 rfl) ?_
  refine lv_iload_n hx hb dX9_read_20 rfl (lv_at hl 2 rfl) ?_
  refine m_callVE (ci := 9) (As := [.int (nI b), .int (nI j)]) (rest := []) (c_M_sees l D ty L ad _ a dn pn en qn mz nw lo tr b j fo hM hb6 hj8 hfo hfo4 hw) ⟨hx, hb, hml, hown, hts⟩ (cwV 2 hts gX9_read_X9_sees rfl rfl rfl (by decide +kernel) ⟨Nat.le_of_ble_eq_true rfl, Nat.le_of_ble_eq_true rfl⟩) hB (hL 1000 (by decide)) h_1000 rfl rfl hl.1 rfl (Nat.le_of_ble_eq_true rfl) dX9_read_21 ⟨Nat.le_of_ble_eq_true rfl, Nat.le_of_ble_eq_true rfl⟩ (fun H locs hB => ?_)
  refine b_if_ne_t 30 hx hb dX9_read_24 (by decide) (by rw [hs]; decide) ?_
  refine lv_aload_n hx hb dX9_read_30 rfl (lv_at hl 0 rfl) ?_
  refine lv_iload_n hx hb dX9_read_31 rfl (lv_at hl 1 rfl) ?_
  refine lv_iload_n hx hb dX9_read_32 rfl (lv_at hl 2 rfl) ?_
  refine lv_iload_n hx hb dX9_read_33 rfl (lv_at hl 3 rfl) ?_
  refine m_callV (ci := 9) (As := [.int (nI b), .int (nI j), .int (nI k0)]) (rest := []) (c_M_makes_f l D ty L ad _ a dn pn en qn mz nw lo tr (nI b) j k0 n f hM hj8 (by omega) hsz hn40 hf hkd) ⟨hx, hb, hml, hown, hts⟩ (cwV 3 hts gX9_read_X9_makes rfl rfl rfl (by decide +kernel) ⟨Nat.le_of_ble_eq_true rfl, Nat.le_of_ble_eq_true rfl⟩) hB (hL 1000 (by decide)) h_1000 rfl rfl hl.1 rfl (Nat.le_of_ble_eq_true rfl) dX9_read_34 ⟨Nat.le_of_ble_eq_true rfl, Nat.le_of_ble_eq_true rfl⟩ (fun v134 L134 ad_134 g134 H locs hp134 hB => ?_)
  obtain ⟨q1_134, q2_134, q3_134, hfr_134, hM_134⟩ := hp134
  rw [q2_134, q3_134] at hB
  obtain ⟨_, f134_1000, f134_1002, f134_1004, f134_1005, f134_1007, f134_1008, f134_1009, f134_1010, f134_1011, f134_1012, f134_1013, f134_1014, f134_1015, f134_1016, f134_1019, f134_1020, f134_1021, f134_1022, f134_1024, f134_1025, f134_1026, f134_1027, f134_1028, f134_1029, f134_1030, f134_1032⟩ := id hM_134
  refine W.eq (g2 := F0 m 37 ls []) (by rw [q1_134]; rfl) ?_
  refine lv_aload_n hx hb dX9_read_37 rfl (lv_at hl 0 rfl) ?_
  refine m_get (C := RX9) (T := TX9) (N := 33) (ci := 9) hx hb hts in_X9_read_X9 hown hB (hL 1000 (by decide)) f134_1000 rfl 14 (by decide) (hts (.fieldLink RX9 44 "PaperRoomModel" "viewSize" "[I") (by decide +kernel)) (fun _ h9 => h9) rfl dX9_read_38 ?_
  refine lv_iload_n hx hb dX9_read_41 rfl (lv_at hl 1 rfl) ?_
  refine lv_aload_n hx hb dX9_read_42 rfl (lv_at hl 0 rfl) ?_
  refine m_get (C := RX9) (T := TX9) (N := 33) (ci := 9) hx hb hts in_X9_read_X9 hown hB (hL 1000 (by decide)) f134_1000 rfl 32 (by decide) (hts (.fieldLink RX9 127 "PaperRoomModel" "madeSize" "I") (by decide +kernel)) (fun _ h9 => h9) rfl dX9_read_43 ?_
  refine n_iast hx hb hB (hL 1015 (by decide)) f134_1015 b rfl (by omega) (by omega) dX9_read_46 (fun H locs hB => ?_)
  replace hB : m_B D ty A s L ad (va_up g134 1015 (.inl (ty 0, 6, .inl (upd ((va_up a 31 (mkF false (nI b) f (a 31) n)) 14) b (nI (mkN false (nI b) f n)))))) H locs := hB
  refine lv_iconst (v := 0) hx hb dX9_read_47 (by decide) ?_
  refine lv_istore (lv' := [(4, .int 0), (0, .ref (ad 1000)), (1, .int (nI b)), (2, .int (nI j)), (3, .int (nI k0))]) hx hb dX9_read_48 hl (by decide) rfl (fun ls hl => ?_)
  obtain ⟨gB, hgB⟩ : ∃ z, z = (va_up g134 1015 (.inl (ty 0, 6, .inl (upd ((va_up a 31 (mkF false (nI b) f (a 31) n)) 14) b (nI (mkN false (nI b) f n)))))) := ⟨_, rfl⟩
  rw [← hgB] at hB
  have FgB_1000 : gB 1000 = .inr (9, [.int (nI dn), .ref (ad 1002), .int nw, .ref (ad 1004), .ref (ad 1005), .int (nI pn), .ref (ad 1007), .ref (ad 1008), .ref (ad 1009), .ref (ad 1010), .ref (ad 1011), .ref (ad 1012), .ref (ad 1013), .ref (ad 1014), .ref (ad 1015), .ref (ad 1016), .int (nI en), .int lo, .ref (ad 1019), .ref (ad 1020), .ref (ad 1021), .ref (ad 1022), .int (nI qn), .ref (ad 1024), .ref (ad 1025), .ref (ad 1026), .ref (ad 1027), .ref (ad 1028), .ref (ad 1029), .ref (ad 1030), .long tr, .ref (ad 1032), .int (nI (mkN false (nI b) f n))]) := by rw [hgB]; exact ((va_up_ne _ _ (by decide)).trans f134_1000)
  have FgB_1002 : gB 1002 = .inl (ty 0, 40, .inl ((va_up a 31 (mkF false (nI b) f (a 31) n)) 1)) := by rw [hgB]; exact ((va_up_ne _ _ (by decide)).trans f134_1002)
  have FgB_1004 : gB 1004 = .inl (ty 0, 12, .inl ((va_up a 31 (mkF false (nI b) f (a 31) n)) 3)) := by rw [hgB]; exact ((va_up_ne _ _ (by decide)).trans f134_1004)
  have FgB_1005 : gB 1005 = .inl (ty 0, 12, .inl ((va_up a 31 (mkF false (nI b) f (a 31) n)) 4)) := by rw [hgB]; exact ((va_up_ne _ _ (by decide)).trans f134_1005)
  have FgB_1007 : gB 1007 = .inl (ty 0, 8, .inl ((va_up a 31 (mkF false (nI b) f (a 31) n)) 6)) := by rw [hgB]; exact ((va_up_ne _ _ (by decide)).trans f134_1007)
  have FgB_1008 : gB 1008 = .inl (ty 0, 8, .inl ((va_up a 31 (mkF false (nI b) f (a 31) n)) 7)) := by rw [hgB]; exact ((va_up_ne _ _ (by decide)).trans f134_1008)
  have FgB_1009 : gB 1009 = .inl (ty 0, 8, .inl ((va_up a 31 (mkF false (nI b) f (a 31) n)) 8)) := by rw [hgB]; exact ((va_up_ne _ _ (by decide)).trans f134_1009)
  have FgB_1010 : gB 1010 = .inl (ty 3, 8, .inl ((va_up a 31 (mkF false (nI b) f (a 31) n)) 9)) := by rw [hgB]; exact ((va_up_ne _ _ (by decide)).trans f134_1010)
  have FgB_1011 : gB 1011 = .inl (ty 0, 8, .inl ((va_up a 31 (mkF false (nI b) f (a 31) n)) 10)) := by rw [hgB]; exact ((va_up_ne _ _ (by decide)).trans f134_1011)
  have FgB_1012 : gB 1012 = .inl (ty 0, 32, .inl ((va_up a 31 (mkF false (nI b) f (a 31) n)) 11)) := by rw [hgB]; exact ((va_up_ne _ _ (by decide)).trans f134_1012)
  have FgB_1013 : gB 1013 = .inl (ty 0, 1280, .inl ((va_up a 31 (mkF false (nI b) f (a 31) n)) 12)) := by rw [hgB]; exact ((va_up_ne _ _ (by decide)).trans f134_1013)
  have FgB_1014 : gB 1014 = .inl (ty 3, 1280, .inl ((va_up a 31 (mkF false (nI b) f (a 31) n)) 13)) := by rw [hgB]; exact ((va_up_ne _ _ (by decide)).trans f134_1014)
  have FgB_1015 : gB 1015 = .inl (ty 0, 6, .inl (upd ((va_up a 31 (mkF false (nI b) f (a 31) n)) 14) b (nI (mkN false (nI b) f n)))) := by rw [hgB]; exact (va_up_self _ _ _)
  have FgB_1016 : gB 1016 = .inl (ty 0, 480, .inl ((va_up a 31 (mkF false (nI b) f (a 31) n)) 15)) := by rw [hgB]; exact ((va_up_ne _ _ (by decide)).trans f134_1016)
  have FgB_1019 : gB 1019 = .inl (ty 0, 200, .inl ((va_up a 31 (mkF false (nI b) f (a 31) n)) 18)) := by rw [hgB]; exact ((va_up_ne _ _ (by decide)).trans f134_1019)
  have FgB_1020 : gB 1020 = .inl (ty 0, 200, .inl ((va_up a 31 (mkF false (nI b) f (a 31) n)) 19)) := by rw [hgB]; exact ((va_up_ne _ _ (by decide)).trans f134_1020)
  have FgB_1021 : gB 1021 = .inl (ty 0, 200, .inl ((va_up a 31 (mkF false (nI b) f (a 31) n)) 20)) := by rw [hgB]; exact ((va_up_ne _ _ (by decide)).trans f134_1021)
  have FgB_1022 : gB 1022 = .inl (ty 0, 200, .inl ((va_up a 31 (mkF false (nI b) f (a 31) n)) 21)) := by rw [hgB]; exact ((va_up_ne _ _ (by decide)).trans f134_1022)
  have FgB_1024 : gB 1024 = .inl (ty 0, 30, .inl ((va_up a 31 (mkF false (nI b) f (a 31) n)) 23)) := by rw [hgB]; exact ((va_up_ne _ _ (by decide)).trans f134_1024)
  have FgB_1025 : gB 1025 = .inl (ty 0, 30, .inl ((va_up a 31 (mkF false (nI b) f (a 31) n)) 24)) := by rw [hgB]; exact ((va_up_ne _ _ (by decide)).trans f134_1025)
  have FgB_1026 : gB 1026 = .inl (ty 0, 30, .inl ((va_up a 31 (mkF false (nI b) f (a 31) n)) 25)) := by rw [hgB]; exact ((va_up_ne _ _ (by decide)).trans f134_1026)
  have FgB_1027 : gB 1027 = .inl (ty 0, 30, .inl ((va_up a 31 (mkF false (nI b) f (a 31) n)) 26)) := by rw [hgB]; exact ((va_up_ne _ _ (by decide)).trans f134_1027)
  have FgB_1028 : gB 1028 = .inl (ty 0, 30, .inl ((va_up a 31 (mkF false (nI b) f (a 31) n)) 27)) := by rw [hgB]; exact ((va_up_ne _ _ (by decide)).trans f134_1028)
  have FgB_1029 : gB 1029 = .inl (ty 0, 6, .inl ((va_up a 31 (mkF false (nI b) f (a 31) n)) 28)) := by rw [hgB]; exact ((va_up_ne _ _ (by decide)).trans f134_1029)
  have FgB_1030 : gB 1030 = .inl (ty 0, 6, .inl ((va_up a 31 (mkF false (nI b) f (a 31) n)) 29)) := by rw [hgB]; exact ((va_up_ne _ _ (by decide)).trans f134_1030)
  have FgB_1032 : gB 1032 = .inl (ty 0, 80, .inl ((va_up a 31 (mkF false (nI b) f (a 31) n)) 31)) := by rw [hgB]; exact ((va_up_ne _ _ (by decide)).trans f134_1032)
  have RgB : ∀ x, x < 1000 → gB x = g x := by intro x hx; rw [hgB]; exact ((va_up_ne _ _ (by omega)).trans ((hfr_134 x hx).trans rfl))
  have tI_N : (nI (mkN false (nI b) f n)).toInt = ((mkN false (nI b) f n) : Int) := nI_toInt (by omega)
  replace hl : lv_has ls 5 [(0, .ref (ad 1000)), (1, .int (nI b)), (2, .int (nI j)), (3, .int (nI k0)), (4, .int 0)] := lv_sub hl [1, 2, 3, 4, 0] rfl
  obtain ⟨k, hk0⟩ : ∃ k : Nat, k = 0 := ⟨0, rfl⟩
  replace hB : m_B D ty A s L ad (va_up gB 1016 (.inl (ty 0, 480, .inl (pb (a 15) (mkF false (nI b) f (a 31) n) (80 * b) k)))) H locs := by
    rw [hk0]
    show m_B D ty A s L ad (va_up gB 1016 (.inl (ty 0, 480, .inl (a 15)))) H locs; rw [up_same (f := gB) (k := 1016) (v := .inl (ty 0, 480, .inl (a 15))) FgB_1016]; exact hB
  replace hl : lv_has ls 5 [(0, .ref (ad 1000)), (1, .int (nI b)), (2, .int (nI j)), (3, .int (nI k0)), (4, .int (nI k))] := by rw [hk0]; exact hl
  obtain ⟨jz, hj⟩ : ∃ jz : Nat, k + jz = (mkN false (nI b) f n) := ⟨(mkN false (nI b) f n) - k, by omega⟩
  clear hk0
  induction jz generalizing k H locs ls with
  | zero =>
    have hje : k = (mkN false (nI b) f n) := by omega
    have tI_k : (nI k).toInt = (k : Int) := nI_toInt (by omega)
    refine lv_iload hx hb dX9_read_50 (lv_at hl 4 rfl) ?_
    refine lv_aload_n hx hb dX9_read_52 rfl (lv_at hl 0 rfl) ?_
    refine m_get (C := RX9) (T := TX9) (N := 33) (ci := 9) hx hb hts in_X9_read_X9 hown hB (hL 1000 (by decide)) ((va_up_ne _ _ (by decide)).trans FgB_1000) rfl 32 (by decide) (hts (.fieldLink RX9 127 "PaperRoomModel" "madeSize" "I") (by decide +kernel)) (fun _ h9 => h9) rfl dX9_read_53 ?_
    refine b_icmp_ge_t 84 hx hb dX9_read_56 (by decide) (by omega) ?_
    subst hje
    refine lv_aload_n hx hb dX9_read_84 rfl (lv_at hl 0 rfl) ?_
    refine m_get (C := RX9) (T := TX9) (N := 33) (ci := 9) hx hb hts in_X9_read_X9 hown hB (hL 1000 (by decide)) ((va_up_ne _ _ (by decide)).trans FgB_1000) rfl 16 (by decide) (hts (.fieldLink RX9 134 "PaperRoomModel" "entries" "I") (by decide +kernel)) (fun _ h9 => h9) rfl dX9_read_85 ?_
    refine lv_sipush (v := 200) hx hb dX9_read_88 (by decide) ?_
    refine b_icmp_ne_t 107 hx hb dX9_read_91 (by decide) (by rw [nI_toInt (by omega), show (200 : Int32).toInt = 200 by decide]; omega) ?_
    refine lv_aload_n hx hb dX9_read_107 rfl (lv_at hl 0 rfl) ?_
    refine m_get (C := RX9) (T := TX9) (N := 33) (ci := 9) hx hb hts in_X9_read_X9 hown hB (hL 1000 (by decide)) ((va_up_ne _ _ (by decide)).trans FgB_1000) rfl 18 (by decide) (hts (.fieldLink RX9 50 "PaperRoomModel" "entryTick" "[I") (by decide +kernel)) (fun _ h9 => h9) rfl dX9_read_108 ?_
    refine lv_aload_n hx hb dX9_read_111 rfl (lv_at hl 0 rfl) ?_
    refine m_get (C := RX9) (T := TX9) (N := 33) (ci := 9) hx hb hts in_X9_read_X9 hown hB (hL 1000 (by decide)) ((va_up_ne _ _ (by decide)).trans FgB_1000) rfl 16 (by decide) (hts (.fieldLink RX9 134 "PaperRoomModel" "entries" "I") (by decide +kernel)) (fun _ h9 => h9) rfl dX9_read_112 ?_
    refine lv_aload_n hx hb dX9_read_115 rfl (lv_at hl 0 rfl) ?_
    refine m_get (C := RX9) (T := TX9) (N := 33) (ci := 9) hx hb hts in_X9_read_X9 hown hB (hL 1000 (by decide)) ((va_up_ne _ _ (by decide)).trans FgB_1000) rfl 2 (by decide) (hts (.fieldLink RX9 86 "PaperRoomModel" "now" "I") (by decide +kernel)) (fun _ h9 => h9) rfl dX9_read_116 ?_
    refine n_iast hx hb hB (hL 1019 (by decide)) ((va_up_ne _ _ (by decide)).trans FgB_1019) en rfl (by omega) (by omega) dX9_read_119 (fun H locs hB => ?_)
    replace hB : m_B D ty A s L ad (va_up (va_up gB 1016 (.inl (ty 0, 480, .inl (pb (a 15) (mkF false (nI b) f (a 31) n) (80 * b) (mkN false (nI b) f n))))) 1019 (.inl (ty 0, 200, .inl (upd ((va_up a 31 (mkF false (nI b) f (a 31) n)) 18) en nw)))) H locs := hB
    refine lv_aload_n hx hb dX9_read_120 rfl (lv_at hl 0 rfl) ?_
    refine m_get (C := RX9) (T := TX9) (N := 33) (ci := 9) hx hb hts in_X9_read_X9 hown hB (hL 1000 (by decide)) ((va_up_ne _ _ (by decide)).trans ((va_up_ne _ _ (by decide)).trans FgB_1000)) rfl 19 (by decide) (hts (.fieldLink RX9 53 "PaperRoomModel" "entryBidder" "[I") (by decide +kernel)) (fun _ h9 => h9) rfl dX9_read_121 ?_
    refine lv_aload_n hx hb dX9_read_124 rfl (lv_at hl 0 rfl) ?_
    refine m_get (C := RX9) (T := TX9) (N := 33) (ci := 9) hx hb hts in_X9_read_X9 hown hB (hL 1000 (by decide)) ((va_up_ne _ _ (by decide)).trans ((va_up_ne _ _ (by decide)).trans FgB_1000)) rfl 16 (by decide) (hts (.fieldLink RX9 134 "PaperRoomModel" "entries" "I") (by decide +kernel)) (fun _ h9 => h9) rfl dX9_read_125 ?_
    refine lv_iload_n hx hb dX9_read_128 rfl (lv_at hl 1 rfl) ?_
    refine n_iast hx hb hB (hL 1020 (by decide)) ((va_up_ne _ _ (by decide)).trans ((va_up_ne _ _ (by decide)).trans FgB_1020)) en rfl (by omega) (by omega) dX9_read_129 (fun H locs hB => ?_)
    replace hB : m_B D ty A s L ad (va_up (va_up (va_up gB 1016 (.inl (ty 0, 480, .inl (pb (a 15) (mkF false (nI b) f (a 31) n) (80 * b) (mkN false (nI b) f n))))) 1019 (.inl (ty 0, 200, .inl (upd ((va_up a 31 (mkF false (nI b) f (a 31) n)) 18) en nw)))) 1020 (.inl (ty 0, 200, .inl (upd ((va_up a 31 (mkF false (nI b) f (a 31) n)) 19) en (nI b))))) H locs := hB
    refine lv_aload_n hx hb dX9_read_130 rfl (lv_at hl 0 rfl) ?_
    refine m_get (C := RX9) (T := TX9) (N := 33) (ci := 9) hx hb hts in_X9_read_X9 hown hB (hL 1000 (by decide)) ((va_up_ne _ _ (by decide)).trans ((va_up_ne _ _ (by decide)).trans ((va_up_ne _ _ (by decide)).trans FgB_1000))) rfl 20 (by decide) (hts (.fieldLink RX9 56 "PaperRoomModel" "entryPaper" "[I") (by decide +kernel)) (fun _ h9 => h9) rfl dX9_read_131 ?_
    refine lv_aload_n hx hb dX9_read_134 rfl (lv_at hl 0 rfl) ?_
    refine m_get (C := RX9) (T := TX9) (N := 33) (ci := 9) hx hb hts in_X9_read_X9 hown hB (hL 1000 (by decide)) ((va_up_ne _ _ (by decide)).trans ((va_up_ne _ _ (by decide)).trans ((va_up_ne _ _ (by decide)).trans FgB_1000))) rfl 16 (by decide) (hts (.fieldLink RX9 134 "PaperRoomModel" "entries" "I") (by decide +kernel)) (fun _ h9 => h9) rfl dX9_read_135 ?_
    refine lv_iload_n hx hb dX9_read_138 rfl (lv_at hl 2 rfl) ?_
    refine n_iast hx hb hB (hL 1021 (by decide)) ((va_up_ne _ _ (by decide)).trans ((va_up_ne _ _ (by decide)).trans ((va_up_ne _ _ (by decide)).trans FgB_1021))) en rfl (by omega) (by omega) dX9_read_139 (fun H locs hB => ?_)
    replace hB : m_B D ty A s L ad (va_up (va_up (va_up (va_up gB 1016 (.inl (ty 0, 480, .inl (pb (a 15) (mkF false (nI b) f (a 31) n) (80 * b) (mkN false (nI b) f n))))) 1019 (.inl (ty 0, 200, .inl (upd ((va_up a 31 (mkF false (nI b) f (a 31) n)) 18) en nw)))) 1020 (.inl (ty 0, 200, .inl (upd ((va_up a 31 (mkF false (nI b) f (a 31) n)) 19) en (nI b))))) 1021 (.inl (ty 0, 200, .inl (upd ((va_up a 31 (mkF false (nI b) f (a 31) n)) 20) en (nI j))))) H locs := hB
    refine lv_aload_n hx hb dX9_read_140 rfl (lv_at hl 0 rfl) ?_
    refine m_get (C := RX9) (T := TX9) (N := 33) (ci := 9) hx hb hts in_X9_read_X9 hown hB (hL 1000 (by decide)) ((va_up_ne _ _ (by decide)).trans ((va_up_ne _ _ (by decide)).trans ((va_up_ne _ _ (by decide)).trans ((va_up_ne _ _ (by decide)).trans FgB_1000)))) rfl 21 (by decide) (hts (.fieldLink RX9 59 "PaperRoomModel" "entryVersion" "[I") (by decide +kernel)) (fun _ h9 => h9) rfl dX9_read_141 ?_
    refine lv_aload_n hx hb dX9_read_144 rfl (lv_at hl 0 rfl) ?_
    refine m_get (C := RX9) (T := TX9) (N := 33) (ci := 9) hx hb hts in_X9_read_X9 hown hB (hL 1000 (by decide)) ((va_up_ne _ _ (by decide)).trans ((va_up_ne _ _ (by decide)).trans ((va_up_ne _ _ (by decide)).trans ((va_up_ne _ _ (by decide)).trans FgB_1000)))) rfl 16 (by decide) (hts (.fieldLink RX9 134 "PaperRoomModel" "entries" "I") (by decide +kernel)) (fun _ h9 => h9) rfl dX9_read_145 ?_
    refine lv_iload_n hx hb dX9_read_148 rfl (lv_at hl 3 rfl) ?_
    refine n_iast hx hb hB (hL 1022 (by decide)) ((va_up_ne _ _ (by decide)).trans ((va_up_ne _ _ (by decide)).trans ((va_up_ne _ _ (by decide)).trans ((va_up_ne _ _ (by decide)).trans FgB_1022)))) en rfl (by omega) (by omega) dX9_read_149 (fun H locs hB => ?_)
    replace hB : m_B D ty A s L ad (va_up (va_up (va_up (va_up (va_up gB 1016 (.inl (ty 0, 480, .inl (pb (a 15) (mkF false (nI b) f (a 31) n) (80 * b) (mkN false (nI b) f n))))) 1019 (.inl (ty 0, 200, .inl (upd ((va_up a 31 (mkF false (nI b) f (a 31) n)) 18) en nw)))) 1020 (.inl (ty 0, 200, .inl (upd ((va_up a 31 (mkF false (nI b) f (a 31) n)) 19) en (nI b))))) 1021 (.inl (ty 0, 200, .inl (upd ((va_up a 31 (mkF false (nI b) f (a 31) n)) 20) en (nI j))))) 1022 (.inl (ty 0, 200, .inl (upd ((va_up a 31 (mkF false (nI b) f (a 31) n)) 21) en (nI k0))))) H locs := hB
    refine lv_aload_n hx hb dX9_read_150 rfl (lv_at hl 0 rfl) ?_
    refine lv_dup hx hb dX9_read_151 rfl ?_
    refine m_get (C := RX9) (T := TX9) (N := 33) (ci := 9) hx hb hts in_X9_read_X9 hown hB (hL 1000 (by decide)) ((va_up_ne _ _ (by decide)).trans ((va_up_ne _ _ (by decide)).trans ((va_up_ne _ _ (by decide)).trans ((va_up_ne _ _ (by decide)).trans ((va_up_ne _ _ (by decide)).trans FgB_1000))))) rfl 16 (by decide) (hts (.fieldLink RX9 134 "PaperRoomModel" "entries" "I") (by decide +kernel)) (fun _ h9 => h9) rfl dX9_read_152 ?_
    refine lv_iconst (v := 1) hx hb dX9_read_155 (by decide) ?_
    refine lv_iadd hx hb dX9_read_156 ?_
    refine b_topi (w := nI (en + 1)) (nI_add en 1) ?_
    refine m_put (C := RX9) (T := TX9) (N := 33) (ci := 9) (v := .int (nI (en + 1))) (ft := .int) hx hb hts in_X9_read_X9 tyX9 tyX9_ok nmX9 hown hB (hL 1000 (by decide)) ((va_up_ne _ _ (by decide)).trans ((va_up_ne _ _ (by decide)).trans ((va_up_ne _ _ (by decide)).trans ((va_up_ne _ _ (by decide)).trans ((va_up_ne _ _ (by decide)).trans FgB_1000))))) rfl 16 (by decide) (hts (.fieldLink RX9 134 "PaperRoomModel" "entries" "I") (by decide +kernel)) (fun _ h9 => h9) rfl (by decide +kernel) rfl rfl (Nat.le_of_ble_eq_true rfl) dX9_read_157 (fun H locs hB => ?_)
    replace hB : m_B D ty A s L ad (va_up (va_up (va_up (va_up (va_up (va_up gB 1016 (.inl (ty 0, 480, .inl (pb (a 15) (mkF false (nI b) f (a 31) n) (80 * b) (mkN false (nI b) f n))))) 1019 (.inl (ty 0, 200, .inl (upd ((va_up a 31 (mkF false (nI b) f (a 31) n)) 18) en nw)))) 1020 (.inl (ty 0, 200, .inl (upd ((va_up a 31 (mkF false (nI b) f (a 31) n)) 19) en (nI b))))) 1021 (.inl (ty 0, 200, .inl (upd ((va_up a 31 (mkF false (nI b) f (a 31) n)) 20) en (nI j))))) 1022 (.inl (ty 0, 200, .inl (upd ((va_up a 31 (mkF false (nI b) f (a 31) n)) 21) en (nI k0))))) 1000 (.inr (9, [.int (nI dn), .ref (ad 1002), .int nw, .ref (ad 1004), .ref (ad 1005), .int (nI pn), .ref (ad 1007), .ref (ad 1008), .ref (ad 1009), .ref (ad 1010), .ref (ad 1011), .ref (ad 1012), .ref (ad 1013), .ref (ad 1014), .ref (ad 1015), .ref (ad 1016), .int (nI (en + 1)), .int lo, .ref (ad 1019), .ref (ad 1020), .ref (ad 1021), .ref (ad 1022), .int (nI qn), .ref (ad 1024), .ref (ad 1025), .ref (ad 1026), .ref (ad 1027), .ref (ad 1028), .ref (ad 1029), .ref (ad 1030), .long tr, .ref (ad 1032), .int (nI (mkN false (nI b) f n))]))) H locs := hB
    refine lv_aload_n hx hb dX9_read_160 rfl (lv_at hl 0 rfl) ?_
    refine m_get (C := RX9) (T := TX9) (N := 33) (ci := 9) hx hb hts in_X9_read_X9 hown hB (hL 1000 (by decide)) (va_up_self _ _ _) rfl 32 (by decide) (hts (.fieldLink RX9 127 "PaperRoomModel" "madeSize" "I") (by decide +kernel)) (fun _ h9 => h9) rfl dX9_read_161 ?_
    exact m_iret hx hb hrt hlocks hB (Nat.le_refl _) (Nat.le_refl _) dX9_read_164 ⟨rfl, rfl, rfl, (fun x hx => ((va_up_ne _ _ (by omega)).trans ((va_up_ne _ _ (by omega)).trans ((va_up_ne _ _ (by omega)).trans ((va_up_ne _ _ (by omega)).trans ((va_up_ne _ _ (by omega)).trans ((va_up_ne _ _ (by omega)).trans (RgB x hx)))))))), ⟨hL, (va_up_self _ _ _), ((va_up_ne _ _ (by decide)).trans ((va_up_ne _ _ (by decide)).trans ((va_up_ne _ _ (by decide)).trans ((va_up_ne _ _ (by decide)).trans ((va_up_ne _ _ (by decide)).trans ((va_up_ne _ _ (by decide)).trans FgB_1002)))))), ((va_up_ne _ _ (by decide)).trans ((va_up_ne _ _ (by decide)).trans ((va_up_ne _ _ (by decide)).trans ((va_up_ne _ _ (by decide)).trans ((va_up_ne _ _ (by decide)).trans ((va_up_ne _ _ (by decide)).trans FgB_1004)))))), ((va_up_ne _ _ (by decide)).trans ((va_up_ne _ _ (by decide)).trans ((va_up_ne _ _ (by decide)).trans ((va_up_ne _ _ (by decide)).trans ((va_up_ne _ _ (by decide)).trans ((va_up_ne _ _ (by decide)).trans FgB_1005)))))), ((va_up_ne _ _ (by decide)).trans ((va_up_ne _ _ (by decide)).trans ((va_up_ne _ _ (by decide)).trans ((va_up_ne _ _ (by decide)).trans ((va_up_ne _ _ (by decide)).trans ((va_up_ne _ _ (by decide)).trans FgB_1007)))))), ((va_up_ne _ _ (by decide)).trans ((va_up_ne _ _ (by decide)).trans ((va_up_ne _ _ (by decide)).trans ((va_up_ne _ _ (by decide)).trans ((va_up_ne _ _ (by decide)).trans ((va_up_ne _ _ (by decide)).trans FgB_1008)))))), ((va_up_ne _ _ (by decide)).trans ((va_up_ne _ _ (by decide)).trans ((va_up_ne _ _ (by decide)).trans ((va_up_ne _ _ (by decide)).trans ((va_up_ne _ _ (by decide)).trans ((va_up_ne _ _ (by decide)).trans FgB_1009)))))), ((va_up_ne _ _ (by decide)).trans ((va_up_ne _ _ (by decide)).trans ((va_up_ne _ _ (by decide)).trans ((va_up_ne _ _ (by decide)).trans ((va_up_ne _ _ (by decide)).trans ((va_up_ne _ _ (by decide)).trans FgB_1010)))))), ((va_up_ne _ _ (by decide)).trans ((va_up_ne _ _ (by decide)).trans ((va_up_ne _ _ (by decide)).trans ((va_up_ne _ _ (by decide)).trans ((va_up_ne _ _ (by decide)).trans ((va_up_ne _ _ (by decide)).trans FgB_1011)))))), ((va_up_ne _ _ (by decide)).trans ((va_up_ne _ _ (by decide)).trans ((va_up_ne _ _ (by decide)).trans ((va_up_ne _ _ (by decide)).trans ((va_up_ne _ _ (by decide)).trans ((va_up_ne _ _ (by decide)).trans FgB_1012)))))), ((va_up_ne _ _ (by decide)).trans ((va_up_ne _ _ (by decide)).trans ((va_up_ne _ _ (by decide)).trans ((va_up_ne _ _ (by decide)).trans ((va_up_ne _ _ (by decide)).trans ((va_up_ne _ _ (by decide)).trans FgB_1013)))))), ((va_up_ne _ _ (by decide)).trans ((va_up_ne _ _ (by decide)).trans ((va_up_ne _ _ (by decide)).trans ((va_up_ne _ _ (by decide)).trans ((va_up_ne _ _ (by decide)).trans ((va_up_ne _ _ (by decide)).trans FgB_1014)))))), ((va_up_ne _ _ (by decide)).trans ((va_up_ne _ _ (by decide)).trans ((va_up_ne _ _ (by decide)).trans ((va_up_ne _ _ (by decide)).trans ((va_up_ne _ _ (by decide)).trans ((va_up_ne _ _ (by decide)).trans FgB_1015)))))), ((va_up_ne _ _ (by decide)).trans ((va_up_ne _ _ (by decide)).trans ((va_up_ne _ _ (by decide)).trans ((va_up_ne _ _ (by decide)).trans ((va_up_ne _ _ (by decide)).trans (va_up_self _ _ _)))))), ((va_up_ne _ _ (by decide)).trans ((va_up_ne _ _ (by decide)).trans ((va_up_ne _ _ (by decide)).trans ((va_up_ne _ _ (by decide)).trans (va_up_self _ _ _))))), ((va_up_ne _ _ (by decide)).trans ((va_up_ne _ _ (by decide)).trans ((va_up_ne _ _ (by decide)).trans (va_up_self _ _ _)))), ((va_up_ne _ _ (by decide)).trans ((va_up_ne _ _ (by decide)).trans (va_up_self _ _ _))), ((va_up_ne _ _ (by decide)).trans (va_up_self _ _ _)), ((va_up_ne _ _ (by decide)).trans ((va_up_ne _ _ (by decide)).trans ((va_up_ne _ _ (by decide)).trans ((va_up_ne _ _ (by decide)).trans ((va_up_ne _ _ (by decide)).trans ((va_up_ne _ _ (by decide)).trans FgB_1024)))))), ((va_up_ne _ _ (by decide)).trans ((va_up_ne _ _ (by decide)).trans ((va_up_ne _ _ (by decide)).trans ((va_up_ne _ _ (by decide)).trans ((va_up_ne _ _ (by decide)).trans ((va_up_ne _ _ (by decide)).trans FgB_1025)))))), ((va_up_ne _ _ (by decide)).trans ((va_up_ne _ _ (by decide)).trans ((va_up_ne _ _ (by decide)).trans ((va_up_ne _ _ (by decide)).trans ((va_up_ne _ _ (by decide)).trans ((va_up_ne _ _ (by decide)).trans FgB_1026)))))), ((va_up_ne _ _ (by decide)).trans ((va_up_ne _ _ (by decide)).trans ((va_up_ne _ _ (by decide)).trans ((va_up_ne _ _ (by decide)).trans ((va_up_ne _ _ (by decide)).trans ((va_up_ne _ _ (by decide)).trans FgB_1027)))))), ((va_up_ne _ _ (by decide)).trans ((va_up_ne _ _ (by decide)).trans ((va_up_ne _ _ (by decide)).trans ((va_up_ne _ _ (by decide)).trans ((va_up_ne _ _ (by decide)).trans ((va_up_ne _ _ (by decide)).trans FgB_1028)))))), ((va_up_ne _ _ (by decide)).trans ((va_up_ne _ _ (by decide)).trans ((va_up_ne _ _ (by decide)).trans ((va_up_ne _ _ (by decide)).trans ((va_up_ne _ _ (by decide)).trans ((va_up_ne _ _ (by decide)).trans FgB_1029)))))), ((va_up_ne _ _ (by decide)).trans ((va_up_ne _ _ (by decide)).trans ((va_up_ne _ _ (by decide)).trans ((va_up_ne _ _ (by decide)).trans ((va_up_ne _ _ (by decide)).trans ((va_up_ne _ _ (by decide)).trans FgB_1030)))))), ((va_up_ne _ _ (by decide)).trans ((va_up_ne _ _ (by decide)).trans ((va_up_ne _ _ (by decide)).trans ((va_up_ne _ _ (by decide)).trans ((va_up_ne _ _ (by decide)).trans ((va_up_ne _ _ (by decide)).trans FgB_1032))))))⟩⟩
  | succ jz ihj =>
    have hjl : k < (mkN false (nI b) f n) := by omega
    have tI_k : (nI k).toInt = (k : Int) := nI_toInt (by omega)
    refine lv_iload hx hb dX9_read_50 (lv_at hl 4 rfl) ?_
    refine lv_aload_n hx hb dX9_read_52 rfl (lv_at hl 0 rfl) ?_
    refine m_get (C := RX9) (T := TX9) (N := 33) (ci := 9) hx hb hts in_X9_read_X9 hown hB (hL 1000 (by decide)) ((va_up_ne _ _ (by decide)).trans FgB_1000) rfl 32 (by decide) (hts (.fieldLink RX9 127 "PaperRoomModel" "madeSize" "I") (by decide +kernel)) (fun _ h9 => h9) rfl dX9_read_53 ?_
    refine b_icmp_ge_f 84 hx hb dX9_read_56 (by decide) (by omega) ?_
    refine lv_aload_n hx hb dX9_read_59 rfl (lv_at hl 0 rfl) ?_
    refine m_get (C := RX9) (T := TX9) (N := 33) (ci := 9) hx hb hts in_X9_read_X9 hown hB (hL 1000 (by decide)) ((va_up_ne _ _ (by decide)).trans FgB_1000) rfl 15 (by decide) (hts (.fieldLink RX9 47 "PaperRoomModel" "view" "[I") (by decide +kernel)) (fun _ h9 => h9) rfl dX9_read_60 ?_
    refine lv_bipush (v := 80) hx hb dX9_read_63 (by decide) ?_
    refine lv_iload_n hx hb dX9_read_65 rfl (lv_at hl 1 rfl) ?_
    refine lv_imul hx hb dX9_read_66 ?_
    refine b_topi (w := nI (80 * b)) (pk_mul 80 b) ?_
    refine lv_iload hx hb dX9_read_67 (lv_at hl 4 rfl) ?_
    refine lv_iadd hx hb dX9_read_69 ?_
    refine b_topi (w := nI ((80 * b) + k)) (nI_add (80 * b) k) ?_
    refine lv_aload_n hx hb dX9_read_70 rfl (lv_at hl 0 rfl) ?_
    refine m_get (C := RX9) (T := TX9) (N := 33) (ci := 9) hx hb hts in_X9_read_X9 hown hB (hL 1000 (by decide)) ((va_up_ne _ _ (by decide)).trans FgB_1000) rfl 31 (by decide) (hts (.fieldLink RX9 83 "PaperRoomModel" "made" "[I") (by decide +kernel)) (fun _ h9 => h9) rfl dX9_read_71 ?_
    refine lv_iload hx hb dX9_read_74 (lv_at hl 4 rfl) ?_
    refine n_iald hx hb hB (hL 1032 (by decide)) ((va_up_ne _ _ (by decide)).trans FgB_1032) k rfl (by omega) (by omega) dX9_read_76 ?_
    refine n_iast hx hb hB (hL 1016 (by decide)) (va_up_self _ _ _) ((80 * b) + k) rfl (by omega) (by omega) dX9_read_77 (fun H locs hB => ?_)
    replace hB : m_B D ty A s L ad (va_up (va_up gB 1016 (.inl (ty 0, 480, .inl (pb (a 15) (mkF false (nI b) f (a 31) n) (80 * b) k)))) 1016 (.inl (ty 0, 480, .inl (upd (pb (a 15) (mkF false (nI b) f (a 31) n) (80 * b) k) ((80 * b) + k) (((va_up a 31 (mkF false (nI b) f (a 31) n)) 31) k))))) H locs := hB
    refine lv_iinc (v := nI (k + 1)) (lv' := [(4, .int (nI (k + 1))), (0, .ref (ad 1000)), (1, .int (nI b)), (2, .int (nI j)), (3, .int (nI k0))]) hx hb dX9_read_78 hl (k := 4) rfl (nI_add k 1) (by decide) rfl (fun ls hl => ?_)
    refine lv_goto (tgt := 50) hx hb dX9_read_81 (by decide) ?_
    have hB : m_B D ty A s L ad (va_up gB 1016 (.inl (ty 0, 480, .inl (pb (a 15) (mkF false (nI b) f (a 31) n) (80 * b) (k + 1))))) H locs := by
      rw [bx_uu] at hB; exact hB
    have hl : lv_has ls 5 [(0, .ref (ad 1000)), (1, .int (nI b)), (2, .int (nI j)), (3, .int (nI k0)), (4, .int (nI (k + 1)))] := lv_sub hl [1, 2, 3, 4, 0] rfl
    apply ihj (k := (k + 1)) (H := H) (locs := locs) (ls := ls) <;> first | omega | exact hB | exact hl
