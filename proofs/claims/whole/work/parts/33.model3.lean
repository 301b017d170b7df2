set_option maxHeartbeats 1000000 in
set_option maxRecDepth 100000 in
theorem c_M_at_bad (l : Launch) (D : va_G) (ty : Nat → ClassId) (L : List Nat) (ad : Nat → Nat) (g : Nat → va_E) (a : Nat → Nat → Int32) (dn pn en qn mz : Nat) (nw lo : Int32) (tr : Int64) (i w : Int32) (hM : RM ty L ad g a dn pn en qn mz nw lo tr) (hi : ¬ (0 ≤ i.toInt ∧ i.toInt < 6)) : m_E l yX9_at wsX9_at 2 42 D ty [.ref (ad 1000), .int i, .int w] L ad g (some (.int (-1))) g := by
  intro sz
  refine Met.ofW (cc := cX9_at) (maxL := 3) (ret := (some .int)) (by decide) rfl ?_
  intro p e s m args below meth c s₁ B hml hv
  have hx := B.exec
  have hb := B.bytes
  have hrt := B.returns
  have hts := atoms_spec (ws := wsX9_at) B.pre
  have hown : s.vm.findClass RX9 = some m.cls := findClass_of_methodNamed B.named
  have hlocks := B.notSynchronized
  obtain ⟨rfl, hB⟩ := m_start hv
  generalize va_A (m_w L ad g) sz = A at hB ⊢
  generalize s.heap = H at hB ⊢
  generalize ([] : List Loc) = locs at hB ⊢
  have hl := lv_entry ([.ref (ad 1000), .int i, .int w]) (n := 3) (Nat.le_of_ble_eq_true rfl)
  rw [lg_entry_eq]
  generalize (lg_sl ([.ref (ad 1000), .int i, .int w]) ++ List.replicate (3 - (lg_sl ([.ref (ad 1000), .int i, .int w])).length) Slot.unset).toArray = ls at hl ⊢
  have hl : lv_has ls 3 [(0, .ref (ad 1000)), (1, .int i), (2, .int w)] := hl
  obtain ⟨hL, h_1000, h_1002, h_1004, h_1005, h_1007, h_1008, h_1009, h_1010, h_1011, h_1012, h_1013, h_1014, h_1015, h_1016, h_1019, h_1020, h_1021, h_1022, h_1024, h_1025, h_1026, h_1027, h_1028, h_1029, h_1030, h_1032⟩ := id hM
  refine lv_iload_n hx hb dX9_at_0 rfl (lv_at hl 1 rfl) ?_
  refine m_callSE (As := [.int i]) (rest := []) (c_M_isBidder_f l D ty L ad _ _ hi) ⟨hx, hb, hml, hown, hts⟩ (va_cwS 1 hts gX9_at_X9_isBidder rfl rfl rfl (by decide +kernel) ⟨Nat.le_of_ble_eq_true rfl, Nat.le_of_ble_eq_true rfl⟩) hB rfl hl.1 rfl (Nat.le_of_ble_eq_true rfl) dX9_at_1 ⟨Nat.le_of_ble_eq_true rfl, Nat.le_of_ble_eq_true rfl⟩ (fun H locs hB => ?_)
  refine b_if_ne_f 11 hx hb dX9_at_4 (by decide) (by decide) ?_
  refine lv_iconst (v := (-1)) hx hb dX9_at_7 (by decide) ?_
  refine lv_goto (tgt := 43) hx hb dX9_at_8 (by decide) ?_
  exact m_iret hx hb hrt hlocks hB (Nat.le_refl _) (Nat.le_refl _) dX9_at_43 ⟨rfl, rfl, rfl, rfl⟩
set_option maxRecDepth 20000 in
theorem in_X9_at_X9 : ∀ w ∈ wsX90, w ∈ wsX9_at := by decide +kernel
set_option maxHeartbeats 1000000 in
set_option maxRecDepth 100000 in
theorem c_M_at_t (l : Launch) (D : va_G) (ty : Nat → ClassId) (L : List Nat) (ad : Nat → Nat) (g : Nat → va_E) (a : Nat → Nat → Int32) (dn pn en qn mz : Nat) (nw lo : Int32) (tr : Int64) (b k vs : Nat) (hM : RM ty L ad g a dn pn en qn mz nw lo tr) (hb6 : b < 6) (hvs : a 14 b = nI vs) (hvs8 : vs ≤ 80) (hk : k < vs) : m_E l yX9_at wsX9_at 2 42 D ty [.ref (ad 1000), .int (nI b), .int (nI k)] L ad g (some (.int (a 15 (80 * b + k)))) g := by
  intro sz
  refine Met.ofW (cc := cX9_at) (maxL := 3) (ret := (some .int)) (by decide) rfl ?_
  intro p e s m args below meth c s₁ B hml hv
  have hx := B.exec
  have hb := B.bytes
  have hrt := B.returns
  have hts := atoms_spec (ws := wsX9_at) B.pre
  have hown : s.vm.findClass RX9 = some m.cls := findClass_of_methodNamed B.named
  have hlocks := B.notSynchronized
  obtain ⟨rfl, hB⟩ := m_start hv
  generalize va_A (m_w L ad g) sz = A at hB ⊢
  generalize s.heap = H at hB ⊢
  generalize ([] : List Loc) = locs at hB ⊢
  have hl := lv_entry ([.ref (ad 1000), .int (nI b), .int (nI k)]) (n := 3) (Nat.le_of_ble_eq_true rfl)
  rw [lg_entry_eq]
  generalize (lg_sl ([.ref (ad 1000), .int (nI b), .int (nI k)]) ++ List.replicate (3 - (lg_sl ([.ref (ad 1000), .int (nI b), .int (nI k)])).length) Slot.unset).toArray = ls at hl ⊢
  have hl : lv_has ls 3 [(0, .ref (ad 1000)), (1, .int (nI b)), (2, .int (nI k))] := hl
  obtain ⟨hL, h_1000, h_1002, h_1004, h_1005, h_1007, h_1008, h_1009, h_1010, h_1011, h_1012, h_1013, h_1014, h_1015, h_1016, h_1019, h_1020, h_1021, h_1022, h_1024, h_1025, h_1026, h_1027, h_1028, h_1029, h_1030, h_1032⟩ := id hM
  have tI_k : (nI k).toInt = (k : Int) := nI_toInt (by omega)
  have hm2 := nI_m1 (n := vs) (by omega)
  have l0 : (0 : Int32).toInt = 0 := by decide
  refine lv_iload_n hx hb dX9_at_0 rfl (lv_at hl 1 rfl) ?_
  refine m_callSE (As := [.int (nI b)]) (rest := []) (c_M_isBidder_t l D ty L ad _ b hb6) ⟨hx, hb, hml, hown, hts⟩ (va_cwS 1 hts gX9_at_X9_isBidder rfl rfl rfl (by decide +kernel) ⟨Nat.le_of_ble_eq_true rfl, Nat.le_of_ble_eq_true rfl⟩) hB rfl hl.1 rfl (Nat.le_of_ble_eq_true rfl) dX9_at_1 ⟨Nat.le_of_ble_eq_true rfl, Nat.le_of_ble_eq_true rfl⟩ (fun H locs hB => ?_)
  refine b_if_ne_t 11 hx hb dX9_at_4 (by decide) (by decide) ?_
  refine lv_iload_n hx hb dX9_at_11 rfl (lv_at hl 2 rfl) ?_
  refine lv_iconst (v := 0) hx hb dX9_at_12 (by decide) ?_
  refine lv_aload_n hx hb dX9_at_13 rfl (lv_at hl 0 rfl) ?_
  refine m_get (C := RX9) (T := TX9) (N := 33) (ci := 9) hx hb hts in_X9_at_X9 hown hB (hL 1000 (by decide)) h_1000 rfl 14 (by decide) (hts (.fieldLink RX9 44 "PaperRoomModel" "viewSize" "[I") (by decide +kernel)) (fun _ h9 => h9) rfl dX9_at_14 ?_
  refine lv_iload_n hx hb dX9_at_17 rfl (lv_at hl 1 rfl) ?_
  refine n_iald hx hb hB (hL 1015 (by decide)) h_1015 b rfl (by omega) (by omega) dX9_at_18 ?_
  refine b_topi (w := nI vs) (hvs) ?_
  refine lv_iconst (v := 1) hx hb dX9_at_19 (by decide) ?_
  refine lv_isub hx hb dX9_at_20 ?_
  refine m_callSE (As := [.int (nI k), .int 0, .int ((nI vs) - 1)]) (rest := []) (c_M_in_t l D ty L ad _ _ _ _ (by omega) (by omega)) ⟨hx, hb, hml, hown, hts⟩ (va_cwS 3 hts gX9_at_X9_in rfl rfl rfl (by decide +kernel) ⟨Nat.le_of_ble_eq_true rfl, Nat.le_of_ble_eq_true rfl⟩) hB rfl hl.1 rfl (Nat.le_of_ble_eq_true rfl) dX9_at_21 ⟨Nat.le_of_ble_eq_true rfl, Nat.le_of_ble_eq_true rfl⟩ (fun H locs hB => ?_)
  refine b_if_eq_f 41 hx hb dX9_at_24 (by decide) (by decide) ?_
  refine lv_aload_n hx hb dX9_at_27 rfl (lv_at hl 0 rfl) ?_
  refine m_get (C := RX9) (T := TX9) (N := 33) (ci := 9) hx hb hts in_X9_at_X9 hown hB (hL 1000 (by decide)) h_1000 rfl 15 (by decide) (hts (.fieldLink RX9 47 "PaperRoomModel" "view" "[I") (by decide +kernel)) (fun _ h9 => h9) rfl dX9_at_28 ?_
  refine lv_bipush (v := 80) hx hb dX9_at_31 (by decide) ?_
  refine lv_iload_n hx hb dX9_at_33 rfl (lv_at hl 1 rfl) ?_
  refine lv_imul hx hb dX9_at_34 ?_
  refine b_topi (w := nI (80 * b)) (pk_mul 80 b) ?_
  refine lv_iload_n hx hb dX9_at_35 rfl (lv_at hl 2 rfl) ?_
  refine lv_iadd hx hb dX9_at_36 ?_
  refine b_topi (w := nI ((80 * b) + k)) (nI_add (80 * b) k) ?_
  refine n_iald hx hb hB (hL 1016 (by decide)) h_1016 ((80 * b) + k) rfl (by omega) (by omega) dX9_at_37 ?_
  refine lv_goto (tgt := 43) hx hb dX9_at_38 (by decide) ?_
  exact m_iret hx hb hrt hlocks hB (Nat.le_refl _) (Nat.le_refl _) dX9_at_43 ⟨rfl, rfl, rfl, rfl⟩
set_option maxHeartbeats 1000000 in
set_option maxRecDepth 100000 in
theorem c_M_at_f (l : Launch) (D : va_G) (ty : Nat → ClassId) (L : List Nat) (ad : Nat → Nat) (g : Nat → va_E) (a : Nat → Nat → Int32) (dn pn en qn mz : Nat) (nw lo : Int32) (tr : Int64) (b vs : Nat) (i : Int32) (hM : RM ty L ad g a dn pn en qn mz nw lo tr) (hb6 : b < 6) (hvs : a 14 b = nI vs) (hvs8 : vs ≤ 80) (hi : ¬ (0 ≤ i.toInt ∧ i.toInt < vs)) : m_E l yX9_at wsX9_at 2 42 D ty [.ref (ad 1000), .int (nI b), .int i] L ad g (some (.int (-9))) g := by
  intro sz
  refine Met.ofW (cc := cX9_at) (maxL := 3) (ret := (some .int)) (by decide) rfl ?_
  intro p e s m args below meth c s₁ B hml hv
  have hx := B.exec
  have hb := B.bytes
  have hrt := B.returns
  have hts := atoms_spec (ws := wsX9_at) B.pre
  have hown : s.vm.findClass RX9 = some m.cls := findClass_of_methodNamed B.named
  have hlocks := B.notSynchronized
  obtain ⟨rfl, hB⟩ := m_start hv
  generalize va_A (m_w L ad g) sz = A at hB ⊢
  generalize s.heap = H at hB ⊢
  generalize ([] : List Loc) = locs at hB ⊢
  have hl := lv_entry ([.ref (ad 1000), .int (nI b), .int i]) (n := 3) (Nat.le_of_ble_eq_true rfl)
  rw [lg_entry_eq]
  generalize (lg_sl ([.ref (ad 1000), .int (nI b), .int i]) ++ List.replicate (3 - (lg_sl ([.ref (ad 1000), .int (nI b), .int i])).length) Slot.unset).toArray = ls at hl ⊢
  have hl : lv_has ls 3 [(0, .ref (ad 1000)), (1, .int (nI b)), (2, .int i)] := hl
  obtain ⟨hL, h_1000, h_1002, h_1004, h_1005, h_1007, h_1008, h_1009, h_1010, h_1011, h_1012, h_1013, h_1014, h_1015, h_1016, h_1019, h_1020, h_1021, h_1022, h_1024, h_1025, h_1026, h_1027, h_1028, h_1029, h_1030, h_1032⟩ := id hM
  have hm2 := nI_m1 (n := vs) (by omega)
  have l0 : (0 : Int32).toInt = 0 := by decide
  refine lv_iload_n hx hb dX9_at_0 rfl (lv_at hl 1 rfl) ?_
  refine m_callSE (As := [.int (nI b)]) (rest := []) (c_M_isBidder_t l D ty L ad _ b hb6) ⟨hx, hb, hml, hown, hts⟩ (va_cwS 1 hts gX9_at_X9_isBidder rfl rfl rfl (by decide +kernel) ⟨Nat.le_of_ble_eq_true rfl, Nat.le_of_ble_eq_true rfl⟩) hB rfl hl.1 rfl (Nat.le_of_ble_eq_true rfl) dX9_at_1 ⟨Nat.le_of_ble_eq_true rfl, Nat.le_of_ble_eq_true rfl⟩ (fun H locs hB => ?_)
  refine b_if_ne_t 11 hx hb dX9_at_4 (by decide) (by decide) ?_
  refine lv_iload_n hx hb dX9_at_11 rfl (lv_at hl 2 rfl) ?_
  refine lv_iconst (v := 0) hx hb dX9_at_12 (by decide) ?_
  refine lv_aload_n hx hb dX9_at_13 rfl (lv_at hl 0 rfl) ?_
  refine m_get (C := RX9) (T := TX9) (N := 33) (ci := 9) hx hb hts in_X9_at_X9 hown hB (hL 1000 (by decide)) h_1000 rfl 14 (by decide) (hts (.fieldLink RX9 44 "PaperRoomModel" "viewSize" "[I") (by decide +kernel)) (fun _ h9 => h9) rfl dX9_at_14 ?_
  refine lv_iload_n hx hb dX9_at_17 rfl (lv_at hl 1 rfl) ?_
  refine n_iald hx hb hB (hL 1015 (by decide)) h_1015 b rfl (by omega) (by omega) dX9_at_18 ?_
  refine b_topi (w := nI vs) (hvs) ?_
  refine lv_iconst (v := 1) hx hb dX9_at_19 (by decide) ?_
  refine lv_isub hx hb dX9_at_20 ?_
  refine m_callSE (As := [.int i, .int 0, .int ((nI vs) - 1)]) (rest := []) (c_M_in_f l D ty L ad _ _ _ _ (by omega)) ⟨hx, hb, hml, hown, hts⟩ (va_cwS 3 hts gX9_at_X9_in rfl rfl rfl (by decide +kernel) ⟨Nat.le_of_ble_eq_true rfl, Nat.le_of_ble_eq_true rfl⟩) hB rfl hl.1 rfl (Nat.le_of_ble_eq_true rfl) dX9_at_21 ⟨Nat.le_of_ble_eq_true rfl, Nat.le_of_ble_eq_true rfl⟩ (fun H locs hB => ?_)
  refine b_if_eq_t 41 hx hb dX9_at_24 (by decide) (by decide) ?_
  refine lv_bipush (v := (-9)) hx hb dX9_at_41 (by decide) ?_
  exact m_iret hx hb hrt hlocks hB (Nat.le_refl _) (Nat.le_refl _) dX9_at_43 ⟨rfl, rfl, rfl, rfl⟩
set_option maxRecDepth 20000 in
theorem in_X9_log_X9 : ∀ w ∈ wsX90, w ∈ wsX9_log := by decide +kernel
set_option maxHeartbeats 1000000 in
set_option maxRecDepth 100000 in
theorem c_M_log_0 (l : Launch) (D : va_G) (ty : Nat → ClassId) (L : List Nat) (ad : Nat → Nat) (g : Nat → va_E) (a : Nat → Nat → Int32) (dn pn en qn mz : Nat) (nw lo : Int32) (tr : Int64) (k : Nat) (hM : RM ty L ad g a dn pn en qn mz nw lo tr) (hk : k < en) (hen : en ≤ 200) : m_E l yX9_log wsX9_log 1 22 D ty [.ref (ad 1000), .int (nI k), .int 0] L ad g (some (.int (a 18 k))) g := by
  intro sz
  refine Met.ofW (cc := cX9_log) (maxL := 3) (ret := (some .int)) (by decide) rfl ?_
  intro p e s m args below meth c s₁ B hml hv
  have hx := B.exec
  have hb := B.bytes
  have hrt := B.returns
  have hts := atoms_spec (ws := wsX9_log) B.pre
  have hown : s.vm.findClass RX9 = some m.cls := findClass_of_methodNamed B.named
  have hlocks := B.notSynchronized
  obtain ⟨rfl, hB⟩ := m_start hv
  generalize va_A (m_w L ad g) sz = A at hB ⊢
  generalize s.heap = H at hB ⊢
  generalize ([] : List Loc) = locs at hB ⊢
  have hl := lv_entry ([.ref (ad 1000), .int (nI k), .int 0]) (n := 3) (Nat.le_of_ble_eq_true rfl)
  rw [lg_entry_eq]
  generalize (lg_sl ([.ref (ad 1000), .int (nI k), .int 0]) ++ List.replicate (3 - (lg_sl ([.ref (ad 1000), .int (nI k), .int 0])).length) Slot.unset).toArray = ls at hl ⊢
  have hl : lv_has ls 3 [(0, .ref (ad 1000)), (1, .int (nI k)), (2, .int 0)] := hl
  obtain ⟨hL, h_1000, h_1002, h_1004, h_1005, h_1007, h_1008, h_1009, h_1010, h_1011, h_1012, h_1013, h_1014, h_1015, h_1016, h_1019, h_1020, h_1021, h_1022, h_1024, h_1025, h_1026, h_1027, h_1028, h_1029, h_1030, h_1032⟩ := id hM
  have tI_k : (nI k).toInt = (k : Int) := nI_toInt (by omega)
  have hm1 := nI_m1 (n := en) (by omega)
  have l0 : (0 : Int32).toInt = 0 := by decide
  refine lv_iload_n hx hb dX9_log_0 rfl (lv_at hl 1 rfl) ?_
  refine lv_iconst (v := 0) hx hb dX9_log_1 (by decide) ?_
  refine lv_aload_n hx hb dX9_log_2 rfl (lv_at hl 0 rfl) ?_
  refine m_get (C := RX9) (T := TX9) (N := 33) (ci := 9) hx hb hts in_X9_log_X9 hown hB (hL 1000 (by decide)) h_1000 rfl 16 (by decide) (hts (.fieldLink RX9 134 "PaperRoomModel" "entries" "I") (by decide +kernel)) (fun _ h9 => h9) rfl dX9_log_3 ?_
  refine lv_iconst (v := 1) hx hb dX9_log_6 (by decide) ?_
  refine lv_isub hx hb dX9_log_7 ?_
  refine m_callSE (As := [.int (nI k), .int 0, .int ((nI en) - 1)]) (rest := []) (c_M_in_t l D ty L ad _ _ _ _ (by omega) (by omega)) ⟨hx, hb, hml, hown, hts⟩ (va_cwS 3 hts gX9_log_X9_in rfl rfl rfl (by decide +kernel) ⟨Nat.le_of_ble_eq_true rfl, Nat.le_of_ble_eq_true rfl⟩) hB rfl hl.1 rfl (Nat.le_of_ble_eq_true rfl) dX9_log_8 ⟨Nat.le_of_ble_eq_true rfl, Nat.le_of_ble_eq_true rfl⟩ (fun H locs hB => ?_)
  refine b_if_ne_t 16 hx hb dX9_log_11 (by decide) (by decide) ?_
  refine lv_iload_n hx hb dX9_log_16 rfl (lv_at hl 2 rfl) ?_
  refine lv_tableIn (off := 31) (tgt := 48) hx hb dX9_log_17 (by decide) (by decide) (by decide) (by decide) ?_
  refine lv_aload_n hx hb dX9_log_48 rfl (lv_at hl 0 rfl) ?_
  refine m_get (C := RX9) (T := TX9) (N := 33) (ci := 9) hx hb hts in_X9_log_X9 hown hB (hL 1000 (by decide)) h_1000 rfl 18 (by decide) (hts (.fieldLink RX9 50 "PaperRoomModel" "entryTick" "[I") (by decide +kernel)) (fun _ h9 => h9) rfl dX9_log_49 ?_
  refine lv_iload_n hx hb dX9_log_52 rfl (lv_at hl 1 rfl) ?_
  refine n_iald hx hb hB (hL 1019 (by decide)) h_1019 k rfl (by omega) (by omega) dX9_log_53 ?_
  exact m_iret hx hb hrt hlocks hB (Nat.le_refl _) (Nat.le_refl _) dX9_log_54 ⟨rfl, rfl, rfl, rfl⟩
set_option maxHeartbeats 1000000 in
set_option maxRecDepth 100000 in
theorem c_M_log_1 (l : Launch) (D : va_G) (ty : Nat → ClassId) (L : List Nat) (ad : Nat → Nat) (g : Nat → va_E) (a : Nat → Nat → Int32) (dn pn en qn mz : Nat) (nw lo : Int32) (tr : Int64) (k : Nat) (hM : RM ty L ad g a dn pn en qn mz nw lo tr) (hk : k < en) (hen : en ≤ 200) : m_E l yX9_log wsX9_log 1 22 D ty [.ref (ad 1000), .int (nI k), .int 1] L ad g (some (.int (a 19 k))) g := by
  intro sz
  refine Met.ofW (cc := cX9_log) (maxL := 3) (ret := (some .int)) (by decide) rfl ?_
  intro p e s m args below meth c s₁ B hml hv
  have hx := B.exec
  have hb := B.bytes
  have hrt := B.returns
  have hts := atoms_spec (ws := wsX9_log) B.pre
  have hown : s.vm.findClass RX9 = some m.cls := findClass_of_methodNamed B.named
  have hlocks := B.notSynchronized
  obtain ⟨rfl, hB⟩ := m_start hv
  generalize va_A (m_w L ad g) sz = A at hB ⊢
  generalize s.heap = H at hB ⊢
  generalize ([] : List Loc) = locs at hB ⊢
  have hl := lv_entry ([.ref (ad 1000), .int (nI k), .int 1]) (n := 3) (Nat.le_of_ble_eq_true rfl)
  rw [lg_entry_eq]
  generalize (lg_sl ([.ref (ad 1000), .int (nI k), .int 1]) ++ List.replicate (3 - (lg_sl ([.ref (ad 1000), .int (nI k), .int 1])).length) Slot.unset).toArray = ls at hl ⊢
  have hl : lv_has ls 3 [(0, .ref (ad 1000)), (1, .int (nI k)), (2, .int 1)] := hl
  obtain ⟨hL, h_1000, h_1002, h_1004, h_1005, h_1007, h_1008, h_1009, h_1010, h_1011, h_1012, h_1013, h_1014, h_1015, h_1016, h_1019, h_1020, h_1021, h_1022, h_1024, h_1025, h_1026, h_1027, h_1028, h_1029, h_1030, h_1032⟩ := id hM
  have tI_k : (nI k).toInt = (k : Int) := nI_toInt (by omega)
  have hm1 := nI_m1 (n := en) (by omega)
  have l0 : (0 : Int32).toInt = 0 := by decide
  refine lv_iload_n hx hb dX9_log_0 rfl (lv_at hl 1 rfl) ?_
  refine lv_iconst (v := 0) hx hb dX9_log_1 (by decide) ?_
  refine lv_aload_n hx hb dX9_log_2 rfl (lv_at hl 0 rfl) ?_
  refine m_get (C := RX9) (T := TX9) (N := 33) (ci := 9) hx hb hts in_X9_log_X9 hown hB (hL 1000 (by decide)) h_1000 rfl 16 (by decide) (hts (.fieldLink RX9 134 "PaperRoomModel" "entries" "I") (by decide +kernel)) (fun _ h9 => h9) rfl dX9_log_3 ?_
  refine lv_iconst (v := 1) hx hb dX9_log_6 (by decide) ?_
  refine lv_isub hx hb dX9_log_7 ?_
  refine m_callSE (As := [.int (nI k), .int 0, .int ((nI en) - 1)]) (rest := []) (c_M_in_t l D ty L ad _ _ _ _ (by omega) (by omega)) ⟨hx, hb, hml, hown, hts⟩ (va_cwS 3 hts gX9_log_X9_in rfl rfl rfl (by decide +kernel) ⟨Nat.le_of_ble_eq_true rfl, Nat.le_of_ble_eq_true rfl⟩) hB rfl hl.1 rfl (Nat.le_of_ble_eq_true rfl) dX9_log_8 ⟨Nat.le_of_ble_eq_true rfl, Nat.le_of_ble_eq_true rfl⟩ (fun H locs hB => ?_)
  refine b_if_ne_t 16 hx hb dX9_log_11 (by decide) (by decide) ?_
  refine lv_iload_n hx hb dX9_log_16 rfl (lv_at hl 2 rfl) ?_
  refine lv_tableIn (off := 38) (tgt := 55) hx hb dX9_log_17 (by decide) (by decide) (by decide) (by decide) ?_
  refine lv_aload_n hx hb dX9_log_55 rfl (lv_at hl 0 rfl) ?_
  refine m_get (C := RX9) (T := TX9) (N := 33) (ci := 9) hx hb hts in_X9_log_X9 hown hB (hL 1000 (by decide)) h_1000 rfl 19 (by decide) (hts (.fieldLink RX9 53 "PaperRoomModel" "entryBidder" "[I") (by decide +kernel)) (fun _ h9 => h9) rfl dX9_log_56 ?_
  refine lv_iload_n hx hb dX9_log_59 rfl (lv_at hl 1 rfl) ?_
  refine n_iald hx hb hB (hL 1020 (by decide)) h_1020 k rfl (by omega) (by omega) dX9_log_60 ?_
  exact m_iret hx hb hrt hlocks hB (Nat.le_refl _) (Nat.le_refl _) dX9_log_61 ⟨rfl, rfl, rfl, rfl⟩
set_option maxHeartbeats 1000000 in
set_option maxRecDepth 100000 in
theorem c_M_log_2 (l : Launch) (D : va_G) (ty : Nat → ClassId) (L : List Nat) (ad : Nat → Nat) (g : Nat → va_E) (a : Nat → Nat → Int32) (dn pn en qn mz : Nat) (nw lo : Int32) (tr : Int64) (k : Nat) (hM : RM ty L ad g a dn pn en qn mz nw lo tr) (hk : k < en) (hen : en ≤ 200) : m_E l yX9_log wsX9_log 1 22 D ty [.ref (ad 1000), .int (nI k), .int 2] L ad g (some (.int (a 20 k))) g := by
  intro sz
  refine Met.ofW (cc := cX9_log) (maxL := 3) (ret := (some .int)) (by decide) rfl ?_
  intro p e s m args below meth c s₁ B hml hv
  have hx := B.exec
  have hb := B.bytes
  have hrt := B.returns
  have hts := atoms_spec (ws := wsX9_log) B.pre
  have hown : s.vm.findClass RX9 = some m.cls := findClass_of_methodNamed B.named
  have hlocks := B.notSynchronized
  obtain ⟨rfl, hB⟩ := m_start hv
  generalize va_A (m_w L ad g) sz = A at hB ⊢
  generalize s.heap = H at hB ⊢
  generalize ([] : List Loc) = locs at hB ⊢
  have hl := lv_entry ([.ref (ad 1000), .int (nI k), .int 2]) (n := 3) (Nat.le_of_ble_eq_true rfl)
  rw [lg_entry_eq]
  generalize (lg_sl ([.ref (ad 1000), .int (nI k), .int 2]) ++ List.replicate (3 - (lg_sl ([.ref (ad 1000), .int (nI k), .int 2])).length) Slot.unset).toArray = ls at hl ⊢
  have hl : lv_has ls 3 [(0, .ref (ad 1000)), (1, .int (nI k)), (2, .int 2)] := hl
  obtain ⟨hL, h_1000, h_1002, h_1004, h_1005, h_1007, h_1008, h_1009, h_1010, h_1011, h_1012, h_1013, h_1014, h_1015, h_1016, h_1019, h_1020, h_1021, h_1022, h_1024, h_1025, h_1026, h_1027, h_1028, h_1029, h_1030, h_1032⟩ := id hM
  have tI_k : (nI k).toInt = (k : Int) := nI_toInt (by omega)
  have hm1 := nI_m1 (n := en) (by omega)
  have l0 : (0 : Int32).toInt = 0 := by decide
  refine lv_iload_n hx hb dX9_log_0 rfl (lv_at hl 1 rfl) ?_
  refine lv_iconst (v := 0) hx hb dX9_log_1 (by decide) ?_
  refine lv_aload_n hx hb dX9_log_2 rfl (lv_at hl 0 rfl) ?_
  refine m_get (C := RX9) (T := TX9) (N := 33) (ci := 9) hx hb hts in_X9_log_X9 hown hB (hL 1000 (by decide)) h_1000 rfl 16 (by decide) (hts (.fieldLink RX9 134 "PaperRoomModel" "entries" "I") (by decide +kernel)) (fun _ h9 => h9) rfl dX9_log_3 ?_
  refine lv_iconst (v := 1) hx hb dX9_log_6 (by decide) ?_
  refine lv_isub hx hb dX9_log_7 ?_
  refine m_callSE (As := [.int (nI k), .int 0, .int ((nI en) - 1)]) (rest := []) (c_M_in_t l D ty L ad _ _ _ _ (by omega) (by omega)) ⟨hx, hb, hml, hown, hts⟩ (va_cwS 3 hts gX9_log_X9_in rfl rfl rfl (by decide +kernel) ⟨Nat.le_of_ble_eq_true rfl, Nat.le_of_ble_eq_true rfl⟩) hB rfl hl.1 rfl (Nat.le_of_ble_eq_true rfl) dX9_log_8 ⟨Nat.le_of_ble_eq_true rfl, Nat.le_of_ble_eq_true rfl⟩ (fun H locs hB => ?_)
  refine b_if_ne_t 16 hx hb dX9_log_11 (by decide) (by decide) ?_
  refine lv_iload_n hx hb dX9_log_16 rfl (lv_at hl 2 rfl) ?_
  refine lv_tableIn (off := 45) (tgt := 62) hx hb dX9_log_17 (by decide) (by decide) (by decide) (by decide) ?_
  refine lv_aload_n hx hb dX9_log_62 rfl (lv_at hl 0 rfl) ?_
  refine m_get (C := RX9) (T := TX9) (N := 33) (ci := 9) hx hb hts in_X9_log_X9 hown hB (hL 1000 (by decide)) h_1000 rfl 20 (by decide) (hts (.fieldLink RX9 56 "PaperRoomModel" "entryPaper" "[I") (by decide +kernel)) (fun _ h9 => h9) rfl dX9_log_63 ?_
  refine lv_iload_n hx hb dX9_log_66 rfl (lv_at hl 1 rfl) ?_
  refine n_iald hx hb hB (hL 1021 (by decide)) h_1021 k rfl (by omega) (by omega) dX9_log_67 ?_
  exact m_iret hx hb hrt hlocks hB (Nat.le_refl _) (Nat.le_refl _) dX9_log_68 ⟨rfl, rfl, rfl, rfl⟩
set_option maxHeartbeats 1000000 in
set_option maxRecDepth 100000 in
theorem c_M_log_3 (l : Launch) (D : va_G) (ty : Nat → ClassId) (L : List Nat) (ad : Nat → Nat) (g : Nat → va_E) (a : Nat → Nat → Int32) (dn pn en qn mz : Nat) (nw lo : Int32) (tr : Int64) (k : Nat) (hM : RM ty L ad g a dn pn en qn mz nw lo tr) (hk : k < en) (hen : en ≤ 200) : m_E l yX9_log wsX9_log 1 22 D ty [.ref (ad 1000), .int (nI k), .int 3] L ad g (some (.int (a 21 k))) g := by
  intro sz
  refine Met.ofW (cc := cX9_log) (maxL := 3) (ret := (some .int)) (by decide) rfl ?_
  intro p e s m args below meth c s₁ B hml hv
  have hx := B.exec
  have hb := B.bytes
  have hrt := B.returns
  have hts := atoms_spec (ws := wsX9_log) B.pre
  have hown : s.vm.findClass RX9 = some m.cls := findClass_of_methodNamed B.named
  have hlocks := B.notSynchronized
  obtain ⟨rfl, hB⟩ := m_start hv
  generalize va_A (m_w L ad g) sz = A at hB ⊢
  generalize s.heap = H at hB ⊢
  generalize ([] : List Loc) = locs at hB ⊢
  have hl := lv_entry ([.ref (ad 1000), .int (nI k), .int 3]) (n := 3) (Nat.le_of_ble_eq_true rfl)
  rw [lg_entry_eq]
  generalize (lg_sl ([.ref (ad 1000), .int (nI k), .int 3]) ++ List.replicate (3 - (lg_sl ([.ref (ad 1000), .int (nI k), .int 3])).length) Slot.unset).toArray = ls at hl ⊢
  have hl : lv_has ls 3 [(0, .ref (ad 1000)), (1, .int (nI k)), (2, .int 3)] := hl
  obtain ⟨hL, h_1000, h_1002, h_1004, h_1005, h_1007, h_1008, h_1009, h_1010, h_1011, h_1012, h_1013, h_1014, h_1015, h_1016, h_1019, h_1020, h_1021, h_1022, h_1024, h_1025, h_1026, h_1027, h_1028, h_1029, h_1030, h_1032⟩ := id hM
  have tI_k : (nI k).toInt = (k : Int) := nI_toInt (by omega)
  have hm1 := nI_m1 (n := en) (by omega)
  have l0 : (0 : Int32).toInt = 0 := by decide
  refine lv_iload_n hx hb dX9_log_0 rfl (lv_at hl 1 rfl) ?_
  refine lv_iconst (v := 0) hx hb dX9_log_1 (by decide) ?_
  refine lv_aload_n hx hb dX9_log_2 rfl (lv_at hl 0 rfl) ?_
  refine m_get (C := RX9) (T := TX9) (N := 33) (ci := 9) hx hb hts in_X9_log_X9 hown hB (hL 1000 (by decide)) h_1000 rfl 16 (by decide) (hts (.fieldLink RX9 134 "PaperRoomModel" "entries" "I") (by decide +kernel)) (fun _ h9 => h9) rfl dX9_log_3 ?_
  refine lv_iconst (v := 1) hx hb dX9_log_6 (by decide) ?_
  refine lv_isub hx hb dX9_log_7 ?_
  refine m_callSE (As := [.int (nI k), .int 0, .int ((nI en) - 1)]) (rest := []) (c_M_in_t l D ty L ad _ _ _ _ (by omega) (by omega)) ⟨hx, hb, hml, hown, hts⟩ (va_cwS 3 hts gX9_log_X9_in rfl rfl rfl (by decide +kernel) ⟨Nat.le_of_ble_eq_true rfl, Nat.le_of_ble_eq_true rfl⟩) hB rfl hl.1 rfl (Nat.le_of_ble_eq_true rfl) dX9_log_8 ⟨Nat.le_of_ble_eq_true rfl, Nat.le_of_ble_eq_true rfl⟩ (fun H locs hB => ?_)
  refine b_if_ne_t 16 hx hb dX9_log_11 (by decide) (by decide) ?_
  refine lv_iload_n hx hb dX9_log_16 rfl (lv_at hl 2 rfl) ?_
  refine lv_tableIn (off := 52) (tgt := 69) hx hb dX9_log_17 (by decide) (by decide) (by decide) (by decide) ?_
  refine lv_aload_n hx hb dX9_log_69 rfl (lv_at hl 0 rfl) ?_
  refine m_get (C := RX9) (T := TX9) (N := 33) (ci := 9) hx hb hts in_X9_log_X9 hown hB (hL 1000 (by decide)) h_1000 rfl 21 (by decide) (hts (.fieldLink RX9 59 "PaperRoomModel" "entryVersion" "[I") (by decide +kernel)) (fun _ h9 => h9) rfl dX9_log_70 ?_
  refine lv_iload_n hx hb dX9_log_73 rfl (lv_at hl 1 rfl) ?_
  refine n_iald hx hb hB (hL 1022 (by decide)) h_1022 k rfl (by omega) (by omega) dX9_log_74 ?_
  exact m_iret hx hb hrt hlocks hB (Nat.le_refl _) (Nat.le_refl _) dX9_log_75 ⟨rfl, rfl, rfl, rfl⟩
set_option maxHeartbeats 1000000 in
set_option maxRecDepth 100000 in
theorem c_M_log_x (l : Launch) (D : va_G) (ty : Nat → ClassId) (L : List Nat) (ad : Nat → Nat) (g : Nat → va_E) (a : Nat → Nat → Int32) (dn pn en qn mz : Nat) (nw lo : Int32) (tr : Int64) (k : Nat) (w : Int32) (hM : RM ty L ad g a dn pn en qn mz nw lo tr) (hk : k < en) (hen : en ≤ 200) (hw : w.toInt < 0 ∨ 3 < w.toInt) : m_E l yX9_log wsX9_log 1 22 D ty [.ref (ad 1000), .int (nI k), .int w] L ad g (some (.int (-1))) g := by
  intro sz
  refine Met.ofW (cc := cX9_log) (maxL := 3) (ret := (some .int)) (by decide) rfl ?_
  intro p e s m args below meth c s₁ B hml hv
  have hx := B.exec
  have hb := B.bytes
  have hrt := B.returns
  have hts := atoms_spec (ws := wsX9_log) B.pre
  have hown : s.vm.findClass RX9 = some m.cls := findClass_of_methodNamed B.named
  have hlocks := B.notSynchronized
  obtain ⟨rfl, hB⟩ := m_start hv
  generalize va_A (m_w L ad g) sz = A at hB ⊢
  generalize s.heap = H at hB ⊢
  generalize ([] : List Loc) = locs at hB ⊢
  have hl := lv_entry ([.ref (ad 1000), .int (nI k), .int w]) (n := 3) (Nat.le_of_ble_eq_true rfl)
  rw [lg_entry_eq]
  generalize (lg_sl ([.ref (ad 1000), .int (nI k), .int w]) ++ List.replicate (3 - (lg_sl ([.ref (ad 1000), .int (nI k), .int w])).length) Slot.unset).toArray = ls at hl ⊢
  have hl : lv_has ls 3 [(0, .ref (ad 1000)), (1, .int (nI k)), (2, .int w)] := hl
  obtain ⟨hL, h_1000, h_1002, h_1004, h_1005, h_1007, h_1008, h_1009, h_1010, h_1011, h_1012, h_1013, h_1014, h_1015, h_1016, h_1019, h_1020, h_1021, h_1022, h_1024, h_1025, h_1026, h_1027, h_1028, h_1029, h_1030, h_1032⟩ := id hM
  have tI_k : (nI k).toInt = (k : Int) := nI_toInt (by omega)
  have hm1 := nI_m1 (n := en) (by omega)
  have l0 : (0 : Int32).toInt = 0 := by decide
  refine lv_iload_n hx hb dX9_log_0 rfl (lv_at hl 1 rfl) ?_
  refine lv_iconst (v := 0) hx hb dX9_log_1 (by decide) ?_
  refine lv_aload_n hx hb dX9_log_2 rfl (lv_at hl 0 rfl) ?_
  refine m_get (C := RX9) (T := TX9) (N := 33) (ci := 9) hx hb hts in_X9_log_X9 hown hB (hL 1000 (by decide)) h_1000 rfl 16 (by decide) (hts (.fieldLink RX9 134 "PaperRoomModel" "entries" "I") (by decide +kernel)) (fun _ h9 => h9) rfl dX9_log_3 ?_
  refine lv_iconst (v := 1) hx hb dX9_log_6 (by decide) ?_
  refine lv_isub hx hb dX9_log_7 ?_
  refine m_callSE (As := [.int (nI k), .int 0, .int ((nI en) - 1)]) (rest := []) (c_M_in_t l D ty L ad _ _ _ _ (by omega) (by omega)) ⟨hx, hb, hml, hown, hts⟩ (va_cwS 3 hts gX9_log_X9_in rfl rfl rfl (by decide +kernel) ⟨Nat.le_of_ble_eq_true rfl, Nat.le_of_ble_eq_true rfl⟩) hB rfl hl.1 rfl (Nat.le_of_ble_eq_true rfl) dX9_log_8 ⟨Nat.le_of_ble_eq_true rfl, Nat.le_of_ble_eq_true rfl⟩ (fun H locs hB => ?_)
  refine b_if_ne_t 16 hx hb dX9_log_11 (by decide) (by decide) ?_
  refine lv_iload_n hx hb dX9_log_16 rfl (lv_at hl 2 rfl) ?_
  refine lv_tableOut (tgt := 76) hx hb dX9_log_17 (by omega) (by decide) ?_
  refine lv_iconst (v := (-1)) hx hb dX9_log_76 (by decide) ?_
  exact m_iret hx hb hrt hlocks hB (Nat.le_refl _) (Nat.le_refl _) dX9_log_77 ⟨rfl, rfl, rfl, rfl⟩
set_option maxHeartbeats 1000000 in
set_option maxRecDepth 100000 in
theorem c_M_log_bad (l : Launch) (D : va_G) (ty : Nat → ClassId) (L : List Nat) (ad : Nat → Nat) (g : Nat → va_E) (a : Nat → Nat → Int32) (dn pn en qn mz : Nat) (nw lo : Int32) (tr : Int64) (i w : Int32) (hM : RM ty L ad g a dn pn en qn mz nw lo tr) (hi : ¬ (0 ≤ i.toInt ∧ i.toInt < en)) (hen : en ≤ 200) : m_E l yX9_log wsX9_log 1 22 D ty [.ref (ad 1000), .int i, .int w] L ad g (some (.int (-1))) g := by
  intro sz
  refine Met.ofW (cc := cX9_log) (maxL := 3) (ret := (some .int)) (by decide) rfl ?_
  intro p e s m args below meth c s₁ B hml hv
  have hx := B.exec
  have hb := B.bytes
  have hrt := B.returns
  have hts := atoms_spec (ws := wsX9_log) B.pre
  have hown : s.vm.findClass RX9 = some m.cls := findClass_of_methodNamed B.named
  have hlocks := B.notSynchronized
  obtain ⟨rfl, hB⟩ := m_start hv
  generalize va_A (m_w L ad g) sz = A at hB ⊢
  generalize s.heap = H at hB ⊢
  generalize ([] : List Loc) = locs at hB ⊢
  have hl := lv_entry ([.ref (ad 1000), .int i, .int w]) (n := 3) (Nat.le_of_ble_eq_true rfl)
  rw [lg_entry_eq]
  generalize (lg_sl ([.ref (ad 1000), .int i, .int w]) ++ List.replicate (3 - (lg_sl ([.ref (ad 1000), .int i, .int w])).length) Slot.unset).toArray = ls at hl ⊢
  have hl : lv_has ls 3 [(0, .ref (ad 1000)), (1, .int i), (2, .int w)] := hl
  obtain ⟨hL, h_1000, h_1002, h_1004, h_1005, h_1007, h_1008, h_1009, h_1010, h_1011, h_1012, h_1013, h_1014, h_1015, h_1016, h_1019, h_1020, h_1021, h_1022, h_1024, h_1025, h_1026, h_1027, h_1028, h_1029, h_1030, h_1032⟩ := id hM
  have hm1 := nI_m1 (n := en) (by omega)
  have l0 : (0 : Int32).toInt = 0 := by decide
  refine lv_iload_n hx hb dX9_log_0 rfl (lv_at hl 1 rfl) ?_
  refine lv_iconst (v := 0) hx hb dX9_log_1 (by decide) ?_
  refine lv_aload_n hx hb dX9_log_2 rfl (lv_at hl 0 rfl) ?_
  refine m_get (C := RX9) (T := TX9) (N := 33) (ci := 9) hx hb hts in_X9_log_X9 hown hB (hL 1000 (by decide)) h_1000 rfl 16 (by decide) (hts (.fieldLink RX9 134 "PaperRoomModel" "entries" "I") (by decide +kernel)) (fun _ h9 => h9) rfl dX9_log_3 ?_
  refine lv_iconst (v := 1) hx hb dX9_log_6 (by decide) ?_
  refine lv_isub hx hb dX9_log_7 ?_
  refine m_callSE (As := [.int i, .int 0, .int ((nI en) - 1)]) (rest := []) (c_M_in_f l D ty L ad _ _ _ _ (by omega)) ⟨hx, hb, hml, hown, hts⟩ (va_cwS 3 hts gX9_log_X9_in rfl rfl rfl (by decide +kernel) ⟨Nat.le_of_ble_eq_true rfl, Nat.le_of_ble_eq_true rfl⟩) hB rfl hl.1 rfl (Nat.le_of_ble_eq_true rfl) dX9_log_8 ⟨Nat.le_of_ble_eq_true rfl, Nat.le_of_ble_eq_true rfl⟩ (fun H locs hB => ?_)
  refine b_if_ne_f 16 hx hb dX9_log_11 (by decide) (by decide) ?_
  refine lv_iconst (v := (-1)) hx hb dX9_log_14 (by decide) ?_
  exact m_iret hx hb hrt hlocks hB (Nat.le_refl _) (Nat.le_refl _) dX9_log_15 ⟨rfl, rfl, rfl, rfl⟩
set_option maxRecDepth 20000 in
theorem in_X9_chain_X9 : ∀ w ∈ wsX90, w ∈ wsX9_chain := by decide +kernel
set_option maxHeartbeats 1000000 in
set_option maxRecDepth 100000 in
theorem c_M_chain_bad (l : Launch) (D : va_G) (ty : Nat → ClassId) (L : List Nat) (ad : Nat → Nat) (g : Nat → va_E) (a : Nat → Nat → Int32) (dn pn en qn mz : Nat) (nw lo : Int32) (tr : Int64) (i : Int32) (hM : RM ty L ad g a dn pn en qn mz nw lo tr) (hi : ¬ (0 ≤ i.toInt ∧ i.toInt < en)) (hen : en ≤ 200) : m_E l yX9_chain wsX9_chain 1 22 D ty [.ref (ad 1000), .int i] L ad g (some (.long 0)) g := by
  intro sz
  refine Met.ofW (cc := cX9_chain) (maxL := 5) (ret := (some .long)) (by decide) rfl ?_
  intro p e s m args below meth c s₁ B hml hv
  have hx := B.exec
  have hb := B.bytes
  have hrt := B.returns
  have hts := atoms_spec (ws := wsX9_chain) B.pre
  have hown : s.vm.findClass RX9 = some m.cls := findClass_of_methodNamed B.named
  have hlocks := B.notSynchronized
  obtain ⟨rfl, hB⟩ := m_start hv
  generalize va_A (m_w L ad g) sz = A at hB ⊢
  generalize s.heap = H at hB ⊢
  generalize ([] : List Loc) = locs at hB ⊢
  have hl := lv_entry ([.ref (ad 1000), .int i]) (n := 5) (Nat.le_of_ble_eq_true rfl)
  rw [lg_entry_eq]
  generalize (lg_sl ([.ref (ad 1000), .int i]) ++ List.replicate (5 - (lg_sl ([.ref (ad 1000), .int i])).length) Slot.unset).toArray = ls at hl ⊢
  have hl : lv_has ls 5 [(0, .ref (ad 1000)), (1, .int i)] := hl
  obtain ⟨hL, h_1000, h_1002, h_1004, h_1005, h_1007, h_1008, h_1009, h_1010, h_1011, h_1012, h_1013, h_1014, h_1015, h_1016, h_1019, h_1020, h_1021, h_1022, h_1024, h_1025, h_1026, h_1027, h_1028, h_1029, h_1030, h_1032⟩ := id hM
  have hm1 := nI_m1 (n := en) (by omega)
  have l0 : (0 : Int32).toInt = 0 := by decide
  refine lv_iload_n hx hb dX9_chain_0 rfl (lv_at hl 1 rfl) ?_
  refine lv_iconst (v := 0) hx hb dX9_chain_1 (by decide) ?_
  refine lv_aload_n hx hb dX9_chain_2 rfl (lv_at hl 0 rfl) ?_
  refine m_get (C := RX9) (T := TX9) (N := 33) (ci := 9) hx hb hts in_X9_chain_X9 hown hB (hL 1000 (by decide)) h_1000 rfl 16 (by decide) (hts (.fieldLink RX9 134 "PaperRoomModel" "entries" "I") (by decide +kernel)) (fun _ h9 => h9) rfl dX9_chain_3 ?_
  refine lv_iconst (v := 1) hx hb dX9_chain_6 (by decide) ?_
  refine lv_isub hx hb dX9_chain_7 ?_
  refine m_callSE (As := [.int i, .int 0, .int ((nI en) - 1)]) (rest := []) (c_M_in_f l D ty L ad _ _ _ _ (by omega)) ⟨hx, hb, hml, hown, hts⟩ (va_cwS 3 hts gX9_chain_X9_in rfl rfl rfl (by decide +kernel) ⟨Nat.le_of_ble_eq_true rfl, Nat.le_of_ble_eq_true rfl⟩) hB rfl hl.1 rfl (Nat.le_of_ble_eq_true rfl) dX9_chain_8 ⟨Nat.le_of_ble_eq_true rfl, Nat.le_of_ble_eq_true rfl⟩ (fun H locs hB => ?_)
  refine b_if_ne_f 16 hx hb dX9_chain_11 (by decide) (by decide) ?_
  refine lv_lconst (v := 0) hx hb dX9_chain_14 (by decide) ?_
  exact m_lret hx hb hrt hlocks hB (Nat.le_refl _) (Nat.le_refl _) dX9_chain_15 ⟨rfl, rfl, rfl, rfl⟩
set_option maxHeartbeats 1000000 in
set_option maxRecDepth 100000 in
theorem c_M_chain (l : Launch) (D : va_G) (ty : Nat → ClassId) (L : List Nat) (ad : Nat → Nat) (g : Nat → va_E) (a : Nat → Nat → Int32) (dn pn en qn mz : Nat) (nw lo : Int32) (tr : Int64) (q : Nat) (hM : RM ty L ad g a dn pn en qn mz nw lo tr) (hq : q < en) (hen : en ≤ 200) : m_E l yX9_chain wsX9_chain 1 22 D ty [.ref (ad 1000), .int (nI q)] L ad g (some (.long (lkc (a 18) (a 19) (a 20) (a 21) (q + 1)))) g := by
  intro sz
  refine Met.ofW (cc := cX9_chain) (maxL := 5) (ret := (some .long)) (by decide) rfl ?_
  intro p e s m args below meth c s₁ B hml hv
  have hx := B.exec
  have hb := B.bytes
  have hrt := B.returns
  have hts := atoms_spec (ws := wsX9_chain) B.pre
  have hown : s.vm.findClass RX9 = some m.cls := findClass_of_methodNamed B.named
  have hlocks := B.notSynchronized
  obtain ⟨rfl, hB⟩ := m_start hv
  generalize va_A (m_w L ad g) sz = A at hB ⊢
  generalize s.heap = H at hB ⊢
  generalize ([] : List Loc) = locs at hB ⊢
  have hl := lv_entry ([.ref (ad 1000), .int (nI q)]) (n := 5) (Nat.le_of_ble_eq_true rfl)
  rw [lg_entry_eq]
  generalize (lg_sl ([.ref (ad 1000), .int (nI q)]) ++ List.replicate (5 - (lg_sl ([.ref (ad 1000), .int (nI q)])).length) Slot.unset).toArray = ls at hl ⊢
  have hl : lv_has ls 5 [(0, .ref (ad 1000)), (1, .int (nI q))] := hl
  obtain ⟨hL, h_1000, h_1002, h_1004, h_1005, h_1007, h_1008, h_1009, h_1010, h_1011, h_1012, h_1013, h_1014, h_1015, h_1016, h_1019, h_1020, h_1021, h_1022, h_1024, h_1025, h_1026, h_1027, h_1028, h_1029, h_1030, h_1032⟩ := id hM
  have tI_q : (nI q).toInt = (q : Int) := nI_toInt (by omega)
  have hm1 := nI_m1 (n := en) (by omega)
  have l0 : (0 : Int32).toInt = 0 := by decide
  refine lv_iload_n hx hb dX9_chain_0 rfl (lv_at hl 1 rfl) ?_
  refine lv_iconst (v := 0) hx hb dX9_chain_1 (by decide) ?_
  refine lv_aload_n hx hb dX9_chain_2 rfl (lv_at hl 0 rfl) ?_
  refine m_get (C := RX9) (T := TX9) (N := 33) (ci := 9) hx hb hts in_X9_chain_X9 hown hB (hL 1000 (by decide)) h_1000 rfl 16 (by decide) (hts (.fieldLink RX9 134 "PaperRoomModel" "entries" "I") (by decide +kernel)) (fun _ h9 => h9) rfl dX9_chain_3 ?_
  refine lv_iconst (v := 1) hx hb dX9_chain_6 (by decide) ?_
  refine lv_isub hx hb dX9_chain_7 ?_
  refine m_callSE (As := [.int (nI q), .int 0, .int ((nI en) - 1)]) (rest := []) (c_M_in_t l D ty L ad _ _ _ _ (by omega) (by omega)) ⟨hx, hb, hml, hown, hts⟩ (va_cwS 3 hts gX9_chain_X9_in rfl rfl rfl (by decide +kernel) ⟨Nat.le_of_ble_eq_true rfl, Nat.le_of_ble_eq_true rfl⟩) hB rfl hl.1 rfl (Nat.le_of_ble_eq_true rfl) dX9_chain_8 ⟨Nat.le_of_ble_eq_true rfl, Nat.le_of_ble_eq_true rfl⟩ (fun H locs hB => ?_)
  refine b_if_ne_t 16 hx hb dX9_chain_11 (by decide) (by decide) ?_
  refine lv_ldc2 hx hb hown (hts (.constantLong RX9 143 (7)) (by decide +kernel)) dX9_chain_16 ?_
  refine lv_lstore_n (lv' := [(2, .long 7), (0, .ref (ad 1000)), (1, .int (nI q))]) hx hb dX9_chain_19 rfl hl (by decide) rfl (fun ls hl => ?_)
  refine lv_iconst (v := 0) hx hb dX9_chain_20 (by decide) ?_
  refine lv_istore (lv' := [(4, .int 0), (2, .long 7), (0, .ref (ad 1000)), (1, .int (nI q))]) hx hb dX9_chain_21 hl (by decide) rfl (fun ls hl => ?_)
  replace hl : lv_has ls 5 [(0, .ref (ad 1000)), (1, .int (nI q)), (2, .long 7), (4, .int 0)] := lv_sub hl [2, 3, 1, 0] rfl
  obtain ⟨k, hk0⟩ : ∃ k : Nat, k = 0 := ⟨0, rfl⟩
  replace hl : lv_has ls 5 [(0, .ref (ad 1000)), (1, .int (nI q)), (2, .long (lkc (a 18) (a 19) (a 20) (a 21) k)), (4, .int (nI k))] := by rw [hk0]; exact hl
  obtain ⟨jz, hj⟩ : ∃ jz : Nat, k + jz = (q + 1) := ⟨(q + 1) - k, by omega⟩
  clear hk0
  induction jz generalizing k H locs ls with
  | zero =>
    have hje : k = (q + 1) := by omega
    have tI_k : (nI k).toInt = (k : Int) := nI_toInt (by omega)
    refine lv_iload hx hb dX9_chain_23 (lv_at hl 3 rfl) ?_
    refine lv_iload_n hx hb dX9_chain_25 rfl (lv_at hl 1 rfl) ?_
    refine b_icmp_gt_t 89 hx hb dX9_chain_26 (by decide) (by omega) ?_
    refine lv_lload_n hx hb dX9_chain_89 rfl (lv_at hl 2 rfl) ?_
    exact m_lret hx hb hrt hlocks hB (Nat.le_refl _) (Nat.le_refl _) dX9_chain_90 ⟨by rw [hje], rfl, rfl, rfl⟩
  | succ jz ihj =>
    have hjl : k < (q + 1) := by omega
    have tI_k : (nI k).toInt = (k : Int) := nI_toInt (by omega)
    refine lv_iload hx hb dX9_chain_23 (lv_at hl 3 rfl) ?_
    refine lv_iload_n hx hb dX9_chain_25 rfl (lv_at hl 1 rfl) ?_
    refine b_icmp_gt_f 89 hx hb dX9_chain_26 (by decide) (by omega) ?_
    refine lv_ldc2 hx hb hown (hts (.constantLong RX9 145 (31)) (by decide +kernel)) dX9_chain_29 ?_
    refine lv_lload_n hx hb dX9_chain_32 rfl (lv_at hl 2 rfl) ?_
    refine lv_lmul hx hb dX9_chain_33 ?_
    refine lv_ldc2 hx hb hown (hts (.constantLong RX9 147 (1000)) (by decide +kernel)) dX9_chain_34 ?_
    refine lv_aload_n hx hb dX9_chain_37 rfl (lv_at hl 0 rfl) ?_
    refine m_get (C := RX9) (T := TX9) (N := 33) (ci := 9) hx hb hts in_X9_chain_X9 hown hB (hL 1000 (by decide)) h_1000 rfl 18 (by decide) (hts (.fieldLink RX9 50 "PaperRoomModel" "entryTick" "[I") (by decide +kernel)) (fun _ h9 => h9) rfl dX9_chain_38 ?_
    refine lv_iload hx hb dX9_chain_41 (lv_at hl 3 rfl) ?_
    refine n_iald hx hb hB (hL 1019 (by decide)) h_1019 k rfl (by omega) (by omega) dX9_chain_43 ?_
    refine lv_i2l hx hb dX9_chain_44 rfl ?_
    refine lv_lmul hx hb dX9_chain_45 ?_
    refine lv_ladd hx hb dX9_chain_46 ?_
    refine lv_ldc2 hx hb hown (hts (.constantLong RX9 149 (100)) (by decide +kernel)) dX9_chain_47 ?_
    refine lv_aload_n hx hb dX9_chain_50 rfl (lv_at hl 0 rfl) ?_
    refine m_get (C := RX9) (T := TX9) (N := 33) (ci := 9) hx hb hts in_X9_chain_X9 hown hB (hL 1000 (by decide)) h_1000 rfl 19 (by decide) (hts (.fieldLink RX9 53 "PaperRoomModel" "entryBidder" "[I") (by decide +kernel)) (fun _ h9 => h9) rfl dX9_chain_51 ?_
    refine lv_iload hx hb dX9_chain_54 (lv_at hl 3 rfl) ?_
    refine n_iald hx hb hB (hL 1020 (by decide)) h_1020 k rfl (by omega) (by omega) dX9_chain_56 ?_
    refine lv_i2l hx hb dX9_chain_57 rfl ?_
    refine lv_lmul hx hb dX9_chain_58 ?_
    refine lv_ladd hx hb dX9_chain_59 ?_
    refine lv_ldc2 hx hb hown (hts (.constantLong RX9 151 (10)) (by decide +kernel)) dX9_chain_60 ?_
    refine lv_aload_n hx hb dX9_chain_63 rfl (lv_at hl 0 rfl) ?_
    refine m_get (C := RX9) (T := TX9) (N := 33) (ci := 9) hx hb hts in_X9_chain_X9 hown hB (hL 1000 (by decide)) h_1000 rfl 20 (by decide) (hts (.fieldLink RX9 56 "PaperRoomModel" "entryPaper" "[I") (by decide +kernel)) (fun _ h9 => h9) rfl dX9_chain_64 ?_
    refine lv_iload hx hb dX9_chain_67 (lv_at hl 3 rfl) ?_
    refine n_iald hx hb hB (hL 1021 (by decide)) h_1021 k rfl (by omega) (by omega) dX9_chain_69 ?_
    refine lv_i2l hx hb dX9_chain_70 rfl ?_
    refine lv_lmul hx hb dX9_chain_71 ?_
    refine lv_ladd hx hb dX9_chain_72 ?_
    refine lv_aload_n hx hb dX9_chain_73 rfl (lv_at hl 0 rfl) ?_
    refine m_get (C := RX9) (T := TX9) (N := 33) (ci := 9) hx hb hts in_X9_chain_X9 hown hB (hL 1000 (by decide)) h_1000 rfl 21 (by decide) (hts (.fieldLink RX9 59 "PaperRoomModel" "entryVersion" "[I") (by decide +kernel)) (fun _ h9 => h9) rfl dX9_chain_74 ?_
    refine lv_iload hx hb dX9_chain_77 (lv_at hl 3 rfl) ?_
    refine n_iald hx hb hB (hL 1022 (by decide)) h_1022 k rfl (by omega) (by omega) dX9_chain_79 ?_
    refine lv_i2l hx hb dX9_chain_80 rfl ?_
    refine lv_ladd hx hb dX9_chain_81 ?_
    refine lv_lstore_n (lv' := [(2, .long (((((31 * (lkc (a 18) (a 19) (a 20) (a 21) k)) + (1000 * (((a 18) k).toInt64))) + (100 * (((a 19) k).toInt64))) + (10 * (((a 20) k).toInt64))) + (((a 21) k).toInt64))), (0, .ref (ad 1000)), (1, .int (nI q)), (4, .int (nI k))]) hx hb dX9_chain_82 rfl hl (by decide) rfl (fun ls hl => ?_)
    refine lv_iinc (v := nI (k + 1)) (lv' := [(4, .int (nI (k + 1))), (2, .long (((((31 * (lkc (a 18) (a 19) (a 20) (a 21) k)) + (1000 * (((a 18) k).toInt64))) + (100 * (((a 19) k).toInt64))) + (10 * (((a 20) k).toInt64))) + (((a 21) k).toInt64))), (0, .ref (ad 1000)), (1, .int (nI q))]) hx hb dX9_chain_83 hl (k := 3) rfl (nI_add k 1) (by decide) rfl (fun ls hl => ?_)
    refine lv_goto (tgt := 23) hx hb dX9_chain_86 (by decide) ?_
    replace hl : lv_has ls 5 [(4, .int (nI (k + 1))), (2, .long (lkc (a 18) (a 19) (a 20) (a 21) (k + 1))), (0, .ref (ad 1000)), (1, .int (nI q))] := hl
    have hl : lv_has ls 5 [(0, .ref (ad 1000)), (1, .int (nI q)), (2, .long (lkc (a 18) (a 19) (a 20) (a 21) (k + 1))), (4, .int (nI (k + 1)))] := lv_sub hl [2, 3, 1, 0] rfl
    apply ihj (k := (k + 1)) (H := H) (locs := locs) (ls := ls) <;> first | omega | exact hB | exact hl
set_option maxRecDepth 20000 in
theorem in_X9_times_X9 : ∀ w ∈ wsX90, w ∈ wsX9_times := by decide +kernel
set_option maxHeartbeats 1000000 in
set_option maxRecDepth 100000 in
theorem c_M_times (l : Launch) (D : va_G) (ty : Nat → ClassId) (L : List Nat) (ad : Nat → Nat) (g : Nat → va_E) (a : Nat → Nat → Int32) (dn pn en qn mz : Nat) (nw lo : Int32) (tr : Int64) (b j k0 vj : Nat) (hM : RM ty L ad g a dn pn en qn mz nw lo tr) (hb6 : b < 6) (hj9 : j < pn) (hpn : pn ≤ 8) (hvj : a 10 j = nI vj) (hv4 : vj ≤ 4) (hk0 : k0 < vj) (hen : en ≤ 200) : m_E l yX9_times wsX9_times 3 65 D ty [.ref (ad 1000), .int (nI b), .int (nI j), .int (nI k0)] L ad g (some (.int (nI (rdc (a 19) (a 20) (a 21) (nI b) (nI j) (nI k0) en)))) g := by
  intro sz
  refine Met.ofW (cc := cX9_times) (maxL := 6) (ret := (some .int)) (by decide) rfl ?_
  intro p e s m args below meth c s₁ B hml hv
  have hx := B.exec
  have hb := B.bytes
  have hrt := B.returns
  have hts := atoms_spec (ws := wsX9_times) B.pre
  have hown : s.vm.findClass RX9 = some m.cls := findClass_of_methodNamed B.named
  have hlocks := B.notSynchronized
  obtain ⟨rfl, hB⟩ := m_start hv
  generalize va_A (m_w L ad g) sz = A at hB ⊢
  generalize s.heap = H at hB ⊢
  generalize ([] : List Loc) = locs at hB ⊢
  have hl := lv_entry ([.ref (ad 1000), .int (nI b), .int (nI j), .int (nI k0)]) (n := 6) (Nat.le_of_ble_eq_true rfl)
  rw [lg_entry_eq]
  generalize (lg_sl ([.ref (ad 1000), .int (nI b), .int (nI j), .int (nI k0)]) ++ List.replicate (6 - (lg_sl ([.ref (ad 1000), .int (nI b), .int (nI j), .int (nI k0)])).length) Slot.unset).toArray = ls at hl ⊢
  have hl : lv_has ls 6 [(0, .ref (ad 1000)), (1, .int (nI b)), (2, .int (nI j)), (3, .int (nI k0))] := hl
  obtain ⟨hL, h_1000, h_1002, h_1004, h_1005, h_1007, h_1008, h_1009, h_1010, h_1011, h_1012, h_1013, h_1014, h_1015, h_1016, h_1019, h_1020, h_1021, h_1022, h_1024, h_1025, h_1026, h_1027, h_1028, h_1029, h_1030, h_1032⟩ := id hM
  refine lv_iload_n hx hb dX9_times_0 rfl (lv_at hl 1 rfl) ?_
  refine m_callSE (As := [.int (nI b)]) (rest := []) (c_M_isBidder_t l D ty L ad _ b hb6) ⟨hx, hb, hml, hown, hts⟩ (va_cwS 1 hts gX9_times_X9_isBidder rfl rfl rfl (by decide +kernel) ⟨Nat.le_of_ble_eq_true rfl, Nat.le_of_ble_eq_true rfl⟩) hB rfl hl.1 rfl (Nat.le_of_ble_eq_true rfl) dX9_times_1 ⟨Nat.le_of_ble_eq_true rfl, Nat.le_of_ble_eq_true rfl⟩ (fun H locs hB => ?_)
  refine b_if_eq_f 16 hx hb dX9_times_4 (by decide) (by decide) ?_
  refine lv_aload_n hx hb dX9_times_7 rfl (lv_at hl 0 rfl) ?_
  refine lv_iload_n hx hb dX9_times_8 rfl (lv_at hl 2 rfl) ?_
  refine lv_iload_n hx hb dX9_times_9 rfl (lv_at hl 3 rfl) ?_
  refine m_callVE (ci := 9) (As := [.int (nI j), .int (nI k0)]) (rest := []) (c_M_isVersion_t l D ty L ad _ a dn pn en qn mz nw lo tr j k0 vj hM hj9 hpn hvj hv4 hk0) ⟨hx, hb, hml, hown, hts⟩ (cwV 2 hts gX9_times_X9_isVersion rfl rfl rfl (by decide +kernel) ⟨Nat.le_of_ble_eq_true rfl, Nat.le_of_ble_eq_true rfl⟩) hB (hL 1000 (by decide)) h_1000 rfl rfl hl.1 rfl (Nat.le_of_ble_eq_true rfl) dX9_times_10 ⟨Nat.le_of_ble_eq_true rfl, Nat.le_of_ble_eq_true rfl⟩ (fun H locs hB => ?_)
  refine b_if_ne_t 18 hx hb dX9_times_13 (by decide) (by decide) ?_
  refine lv_iconst (v := 0) hx hb dX9_times_18 (by decide) ?_
  refine lv_istore (lv' := [(4, .int 0), (0, .ref (ad 1000)), (1, .int (nI b)), (2, .int (nI j)), (3, .int (nI k0))]) hx hb dX9_times_19 hl (by decide) rfl (fun ls hl => ?_)
  refine lv_iconst (v := 0) hx hb dX9_times_21 (by decide) ?_
  refine lv_istore (lv' := [(5, .int 0), (4, .int 0), (0, .ref (ad 1000)), (1, .int (nI b)), (2, .int (nI j)), (3, .int (nI k0))]) hx hb dX9_times_22 hl (by decide) rfl (fun ls hl => ?_)
  have tI_en : (nI en).toInt = (en : Int) := nI_toInt (by omega)
  replace hl : lv_has ls 6 [(0, .ref (ad 1000)), (1, .int (nI b)), (2, .int (nI j)), (3, .int (nI k0)), (4, .int 0), (5, .int 0)] := lv_sub hl [2, 3, 4, 5, 1, 0] rfl
  obtain ⟨k, hk0⟩ : ∃ k : Nat, k = 0 := ⟨0, rfl⟩
  replace hl : lv_has ls 6 [(0, .ref (ad 1000)), (1, .int (nI b)), (2, .int (nI j)), (3, .int (nI k0)), (4, .int (nI (rdc (a 19) (a 20) (a 21) (nI b) (nI j) (nI k0) k))), (5, .int (nI k))] := by rw [hk0]; exact hl
  obtain ⟨jz, hj⟩ : ∃ jz : Nat, k + jz = en := ⟨en - k, by omega⟩
  clear hk0
  induction jz generalizing k H locs ls with
  | zero =>
    have hje : k = en := by omega
    have tI_k : (nI k).toInt = (k : Int) := nI_toInt (by omega)
    refine lv_iload hx hb dX9_times_24 (lv_at hl 5 rfl) ?_
    refine lv_aload_n hx hb dX9_times_26 rfl (lv_at hl 0 rfl) ?_
    refine m_get (C := RX9) (T := TX9) (N := 33) (ci := 9) hx hb hts in_X9_times_X9 hown hB (hL 1000 (by decide)) h_1000 rfl 16 (by decide) (hts (.fieldLink RX9 134 "PaperRoomModel" "entries" "I") (by decide +kernel)) (fun _ h9 => h9) rfl dX9_times_27 ?_
    refine b_icmp_ge_t 82 hx hb dX9_times_30 (by decide) (by omega) ?_
    refine lv_iload hx hb dX9_times_82 (lv_at hl 4 rfl) ?_
    exact m_iret hx hb hrt hlocks hB (Nat.le_refl _) (Nat.le_refl _) dX9_times_84 ⟨by rw [hje], rfl, rfl, rfl⟩
  | succ jz ihj =>
    have hjl : k < en := by omega
    have tI_k : (nI k).toInt = (k : Int) := nI_toInt (by omega)
    by_cases h1 : a 19 k = nI b
    · skip
      by_cases h2 : a 20 k = nI j
      · skip
        by_cases h3 : a 21 k = nI k0
        · skip
          have h9 : (a 19 k = nI b ∧ a 20 k = nI j ∧ a 21 k = nI k0) := ⟨h1, h2, h3⟩
          refine lv_iload hx hb dX9_times_24 (lv_at hl 5 rfl) ?_
          refine lv_aload_n hx hb dX9_times_26 rfl (lv_at hl 0 rfl) ?_
          refine m_get (C := RX9) (T := TX9) (N := 33) (ci := 9) hx hb hts in_X9_times_X9 hown hB (hL 1000 (by decide)) h_1000 rfl 16 (by decide) (hts (.fieldLink RX9 134 "PaperRoomModel" "entries" "I") (by decide +kernel)) (fun _ h9 => h9) rfl dX9_times_27 ?_
          refine b_icmp_ge_f 82 hx hb dX9_times_30 (by decide) (by omega) ?_
          refine lv_iload hx hb dX9_times_33 (lv_at hl 4 rfl) ?_
          refine lv_aload_n hx hb dX9_times_35 rfl (lv_at hl 0 rfl) ?_
          refine m_get (C := RX9) (T := TX9) (N := 33) (ci := 9) hx hb hts in_X9_times_X9 hown hB (hL 1000 (by decide)) h_1000 rfl 19 (by decide) (hts (.fieldLink RX9 53 "PaperRoomModel" "entryBidder" "[I") (by decide +kernel)) (fun _ h9 => h9) rfl dX9_times_36 ?_
          refine lv_iload hx hb dX9_times_39 (lv_at hl 5 rfl) ?_
          refine n_iald hx hb hB (hL 1020 (by decide)) h_1020 k rfl (by omega) (by omega) dX9_times_41 ?_
          refine lv_iload_n hx hb dX9_times_42 rfl (lv_at hl 1 rfl) ?_
          refine b_icmp_ne_f 72 hx hb dX9_times_43 (by decide) (by rw [h1]) ?_
          refine lv_aload_n hx hb dX9_times_46 rfl (lv_at hl 0 rfl) ?_
          refine m_get (C := RX9) (T := TX9) (N := 33) (ci := 9) hx hb hts in_X9_times_X9 hown hB (hL 1000 (by decide)) h_1000 rfl 20 (by decide) (hts (.fieldLink RX9 56 "PaperRoomModel" "entryPaper" "[I") (by decide +kernel)) (fun _ h9 => h9) rfl dX9_times_47 ?_
          refine lv_iload hx hb dX9_times_50 (lv_at hl 5 rfl) ?_
          refine n_iald hx hb hB (hL 1021 (by decide)) h_1021 k rfl (by omega) (by omega) dX9_times_52 ?_
          refine lv_iload_n hx hb dX9_times_53 rfl (lv_at hl 2 rfl) ?_
          refine b_icmp_ne_f 72 hx hb dX9_times_54 (by decide) (by rw [h2]) ?_
          refine lv_aload_n hx hb dX9_times_57 rfl (lv_at hl 0 rfl) ?_
          refine m_get (C := RX9) (T := TX9) (N := 33) (ci := 9) hx hb hts in_X9_times_X9 hown hB (hL 1000 (by decide)) h_1000 rfl 21 (by decide) (hts (.fieldLink RX9 59 "PaperRoomModel" "entryVersion" "[I") (by decide +kernel)) (fun _ h9 => h9) rfl dX9_times_58 ?_
          refine lv_iload hx hb dX9_times_61 (lv_at hl 5 rfl) ?_
          refine n_iald hx hb hB (hL 1022 (by decide)) h_1022 k rfl (by omega) (by omega) dX9_times_63 ?_
          refine lv_iload_n hx hb dX9_times_64 rfl (lv_at hl 3 rfl) ?_
          refine b_icmp_ne_f 72 hx hb dX9_times_65 (by decide) (by rw [h3]) ?_
          refine lv_iconst (v := 1) hx hb dX9_times_68 (by decide) ?_
          refine lv_goto (tgt := 73) hx hb dX9_times_69 (by decide) ?_
          refine lv_iadd hx hb dX9_times_73 ?_
          refine b_topi (w := nI (rdc (a 19) (a 20) (a 21) (nI b) (nI j) (nI k0) (k + 1))) (by rw [rdc_1 h9]; exact nI_add _ 1) ?_
          refine lv_istore (lv' := [(4, .int (nI (rdc (a 19) (a 20) (a 21) (nI b) (nI j) (nI k0) (k + 1)))), (0, .ref (ad 1000)), (1, .int (nI b)), (2, .int (nI j)), (3, .int (nI k0)), (5, .int (nI k))]) hx hb dX9_times_74 hl (by decide) rfl (fun ls hl => ?_)
          refine lv_iinc (v := nI (k + 1)) (lv' := [(5, .int (nI (k + 1))), (4, .int (nI (rdc (a 19) (a 20) (a 21) (nI b) (nI j) (nI k0) (k + 1)))), (0, .ref (ad 1000)), (1, .int (nI b)), (2, .int (nI j)), (3, .int (nI k0))]) hx hb dX9_times_76 hl (k := 5) rfl (nI_add k 1) (by decide) rfl (fun ls hl => ?_)
          refine lv_goto (tgt := 24) hx hb dX9_times_79 (by decide) ?_
          have hl : lv_has ls 6 [(0, .ref (ad 1000)), (1, .int (nI b)), (2, .int (nI j)), (3, .int (nI k0)), (4, .int (nI (rdc (a 19) (a 20) (a 21) (nI b) (nI j) (nI k0) (k + 1)))), (5, .int (nI (k + 1)))] := lv_sub hl [2, 3, 4, 5, 1, 0] rfl
          apply ihj (k := (k + 1)) (H := H) (locs := locs) (ls := ls) <;> first | omega | exact hB | exact hl
        · skip
          have h9 : ¬ (a 19 k = nI b ∧ a 20 k = nI j ∧ a 21 k = nI k0) := fun h => h3 h.2.2
          refine lv_iload hx hb dX9_times_24 (lv_at hl 5 rfl) ?_
          refine lv_aload_n hx hb dX9_times_26 rfl (lv_at hl 0 rfl) ?_
          refine m_get (C := RX9) (T := TX9) (N := 33) (ci := 9) hx hb hts in_X9_times_X9 hown hB (hL 1000 (by decide)) h_1000 rfl 16 (by decide) (hts (.fieldLink RX9 134 "PaperRoomModel" "entries" "I") (by decide +kernel)) (fun _ h9 => h9) rfl dX9_times_27 ?_
          refine b_icmp_ge_f 82 hx hb dX9_times_30 (by decide) (by omega) ?_
          refine lv_iload hx hb dX9_times_33 (lv_at hl 4 rfl) ?_
          refine lv_aload_n hx hb dX9_times_35 rfl (lv_at hl 0 rfl) ?_
          refine m_get (C := RX9) (T := TX9) (N := 33) (ci := 9) hx hb hts in_X9_times_X9 hown hB (hL 1000 (by decide)) h_1000 rfl 19 (by decide) (hts (.fieldLink RX9 53 "PaperRoomModel" "entryBidder" "[I") (by decide +kernel)) (fun _ h9 => h9) rfl dX9_times_36 ?_
          refine lv_iload hx hb dX9_times_39 (lv_at hl 5 rfl) ?_
          refine n_iald hx hb hB (hL 1020 (by decide)) h_1020 k rfl (by omega) (by omega) dX9_times_41 ?_
          refine lv_iload_n hx hb dX9_times_42 rfl (lv_at hl 1 rfl) ?_
          refine b_icmp_ne_f 72 hx hb dX9_times_43 (by decide) (by rw [h1]) ?_
          refine lv_aload_n hx hb dX9_times_46 rfl (lv_at hl 0 rfl) ?_
          refine m_get (C := RX9) (T := TX9) (N := 33) (ci := 9) hx hb hts in_X9_times_X9 hown hB (hL 1000 (by decide)) h_1000 rfl 20 (by decide) (hts (.fieldLink RX9 56 "PaperRoomModel" "entryPaper" "[I") (by decide +kernel)) (fun _ h9 => h9) rfl dX9_times_47 ?_
          refine lv_iload hx hb dX9_times_50 (lv_at hl 5 rfl) ?_
          refine n_iald hx hb hB (hL 1021 (by decide)) h_1021 k rfl (by omega) (by omega) dX9_times_52 ?_
          refine lv_iload_n hx hb dX9_times_53 rfl (lv_at hl 2 rfl) ?_
          refine b_icmp_ne_f 72 hx hb dX9_times_54 (by decide) (by rw [h2]) ?_
          refine lv_aload_n hx hb dX9_times_57 rfl (lv_at hl 0 rfl) ?_
          refine m_get (C := RX9) (T := TX9) (N := 33) (ci := 9) hx hb hts in_X9_times_X9 hown hB (hL 1000 (by decide)) h_1000 rfl 21 (by decide) (hts (.fieldLink RX9 59 "PaperRoomModel" "entryVersion" "[I") (by decide +kernel)) (fun _ h9 => h9) rfl dX9_times_58 ?_
          refine lv_iload hx hb dX9_times_61 (lv_at hl 5 rfl) ?_
          refine n_iald hx hb hB (hL 1022 (by decide)) h_1022 k rfl (by omega) (by omega) dX9_times_63 ?_
          refine lv_iload_n hx hb dX9_times_64 rfl (lv_at hl 3 rfl) ?_
          refine b_icmp_ne_t 72 hx hb dX9_times_65 (by decide) (fun h8 => h3 ((i_eq _ _).mpr h8)) ?_
          refine lv_iconst (v := 0) hx hb dX9_times_72 (by decide) ?_
          refine lv_iadd hx hb dX9_times_73 ?_
          refine b_topi (w := nI (rdc (a 19) (a 20) (a 21) (nI b) (nI j) (nI k0) (k + 1))) (by rw [rdc_0 h9]; exact nI_add _ 0) ?_
          refine lv_istore (lv' := [(4, .int (nI (rdc (a 19) (a 20) (a 21) (nI b) (nI j) (nI k0) (k + 1)))), (0, .ref (ad 1000)), (1, .int (nI b)), (2, .int (nI j)), (3, .int (nI k0)), (5, .int (nI k))]) hx hb dX9_times_74 hl (by decide) rfl (fun ls hl => ?_)
          refine lv_iinc (v := nI (k + 1)) (lv' := [(5, .int (nI (k + 1))), (4, .int (nI (rdc (a 19) (a 20) (a 21) (nI b) (nI j) (nI k0) (k + 1)))), (0, .ref (ad 1000)), (1, .int (nI b)), (2, .int (nI j)), (3, .int (nI k0))]) hx hb dX9_times_76 hl (k := 5) rfl (nI_add k 1) (by decide) rfl (fun ls hl => ?_)
          refine lv_goto (tgt := 24) hx hb dX9_times_79 (by decide) ?_
          have hl : lv_has ls 6 [(0, .ref (ad 1000)), (1, .int (nI b)), (2, .int (nI j)), (3, .int (nI k0)), (4, .int (nI (rdc (a 19) (a 20) (a 21) (nI b) (nI j) (nI k0) (k + 1)))), (5, .int (nI (k + 1)))] := lv_sub hl [2, 3, 4, 5, 1, 0] rfl
          apply ihj (k := (k + 1)) (H := H) (locs := locs) (ls := ls) <;> first | omega | exact hB | exact hl
      · skip
        have h9 : ¬ (a 19 k = nI b ∧ a 20 k = nI j ∧ a 21 k = nI k0) := fun h => h2 h.2.1
        refine lv_iload hx hb dX9_times_24 (lv_at hl 5 rfl) ?_
        refine lv_aload_n hx hb dX9_times_26 rfl (lv_at hl 0 rfl) ?_
        refine m_get (C := RX9) (T := TX9) (N := 33) (ci := 9) hx hb hts in_X9_times_X9 hown hB (hL 1000 (by decide)) h_1000 rfl 16 (by decide) (hts (.fieldLink RX9 134 "PaperRoomModel" "entries" "I") (by decide +kernel)) (fun _ h9 => h9) rfl dX9_times_27 ?_
        refine b_icmp_ge_f 82 hx hb dX9_times_30 (by decide) (by omega) ?_
        refine lv_iload hx hb dX9_times_33 (lv_at hl 4 rfl) ?_
        refine lv_aload_n hx hb dX9_times_35 rfl (lv_at hl 0 rfl) ?_
        refine m_get (C := RX9) (T := TX9) (N := 33) (ci := 9) hx hb hts in_X9_times_X9 hown hB (hL 1000 (by decide)) h_1000 rfl 19 (by decide) (hts (.fieldLink RX9 53 "PaperRoomModel" "entryBidder" "[I") (by decide +kernel)) (fun _ h9 => h9) rfl dX9_times_36 ?_
        refine lv_iload hx hb dX9_times_39 (lv_at hl 5 rfl) ?_
        refine n_iald hx hb hB (hL 1020 (by decide)) h_1020 k rfl (by omega) (by omega) dX9_times_41 ?_
        refine lv_iload_n hx hb dX9_times_42 rfl (lv_at hl 1 rfl) ?_
        refine b_icmp_ne_f 72 hx hb dX9_times_43 (by decide) (by rw [h1]) ?_
        refine lv_aload_n hx hb dX9_times_46 rfl (lv_at hl 0 rfl) ?_
        refine m_get (C := RX9) (T := TX9) (N := 33) (ci := 9) hx hb hts in_X9_times_X9 hown hB (hL 1000 (by decide)) h_1000 rfl 20 (by decide) (hts (.fieldLink RX9 56 "PaperRoomModel" "entryPaper" "[I") (by decide +kernel)) (fun _ h9 => h9) rfl dX9_times_47 ?_
        refine lv_iload hx hb dX9_times_50 (lv_at hl 5 rfl) ?_
        refine n_iald hx hb hB (hL 1021 (by decide)) h_1021 k rfl (by omega) (by omega) dX9_times_52 ?_
        refine lv_iload_n hx hb dX9_times_53 rfl (lv_at hl 2 rfl) ?_
        refine b_icmp_ne_t 72 hx hb dX9_times_54 (by decide) (fun h8 => h2 ((i_eq _ _).mpr h8)) ?_
        refine lv_iconst (v := 0) hx hb dX9_times_72 (by decide) ?_
        refine lv_iadd hx hb dX9_times_73 ?_
        refine b_topi (w := nI (rdc (a 19) (a 20) (a 21) (nI b) (nI j) (nI k0) (k + 1))) (by rw [rdc_0 h9]; exact nI_add _ 0) ?_
        refine lv_istore (lv' := [(4, .int (nI (rdc (a 19) (a 20) (a 21) (nI b) (nI j) (nI k0) (k + 1)))), (0, .ref (ad 1000)), (1, .int (nI b)), (2, .int (nI j)), (3, .int (nI k0)), (5, .int (nI k))]) hx hb dX9_times_74 hl (by decide) rfl (fun ls hl => ?_)
        refine lv_iinc (v := nI (k + 1)) (lv' := [(5, .int (nI (k + 1))), (4, .int (nI (rdc (a 19) (a 20) (a 21) (nI b) (nI j) (nI k0) (k + 1)))), (0, .ref (ad 1000)), (1, .int (nI b)), (2, .int (nI j)), (3, .int (nI k0))]) hx hb dX9_times_76 hl (k := 5) rfl (nI_add k 1) (by decide) rfl (fun ls hl => ?_)
        refine lv_goto (tgt := 24) hx hb dX9_times_79 (by decide) ?_
        have hl : lv_has ls 6 [(0, .ref (ad 1000)), (1, .int (nI b)), (2, .int (nI j)), (3, .int (nI k0)), (4, .int (nI (rdc (a 19) (a 20) (a 21) (nI b) (nI j) (nI k0) (k + 1)))), (5, .int (nI (k + 1)))] := lv_sub hl [2, 3, 4, 5, 1, 0] rfl
        apply ihj (k := (k + 1)) (H := H) (locs := locs) (ls := ls) <;> first | omega | exact hB | exact hl
    · skip
      have h9 : ¬ (a 19 k = nI b ∧ a 20 k = nI j ∧ a 21 k = nI k0) := fun h => h1 h.1
      refine lv_iload hx hb dX9_times_24 (lv_at hl 5 rfl) ?_
      refine lv_aload_n hx hb dX9_times_26 rfl (lv_at hl 0 rfl) ?_
      refine m_get (C := RX9) (T := TX9) (N := 33) (ci := 9) hx hb hts in_X9_times_X9 hown hB (hL 1000 (by decide)) h_1000 rfl 16 (by decide) (hts (.fieldLink RX9 134 "PaperRoomModel" "entries" "I") (by decide +kernel)) (fun _ h9 => h9) rfl dX9_times_27 ?_
      refine b_icmp_ge_f 82 hx hb dX9_times_30 (by decide) (by omega) ?_
      refine lv_iload hx hb dX9_times_33 (lv_at hl 4 rfl) ?_
      refine lv_aload_n hx hb dX9_times_35 rfl (lv_at hl 0 rfl) ?_
      refine m_get (C := RX9) (T := TX9) (N := 33) (ci := 9) hx hb hts in_X9_times_X9 hown hB (hL 1000 (by decide)) h_1000 rfl 19 (by decide) (hts (.fieldLink RX9 53 "PaperRoomModel" "entryBidder" "[I") (by decide +kernel)) (fun _ h9 => h9) rfl dX9_times_36 ?_
      refine lv_iload hx hb dX9_times_39 (lv_at hl 5 rfl) ?_
      refine n_iald hx hb hB (hL 1020 (by decide)) h_1020 k rfl (by omega) (by omega) dX9_times_41 ?_
      refine lv_iload_n hx hb dX9_times_42 rfl (lv_at hl 1 rfl) ?_
      refine b_icmp_ne_t 72 hx hb dX9_times_43 (by decide) (fun h8 => h1 ((i_eq _ _).mpr h8)) ?_
      refine lv_iconst (v := 0) hx hb dX9_times_72 (by decide) ?_
      refine lv_iadd hx hb dX9_times_73 ?_
      refine b_topi (w := nI (rdc (a 19) (a 20) (a 21) (nI b) (nI j) (nI k0) (k + 1))) (by rw [rdc_0 h9]; exact nI_add _ 0) ?_
      refine lv_istore (lv' := [(4, .int (nI (rdc (a 19) (a 20) (a 21) (nI b) (nI j) (nI k0) (k + 1)))), (0, .ref (ad 1000)), (1, .int (nI b)), (2, .int (nI j)), (3, .int (nI k0)), (5, .int (nI k))]) hx hb dX9_times_74 hl (by decide) rfl (fun ls hl => ?_)
      refine lv_iinc (v := nI (k + 1)) (lv' := [(5, .int (nI (k + 1))), (4, .int (nI (rdc (a 19) (a 20) (a 21) (nI b) (nI j) (nI k0) (k + 1)))), (0, .ref (ad 1000)), (1, .int (nI b)), (2, .int (nI j)), (3, .int (nI k0))]) hx hb dX9_times_76 hl (k := 5) rfl (nI_add k 1) (by decide) rfl (fun ls hl => ?_)
      refine lv_goto (tgt := 24) hx hb dX9_times_79 (by decide) ?_
      have hl : lv_has ls 6 [(0, .ref (ad 1000)), (1, .int (nI b)), (2, .int (nI j)), (3, .int (nI k0)), (4, .int (nI (rdc (a 19) (a 20) (a 21) (nI b) (nI j) (nI k0) (k + 1)))), (5, .int (nI (k + 1)))] := lv_sub hl [2, 3, 4, 5, 1, 0] rfl
      apply ihj (k := (k + 1)) (H := H) (locs := locs) (ls := ls) <;> first | omega | exact hB | exact hl
set_option maxHeartbeats 1000000 in
set_option maxRecDepth 100000 in
theorem c_M_times_1 (l : Launch) (D : va_G) (ty : Nat → ClassId) (L : List Nat) (ad : Nat → Nat) (g : Nat → va_E) (a : Nat → Nat → Int32) (dn pn en qn mz : Nat) (nw lo : Int32) (tr : Int64) (i w v : Int32) (hM : RM ty L ad g a dn pn en qn mz nw lo tr) (hi : ¬ (0 ≤ i.toInt ∧ i.toInt < 6)) : m_E l yX9_times wsX9_times 3 65 D ty [.ref (ad 1000), .int i, .int w, .int v] L ad g (some (.int (-1))) g := by
  intro sz
  refine Met.ofW (cc := cX9_times) (maxL := 6) (ret := (some .int)) (by decide) rfl ?_
  intro p e s m args below meth c s₁ B hml hv
  have hx := B.exec
  have hb := B.bytes
  have hrt := B.returns
  have hts := atoms_spec (ws := wsX9_times) B.pre
  have hown : s.vm.findClass RX9 = some m.cls := findClass_of_methodNamed B.named
  have hlocks := B.notSynchronized
  obtain ⟨rfl, hB⟩ := m_start hv
  generalize va_A (m_w L ad g) sz = A at hB ⊢
  generalize s.heap = H at hB ⊢
  generalize ([] : List Loc) = locs at hB ⊢
  have hl := lv_entry ([.ref (ad 1000), .int i, .int w, .int v]) (n := 6) (Nat.le_of_ble_eq_true rfl)
  rw [lg_entry_eq]
  generalize (lg_sl ([.ref (ad 1000), .int i, .int w, .int v]) ++ List.replicate (6 - (lg_sl ([.ref (ad 1000), .int i, .int w, .int v])).length) Slot.unset).toArray = ls at hl ⊢
  have hl : lv_has ls 6 [(0, .ref (ad 1000)), (1, .int i), (2, .int w), (3, .int v)] := hl
  obtain ⟨hL, h_1000, h_1002, h_1004, h_1005, h_1007, h_1008, h_1009, h_1010, h_1011, h_1012, h_1013, h_1014, h_1015, h_1016, h_1019, h_1020, h_1021, h_1022, h_1024, h_1025, h_1026, h_1027, h_1028, h_1029, h_1030, h_1032⟩ := id hM
  refine lv_iload_n hx hb dX9_times_0 rfl (lv_at hl 1 rfl) ?_
  refine m_callSE (As := [.int i]) (rest := []) (c_M_isBidder_f l D ty L ad _ _ hi) ⟨hx, hb, hml, hown, hts⟩ (va_cwS 1 hts gX9_times_X9_isBidder rfl rfl rfl (by decide +kernel) ⟨Nat.le_of_ble_eq_true rfl, Nat.le_of_ble_eq_true rfl⟩) hB rfl hl.1 rfl (Nat.le_of_ble_eq_true rfl) dX9_times_1 ⟨Nat.le_of_ble_eq_true rfl, Nat.le_of_ble_eq_true rfl⟩ (fun H locs hB => ?_)
  refine b_if_eq_t 16 hx hb dX9_times_4 (by decide) (by decide) ?_
  refine lv_iconst (v := (-1)) hx hb dX9_times_16 (by decide) ?_
  exact m_iret hx hb hrt hlocks hB (Nat.le_refl _) (Nat.le_refl _) dX9_times_17 ⟨rfl, rfl, rfl, rfl⟩
set_option maxHeartbeats 1000000 in
set_option maxRecDepth 100000 in
theorem c_M_times_2 (l : Launch) (D : va_G) (ty : Nat → ClassId) (L : List Nat) (ad : Nat → Nat) (g : Nat → va_E) (a : Nat → Nat → Int32) (dn pn en qn mz : Nat) (nw lo : Int32) (tr : Int64) (b : Nat) (i v : Int32) (hM : RM ty L ad g a dn pn en qn mz nw lo tr) (hb6 : b < 6) (hi : ¬ (0 ≤ i.toInt ∧ i.toInt < pn)) (hpn : pn ≤ 8) : m_E l yX9_times wsX9_times 3 65 D ty [.ref (ad 1000), .int (nI b), .int i, .int v] L ad g (some (.int (-1))) g := by
  intro sz
  refine Met.ofW (cc := cX9_times) (maxL := 6) (ret := (some .int)) (by decide) rfl ?_
  intro p e s m args below meth c s₁ B hml hv
  have hx := B.exec
  have hb := B.bytes
  have hrt := B.returns
  have hts := atoms_spec (ws := wsX9_times) B.pre
  have hown : s.vm.findClass RX9 = some m.cls := findClass_of_methodNamed B.named
  have hlocks := B.notSynchronized
  obtain ⟨rfl, hB⟩ := m_start hv
  generalize va_A (m_w L ad g) sz = A at hB ⊢
  generalize s.heap = H at hB ⊢
  generalize ([] : List Loc) = locs at hB ⊢
  have hl := lv_entry ([.ref (ad 1000), .int (nI b), .int i, .int v]) (n := 6) (Nat.le_of_ble_eq_true rfl)
  rw [lg_entry_eq]
  generalize (lg_sl ([.ref (ad 1000), .int (nI b), .int i, .int v]) ++ List.replicate (6 - (lg_sl ([.ref (ad 1000), .int (nI b), .int i, .int v])).length) Slot.unset).toArray = ls at hl ⊢
  have hl : lv_has ls 6 [(0, .ref (ad 1000)), (1, .int (nI b)), (2, .int i), (3, .int v)] := hl
  obtain ⟨hL, h_1000, h_1002, h_1004, h_1005, h_1007, h_1008, h_1009, h_1010, h_1011, h_1012, h_1013, h_1014, h_1015, h_1016, h_1019, h_1020, h_1021, h_1022, h_1024, h_1025, h_1026, h_1027, h_1028, h_1029, h_1030, h_1032⟩ := id hM
  refine lv_iload_n hx hb dX9_times_0 rfl (lv_at hl 1 rfl) ?_
  refine m_callSE (As := [.int (nI b)]) (rest := []) (c_M_isBidder_t l D ty L ad _ b hb6) ⟨hx, hb, hml, hown, hts⟩ (va_cwS 1 hts gX9_times_X9_isBidder rfl rfl rfl (by decide +kernel) ⟨Nat.le_of_ble_eq_true rfl, Nat.le_of_ble_eq_true rfl⟩) hB rfl hl.1 rfl (Nat.le_of_ble_eq_true rfl) dX9_times_1 ⟨Nat.le_of_ble_eq_true rfl, Nat.le_of_ble_eq_true rfl⟩ (fun H locs hB => ?_)
  refine b_if_eq_f 16 hx hb dX9_times_4 (by decide) (by decide) ?_
  refine lv_aload_n hx hb dX9_times_7 rfl (lv_at hl 0 rfl) ?_
  refine lv_iload_n hx hb dX9_times_8 rfl (lv_at hl 2 rfl) ?_
  refine lv_iload_n hx hb dX9_times_9 rfl (lv_at hl 3 rfl) ?_
  refine m_callVE (ci := 9) (As := [.int i, .int v]) (rest := []) (c_M_isVersion_p l D ty L ad _ a dn pn en qn mz nw lo tr _ _ hM hi hpn) ⟨hx, hb, hml, hown, hts⟩ (cwV 2 hts gX9_times_X9_isVersion rfl rfl rfl (by decide +kernel) ⟨Nat.le_of_ble_eq_true rfl, Nat.le_of_ble_eq_true rfl⟩) hB (hL 1000 (by decide)) h_1000 rfl rfl hl.1 rfl (Nat.le_of_ble_eq_true rfl) dX9_times_10 ⟨Nat.le_of_ble_eq_true rfl, Nat.le_of_ble_eq_true rfl⟩ (fun H locs hB => ?_)
  refine b_if_ne_f 18 hx hb dX9_times_13 (by decide) (by decide) ?_
  refine lv_iconst (v := (-1)) hx hb dX9_times_16 (by decide) ?_
  exact m_iret hx hb hrt hlocks hB (Nat.le_refl _) (Nat.le_refl _) dX9_times_17 ⟨rfl, rfl, rfl, rfl⟩
set_option maxHeartbeats 1000000 in
set_option maxRecDepth 100000 in
theorem c_M_times_3 (l : Launch) (D : va_G) (ty : Nat → ClassId) (L : List Nat) (ad : Nat → Nat) (g : Nat → va_E) (a : Nat → Nat → Int32) (dn pn en qn mz : Nat) (nw lo : Int32) (tr : Int64) (b j vj : Nat) (v : Int32) (hM : RM ty L ad g a dn pn en qn mz nw lo tr) (hb6 : b < 6) (hj9 : j < pn) (hpn : pn ≤ 8) (hvj : a 10 j = nI vj) (hv4 : vj ≤ 4) (hi : ¬ (0 ≤ v.toInt ∧ v.toInt < vj)) : m_E l yX9_times wsX9_times 3 65 D ty [.ref (ad 1000), .int (nI b), .int (nI j), .int v] L ad g (some (.int (-1))) g := by
  intro sz
  refine Met.ofW (cc := cX9_times) (maxL := 6) (ret := (some .int)) (by decide) rfl ?_
  intro p e s m args below meth c s₁ B hml hv
  have hx := B.exec
  have hb := B.bytes
  have hrt := B.returns
  have hts := atoms_spec (ws := wsX9_times) B.pre
  have hown : s.vm.findClass RX9 = some m.cls := findClass_of_methodNamed B.named
  have hlocks := B.notSynchronized
  obtain ⟨rfl, hB⟩ := m_start hv
  generalize va_A (m_w L ad g) sz = A at hB ⊢
  generalize s.heap = H at hB ⊢
  generalize ([] : List Loc) = locs at hB ⊢
  have hl := lv_entry ([.ref (ad 1000), .int (nI b), .int (nI j), .int v]) (n := 6) (Nat.le_of_ble_eq_true rfl)
  rw [lg_entry_eq]
  generalize (lg_sl ([.ref (ad 1000), .int (nI b), .int (nI j), .int v]) ++ List.replicate (6 - (lg_sl ([.ref (ad 1000), .int (nI b), .int (nI j), .int v])).length) Slot.unset).toArray = ls at hl ⊢
  have hl : lv_has ls 6 [(0, .ref (ad 1000)), (1, .int (nI b)), (2, .int (nI j)), (3, .int v)] := hl
  obtain ⟨hL, h_1000, h_1002, h_1004, h_1005, h_1007, h_1008, h_1009, h_1010, h_1011, h_1012, h_1013, h_1014, h_1015, h_1016, h_1019, h_1020, h_1021, h_1022, h_1024, h_1025, h_1026, h_1027, h_1028, h_1029, h_1030, h_1032⟩ := id hM
  refine lv_iload_n hx hb dX9_times_0 rfl (lv_at hl 1 rfl) ?_
  refine m_callSE (As := [.int (nI b)]) (rest := []) (c_M_isBidder_t l D ty L ad _ b hb6) ⟨hx, hb, hml, hown, hts⟩ (va_cwS 1 hts gX9_times_X9_isBidder rfl rfl rfl (by decide +kernel) ⟨Nat.le_of_ble_eq_true rfl, Nat.le_of_ble_eq_true rfl⟩) hB rfl hl.1 rfl (Nat.le_of_ble_eq_true rfl) dX9_times_1 ⟨Nat.le_of_ble_eq_true rfl, Nat.le_of_ble_eq_true rfl⟩ (fun H locs hB => ?_)
  refine b_if_eq_f 16 hx hb dX9_times_4 (by decide) (by decide) ?_
  refine lv_aload_n hx hb dX9_times_7 rfl (lv_at hl 0 rfl) ?_
  refine lv_iload_n hx hb dX9_times_8 rfl (lv_at hl 2 rfl) ?_
  refine lv_iload_n hx hb dX9_times_9 rfl (lv_at hl 3 rfl) ?_
  refine m_callVE (ci := 9) (As := [.int (nI j), .int v]) (rest := []) (c_M_isVersion_f l D ty L ad _ a dn pn en qn mz nw lo tr j vj _ hM hj9 hpn hvj hv4 hi) ⟨hx, hb, hml, hown, hts⟩ (cwV 2 hts gX9_times_X9_isVersion rfl rfl rfl (by decide +kernel) ⟨Nat.le_of_ble_eq_true rfl, Nat.le_of_ble_eq_true rfl⟩) hB (hL 1000 (by decide)) h_1000 rfl rfl hl.1 rfl (Nat.le_of_ble_eq_true rfl) dX9_times_10 ⟨Nat.le_of_ble_eq_true rfl, Nat.le_of_ble_eq_true rfl⟩ (fun H locs hB => ?_)
  refine b_if_ne_f 18 hx hb dX9_times_13 (by decide) (by decide) ?_
  refine lv_iconst (v := (-1)) hx hb dX9_times_16 (by decide) ?_
  exact m_iret hx hb hrt hlocks hB (Nat.le_refl _) (Nat.le_refl _) dX9_times_17 ⟨rfl, rfl, rfl, rfl⟩
set_option maxRecDepth 20000 in
theorem in_X9_question_X9 : ∀ w ∈ wsX90, w ∈ wsX9_question := by decide +kernel
set_option maxHeartbeats 1000000 in
set_option maxRecDepth 100000 in
theorem c_M_question_0 (l : Launch) (D : va_G) (ty : Nat → ClassId) (L : List Nat) (ad : Nat → Nat) (g : Nat → va_E) (a : Nat → Nat → Int32) (dn pn en qn mz : Nat) (nw lo : Int32) (tr : Int64) (q : Nat) (hM : RM ty L ad g a dn pn en qn mz nw lo tr) (hq9 : q < qn) (hqn : qn ≤ 30) : m_E l yX9_question wsX9_question 2 43 D ty [.ref (ad 1000), .int (nI q), .int 0] L ad g (some (.int (a 23 q))) g := by
  intro sz
  refine Met.ofW (cc := cX9_question) (maxL := 3) (ret := (some .int)) (by decide) rfl ?_
  intro p e s m args below meth c s₁ B hml hv
  have hx := B.exec
  have hb := B.bytes
  have hrt := B.returns
  have hts := atoms_spec (ws := wsX9_question) B.pre
  have hown : s.vm.findClass RX9 = some m.cls := findClass_of_methodNamed B.named
  have hlocks := B.notSynchronized
  obtain ⟨rfl, hB⟩ := m_start hv
  generalize va_A (m_w L ad g) sz = A at hB ⊢
  generalize s.heap = H at hB ⊢
  generalize ([] : List Loc) = locs at hB ⊢
  have hl := lv_entry ([.ref (ad 1000), .int (nI q), .int 0]) (n := 3) (Nat.le_of_ble_eq_true rfl)
  rw [lg_entry_eq]
  generalize (lg_sl ([.ref (ad 1000), .int (nI q), .int 0]) ++ List.replicate (3 - (lg_sl ([.ref (ad 1000), .int (nI q), .int 0])).length) Slot.unset).toArray = ls at hl ⊢
  have hl : lv_has ls 3 [(0, .ref (ad 1000)), (1, .int (nI q)), (2, .int 0)] := hl
  obtain ⟨hL, h_1000, h_1002, h_1004, h_1005, h_1007, h_1008, h_1009, h_1010, h_1011, h_1012, h_1013, h_1014, h_1015, h_1016, h_1019, h_1020, h_1021, h_1022, h_1024, h_1025, h_1026, h_1027, h_1028, h_1029, h_1030, h_1032⟩ := id hM
  refine lv_aload_n hx hb dX9_question_0 rfl (lv_at hl 0 rfl) ?_
  refine lv_iload_n hx hb dX9_question_1 rfl (lv_at hl 1 rfl) ?_
  refine m_callVE (ci := 9) (As := [.int (nI q)]) (rest := []) (c_M_isQuestion_t l D ty L ad _ a dn pn en qn mz nw lo tr q hM hq9 hqn) ⟨hx, hb, hml, hown, hts⟩ (cwV 1 hts gX9_question_X9_isQuestion rfl rfl rfl (by decide +kernel) ⟨Nat.le_of_ble_eq_true rfl, Nat.le_of_ble_eq_true rfl⟩) hB (hL 1000 (by decide)) h_1000 rfl rfl hl.1 rfl (Nat.le_of_ble_eq_true rfl) dX9_question_2 ⟨Nat.le_of_ble_eq_true rfl, Nat.le_of_ble_eq_true rfl⟩ (fun H locs hB => ?_)
  refine b_if_ne_t 10 hx hb dX9_question_5 (by decide) (by decide) ?_
  refine lv_iload_n hx hb dX9_question_10 rfl (lv_at hl 2 rfl) ?_
  refine lv_tableIn (off := 29) (tgt := 40) hx hb dX9_question_11 (by decide) (by decide) (by decide) (by decide) ?_
  refine lv_aload_n hx hb dX9_question_40 rfl (lv_at hl 0 rfl) ?_
  refine m_get (C := RX9) (T := TX9) (N := 33) (ci := 9) hx hb hts in_X9_question_X9 hown hB (hL 1000 (by decide)) h_1000 rfl 23 (by decide) (hts (.fieldLink RX9 62 "PaperRoomModel" "questionPaper" "[I") (by decide +kernel)) (fun _ h9 => h9) rfl dX9_question_41 ?_
  refine lv_iload_n hx hb dX9_question_44 rfl (lv_at hl 1 rfl) ?_
  refine n_iald hx hb hB (hL 1024 (by decide)) h_1024 q rfl (by omega) (by omega) dX9_question_45 ?_
  exact m_iret hx hb hrt hlocks hB (Nat.le_refl _) (Nat.le_refl _) dX9_question_46 ⟨rfl, rfl, rfl, rfl⟩
set_option maxHeartbeats 1000000 in
set_option maxRecDepth 100000 in
theorem c_M_question_1 (l : Launch) (D : va_G) (ty : Nat → ClassId) (L : List Nat) (ad : Nat → Nat) (g : Nat → va_E) (a : Nat → Nat → Int32) (dn pn en qn mz : Nat) (nw lo : Int32) (tr : Int64) (q : Nat) (hM : RM ty L ad g a dn pn en qn mz nw lo tr) (hq9 : q < qn) (hqn : qn ≤ 30) : m_E l yX9_question wsX9_question 2 43 D ty [.ref (ad 1000), .int (nI q), .int 1] L ad g (some (.int (a 24 q))) g := by
  intro sz
  refine Met.ofW (cc := cX9_question) (maxL := 3) (ret := (some .int)) (by decide) rfl ?_
  intro p e s m args below meth c s₁ B hml hv
  have hx := B.exec
  have hb := B.bytes
  have hrt := B.returns
  have hts := atoms_spec (ws := wsX9_question) B.pre
  have hown : s.vm.findClass RX9 = some m.cls := findClass_of_methodNamed B.named
  have hlocks := B.notSynchronized
  obtain ⟨rfl, hB⟩ := m_start hv
  generalize va_A (m_w L ad g) sz = A at hB ⊢
  generalize s.heap = H at hB ⊢
  generalize ([] : List Loc) = locs at hB ⊢
  have hl := lv_entry ([.ref (ad 1000), .int (nI q), .int 1]) (n := 3) (Nat.le_of_ble_eq_true rfl)
  rw [lg_entry_eq]
  generalize (lg_sl ([.ref (ad 1000), .int (nI q), .int 1]) ++ List.replicate (3 - (lg_sl ([.ref (ad 1000), .int (nI q), .int 1])).length) Slot.unset).toArray = ls at hl ⊢
  have hl : lv_has ls 3 [(0, .ref (ad 1000)), (1, .int (nI q)), (2, .int 1)] := hl
  obtain ⟨hL, h_1000, h_1002, h_1004, h_1005, h_1007, h_1008, h_1009, h_1010, h_1011, h_1012, h_1013, h_1014, h_1015, h_1016, h_1019, h_1020, h_1021, h_1022, h_1024, h_1025, h_1026, h_1027, h_1028, h_1029, h_1030, h_1032⟩ := id hM
  refine lv_aload_n hx hb dX9_question_0 rfl (lv_at hl 0 rfl) ?_
  refine lv_iload_n hx hb dX9_question_1 rfl (lv_at hl 1 rfl) ?_
  refine m_callVE (ci := 9) (As := [.int (nI q)]) (rest := []) (c_M_isQuestion_t l D ty L ad _ a dn pn en qn mz nw lo tr q hM hq9 hqn) ⟨hx, hb, hml, hown, hts⟩ (cwV 1 hts gX9_question_X9_isQuestion rfl rfl rfl (by decide +kernel) ⟨Nat.le_of_ble_eq_true rfl, Nat.le_of_ble_eq_true rfl⟩) hB (hL 1000 (by decide)) h_1000 rfl rfl hl.1 rfl (Nat.le_of_ble_eq_true rfl) dX9_question_2 ⟨Nat.le_of_ble_eq_true rfl, Nat.le_of_ble_eq_true rfl⟩ (fun H locs hB => ?_)
  refine b_if_ne_t 10 hx hb dX9_question_5 (by decide) (by decide) ?_
  refine lv_iload_n hx hb dX9_question_10 rfl (lv_at hl 2 rfl) ?_
  refine lv_tableIn (off := 36) (tgt := 47) hx hb dX9_question_11 (by decide) (by decide) (by decide) (by decide) ?_
  refine lv_aload_n hx hb dX9_question_47 rfl (lv_at hl 0 rfl) ?_
  refine m_get (C := RX9) (T := TX9) (N := 33) (ci := 9) hx hb hts in_X9_question_X9 hown hB (hL 1000 (by decide)) h_1000 rfl 24 (by decide) (hts (.fieldLink RX9 65 "PaperRoomModel" "questionTopic" "[I") (by decide +kernel)) (fun _ h9 => h9) rfl dX9_question_48 ?_
  refine lv_iload_n hx hb dX9_question_51 rfl (lv_at hl 1 rfl) ?_
  refine n_iald hx hb hB (hL 1025 (by decide)) h_1025 q rfl (by omega) (by omega) dX9_question_52 ?_
  exact m_iret hx hb hrt hlocks hB (Nat.le_refl _) (Nat.le_refl _) dX9_question_53 ⟨rfl, rfl, rfl, rfl⟩
set_option maxHeartbeats 1000000 in
set_option maxRecDepth 100000 in
theorem c_M_question_2 (l : Launch) (D : va_G) (ty : Nat → ClassId) (L : List Nat) (ad : Nat → Nat) (g : Nat → va_E) (a : Nat → Nat → Int32) (dn pn en qn mz : Nat) (nw lo : Int32) (tr : Int64) (q : Nat) (hM : RM ty L ad g a dn pn en qn mz nw lo tr) (hq9 : q < qn) (hqn : qn ≤ 30) : m_E l yX9_question wsX9_question 2 43 D ty [.ref (ad 1000), .int (nI q), .int 2] L ad g (some (.int (a 25 q))) g := by
  intro sz
  refine Met.ofW (cc := cX9_question) (maxL := 3) (ret := (some .int)) (by decide) rfl ?_
  intro p e s m args below meth c s₁ B hml hv
  have hx := B.exec
  have hb := B.bytes
  have hrt := B.returns
  have hts := atoms_spec (ws := wsX9_question) B.pre
  have hown : s.vm.findClass RX9 = some m.cls := findClass_of_methodNamed B.named
  have hlocks := B.notSynchronized
  obtain ⟨rfl, hB⟩ := m_start hv
  generalize va_A (m_w L ad g) sz = A at hB ⊢
  generalize s.heap = H at hB ⊢
  generalize ([] : List Loc) = locs at hB ⊢
  have hl := lv_entry ([.ref (ad 1000), .int (nI q), .int 2]) (n := 3) (Nat.le_of_ble_eq_true rfl)
  rw [lg_entry_eq]
  generalize (lg_sl ([.ref (ad 1000), .int (nI q), .int 2]) ++ List.replicate (3 - (lg_sl ([.ref (ad 1000), .int (nI q), .int 2])).length) Slot.unset).toArray = ls at hl ⊢
  have hl : lv_has ls 3 [(0, .ref (ad 1000)), (1, .int (nI q)), (2, .int 2)] := hl
  obtain ⟨hL, h_1000, h_1002, h_1004, h_1005, h_1007, h_1008, h_1009, h_1010, h_1011, h_1012, h_1013, h_1014, h_1015, h_1016, h_1019, h_1020, h_1021, h_1022, h_1024, h_1025, h_1026, h_1027, h_1028, h_1029, h_1030, h_1032⟩ := id hM
  refine lv_aload_n hx hb dX9_question_0 rfl (lv_at hl 0 rfl) ?_
  refine lv_iload_n hx hb dX9_question_1 rfl (lv_at hl 1 rfl) ?_
  refine m_callVE (ci := 9) (As := [.int (nI q)]) (rest := []) (c_M_isQuestion_t l D ty L ad _ a dn pn en qn mz nw lo tr q hM hq9 hqn) ⟨hx, hb, hml, hown, hts⟩ (cwV 1 hts gX9_question_X9_isQuestion rfl rfl rfl (by decide +kernel) ⟨Nat.le_of_ble_eq_true rfl, Nat.le_of_ble_eq_true rfl⟩) hB (hL 1000 (by decide)) h_1000 rfl rfl hl.1 rfl (Nat.le_of_ble_eq_true rfl) dX9_question_2 ⟨Nat.le_of_ble_eq_true rfl, Nat.le_of_ble_eq_true rfl⟩ (fun H locs hB => ?_)
  refine b_if_ne_t 10 hx hb dX9_question_5 (by decide) (by decide) ?_
  refine lv_iload_n hx hb dX9_question_10 rfl (lv_at hl 2 rfl) ?_
  refine lv_tableIn (off := 43) (tgt := 54) hx hb dX9_question_11 (by decide) (by decide) (by decide) (by decide) ?_
  refine lv_aload_n hx hb dX9_question_54 rfl (lv_at hl 0 rfl) ?_
  refine m_get (C := RX9) (T := TX9) (N := 33) (ci := 9) hx hb hts in_X9_question_X9 hown hB (hL 1000 (by decide)) h_1000 rfl 25 (by decide) (hts (.fieldLink RX9 68 "PaperRoomModel" "askers" "[I") (by decide +kernel)) (fun _ h9 => h9) rfl dX9_question_55 ?_
  refine lv_iload_n hx hb dX9_question_58 rfl (lv_at hl 1 rfl) ?_
  refine n_iald hx hb hB (hL 1026 (by decide)) h_1026 q rfl (by omega) (by omega) dX9_question_59 ?_
  exact m_iret hx hb hrt hlocks hB (Nat.le_refl _) (Nat.le_refl _) dX9_question_60 ⟨rfl, rfl, rfl, rfl⟩
set_option maxHeartbeats 1000000 in
set_option maxRecDepth 100000 in
theorem c_M_question_3 (l : Launch) (D : va_G) (ty : Nat → ClassId) (L : List Nat) (ad : Nat → Nat) (g : Nat → va_E) (a : Nat → Nat → Int32) (dn pn en qn mz : Nat) (nw lo : Int32) (tr : Int64) (q : Nat) (hM : RM ty L ad g a dn pn en qn mz nw lo tr) (hq9 : q < qn) (hqn : qn ≤ 30) : m_E l yX9_question wsX9_question 2 43 D ty [.ref (ad 1000), .int (nI q), .int 3] L ad g (some (.int (a 26 q))) g := by
  intro sz
  refine Met.ofW (cc := cX9_question) (maxL := 3) (ret := (some .int)) (by decide) rfl ?_
  intro p e s m args below meth c s₁ B hml hv
  have hx := B.exec
  have hb := B.bytes
  have hrt := B.returns
  have hts := atoms_spec (ws := wsX9_question) B.pre
  have hown : s.vm.findClass RX9 = some m.cls := findClass_of_methodNamed B.named
  have hlocks := B.notSynchronized
  obtain ⟨rfl, hB⟩ := m_start hv
  generalize va_A (m_w L ad g) sz = A at hB ⊢
  generalize s.heap = H at hB ⊢
  generalize ([] : List Loc) = locs at hB ⊢
  have hl := lv_entry ([.ref (ad 1000), .int (nI q), .int 3]) (n := 3) (Nat.le_of_ble_eq_true rfl)
  rw [lg_entry_eq]
  generalize (lg_sl ([.ref (ad 1000), .int (nI q), .int 3]) ++ List.replicate (3 - (lg_sl ([.ref (ad 1000), .int (nI q), .int 3])).length) Slot.unset).toArray = ls at hl ⊢
  have hl : lv_has ls 3 [(0, .ref (ad 1000)), (1, .int (nI q)), (2, .int 3)] := hl
  obtain ⟨hL, h_1000, h_1002, h_1004, h_1005, h_1007, h_1008, h_1009, h_1010, h_1011, h_1012, h_1013, h_1014, h_1015, h_1016, h_1019, h_1020, h_1021, h_1022, h_1024, h_1025, h_1026, h_1027, h_1028, h_1029, h_1030, h_1032⟩ := id hM
  refine lv_aload_n hx hb dX9_question_0 rfl (lv_at hl 0 rfl) ?_
  refine lv_iload_n hx hb dX9_question_1 rfl (lv_at hl 1 rfl) ?_
  refine m_callVE (ci := 9) (As := [.int (nI q)]) (rest := []) (c_M_isQuestion_t l D ty L ad _ a dn pn en qn mz nw lo tr q hM hq9 hqn) ⟨hx, hb, hml, hown, hts⟩ (cwV 1 hts gX9_question_X9_isQuestion rfl rfl rfl (by decide +kernel) ⟨Nat.le_of_ble_eq_true rfl, Nat.le_of_ble_eq_true rfl⟩) hB (hL 1000 (by decide)) h_1000 rfl rfl hl.1 rfl (Nat.le_of_ble_eq_true rfl) dX9_question_2 ⟨Nat.le_of_ble_eq_true rfl, Nat.le_of_ble_eq_true rfl⟩ (fun H locs hB => ?_)
  refine b_if_ne_t 10 hx hb dX9_question_5 (by decide) (by decide) ?_
  refine lv_iload_n hx hb dX9_question_10 rfl (lv_at hl 2 rfl) ?_
  refine lv_tableIn (off := 50) (tgt := 61) hx hb dX9_question_11 (by decide) (by decide) (by decide) (by decide) ?_
  refine lv_aload_n hx hb dX9_question_61 rfl (lv_at hl 0 rfl) ?_
  refine m_get (C := RX9) (T := TX9) (N := 33) (ci := 9) hx hb hts in_X9_question_X9 hown hB (hL 1000 (by decide)) h_1000 rfl 26 (by decide) (hts (.fieldLink RX9 71 "PaperRoomModel" "isAnswered" "[I") (by decide +kernel)) (fun _ h9 => h9) rfl dX9_question_62 ?_
  refine lv_iload_n hx hb dX9_question_65 rfl (lv_at hl 1 rfl) ?_
  refine n_iald hx hb hB (hL 1027 (by decide)) h_1027 q rfl (by omega) (by omega) dX9_question_66 ?_
  exact m_iret hx hb hrt hlocks hB (Nat.le_refl _) (Nat.le_refl _) dX9_question_67 ⟨rfl, rfl, rfl, rfl⟩
set_option maxHeartbeats 1000000 in
set_option maxRecDepth 100000 in
theorem c_M_question_x (l : Launch) (D : va_G) (ty : Nat → ClassId) (L : List Nat) (ad : Nat → Nat) (g : Nat → va_E) (a : Nat → Nat → Int32) (dn pn en qn mz : Nat) (nw lo : Int32) (tr : Int64) (q : Nat) (w : Int32) (hM : RM ty L ad g a dn pn en qn mz nw lo tr) (hq9 : q < qn) (hqn : qn ≤ 30) (hw : w.toInt < 0 ∨ 3 < w.toInt) : m_E l yX9_question wsX9_question 2 43 D ty [.ref (ad 1000), .int (nI q), .int w] L ad g (some (.int (-1))) g := by
  intro sz
  refine Met.ofW (cc := cX9_question) (maxL := 3) (ret := (some .int)) (by decide) rfl ?_
  intro p e s m args below meth c s₁ B hml hv
  have hx := B.exec
  have hb := B.bytes
  have hrt := B.returns
  have hts := atoms_spec (ws := wsX9_question) B.pre
  have hown : s.vm.findClass RX9 = some m.cls := findClass_of_methodNamed B.named
  have hlocks := B.notSynchronized
  obtain ⟨rfl, hB⟩ := m_start hv
  generalize va_A (m_w L ad g) sz = A at hB ⊢
  generalize s.heap = H at hB ⊢
  generalize ([] : List Loc) = locs at hB ⊢
  have hl := lv_entry ([.ref (ad 1000), .int (nI q), .int w]) (n := 3) (Nat.le_of_ble_eq_true rfl)
  rw [lg_entry_eq]
  generalize (lg_sl ([.ref (ad 1000), .int (nI q), .int w]) ++ List.replicate (3 - (lg_sl ([.ref (ad 1000), .int (nI q), .int w])).length) Slot.unset).toArray = ls at hl ⊢
  have hl : lv_has ls 3 [(0, .ref (ad 1000)), (1, .int (nI q)), (2, .int w)] := hl
  obtain ⟨hL, h_1000, h_1002, h_1004, h_1005, h_1007, h_1008, h_1009, h_1010, h_1011, h_1012, h_1013, h_1014, h_1015, h_1016, h_1019, h_1020, h_1021, h_1022, h_1024, h_1025, h_1026, h_1027, h_1028, h_1029, h_1030, h_1032⟩ := id hM
  refine lv_aload_n hx hb dX9_question_0 rfl (lv_at hl 0 rfl) ?_
  refine lv_iload_n hx hb dX9_question_1 rfl (lv_at hl 1 rfl) ?_
  refine m_callVE (ci := 9) (As := [.int (nI q)]) (rest := []) (c_M_isQuestion_t l D ty L ad _ a dn pn en qn mz nw lo tr q hM hq9 hqn) ⟨hx, hb, hml, hown, hts⟩ (cwV 1 hts gX9_question_X9_isQuestion rfl rfl rfl (by decide +kernel) ⟨Nat.le_of_ble_eq_true rfl, Nat.le_of_ble_eq_true rfl⟩) hB (hL 1000 (by decide)) h_1000 rfl rfl hl.1 rfl (Nat.le_of_ble_eq_true rfl) dX9_question_2 ⟨Nat.le_of_ble_eq_true rfl, Nat.le_of_ble_eq_true rfl⟩ (fun H locs hB => ?_)
  refine b_if_ne_t 10 hx hb dX9_question_5 (by decide) (by decide) ?_
  refine lv_iload_n hx hb dX9_question_10 rfl (lv_at hl 2 rfl) ?_
  refine lv_tableOut (tgt := 68) hx hb dX9_question_11 (by omega) (by decide) ?_
  refine lv_iconst (v := (-1)) hx hb dX9_question_68 (by decide) ?_
  exact m_iret hx hb hrt hlocks hB (Nat.le_refl _) (Nat.le_refl _) dX9_question_69 ⟨rfl, rfl, rfl, rfl⟩
set_option maxHeartbeats 1000000 in
set_option maxRecDepth 100000 in
theorem c_M_question_bad (l : Launch) (D : va_G) (ty : Nat → ClassId) (L : List Nat) (ad : Nat → Nat) (g : Nat → va_E) (a : Nat → Nat → Int32) (dn pn en qn mz : Nat) (nw lo : Int32) (tr : Int64) (i w : Int32) (hM : RM ty L ad g a dn pn en qn mz nw lo tr) (hi : ¬ (0 ≤ i.toInt ∧ i.toInt < qn)) (hqn : qn ≤ 30) : m_E l yX9_question wsX9_question 2 43 D ty [.ref (ad 1000), .int i, .int w] L ad g (some (.int (-1))) g := by
  intro sz
  refine Met.ofW (cc := cX9_question) (maxL := 3) (ret := (some .int)) (by decide) rfl ?_
  intro p e s m args below meth c s₁ B hml hv
  have hx := B.exec
  have hb := B.bytes
  have hrt := B.returns
  have hts := atoms_spec (ws := wsX9_question) B.pre
  have hown : s.vm.findClass RX9 = some m.cls := findClass_of_methodNamed B.named
  have hlocks := B.notSynchronized
  obtain ⟨rfl, hB⟩ := m_start hv
  generalize va_A (m_w L ad g) sz = A at hB ⊢
  generalize s.heap = H at hB ⊢
  generalize ([] : List Loc) = locs at hB ⊢
  have hl := lv_entry ([.ref (ad 1000), .int i, .int w]) (n := 3) (Nat.le_of_ble_eq_true rfl)
  rw [lg_entry_eq]
  generalize (lg_sl ([.ref (ad 1000), .int i, .int w]) ++ List.replicate (3 - (lg_sl ([.ref (ad 1000), .int i, .int w])).length) Slot.unset).toArray = ls at hl ⊢
  have hl : lv_has ls 3 [(0, .ref (ad 1000)), (1, .int i), (2, .int w)] := hl
  obtain ⟨hL, h_1000, h_1002, h_1004, h_1005, h_1007, h_1008, h_1009, h_1010, h_1011, h_1012, h_1013, h_1014, h_1015, h_1016, h_1019, h_1020, h_1021, h_1022, h_1024, h_1025, h_1026, h_1027, h_1028, h_1029, h_1030, h_1032⟩ := id hM
  refine lv_aload_n hx hb dX9_question_0 rfl (lv_at hl 0 rfl) ?_
  refine lv_iload_n hx hb dX9_question_1 rfl (lv_at hl 1 rfl) ?_
  refine m_callVE (ci := 9) (As := [.int i]) (rest := []) (c_M_isQuestion_f l D ty L ad _ a dn pn en qn mz nw lo tr _ hM hi hqn) ⟨hx, hb, hml, hown, hts⟩ (cwV 1 hts gX9_question_X9_isQuestion rfl rfl rfl (by decide +kernel) ⟨Nat.le_of_ble_eq_true rfl, Nat.le_of_ble_eq_true rfl⟩) hB (hL 1000 (by decide)) h_1000 rfl rfl hl.1 rfl (Nat.le_of_ble_eq_true rfl) dX9_question_2 ⟨Nat.le_of_ble_eq_true rfl, Nat.le_of_ble_eq_true rfl⟩ (fun H locs hB => ?_)
  refine b_if_ne_f 10 hx hb dX9_question_5 (by decide) (by decide) ?_
  refine lv_iconst (v := (-1)) hx hb dX9_question_8 (by decide) ?_
  exact m_iret hx hb hrt hlocks hB (Nat.le_refl _) (Nat.le_refl _) dX9_question_9 ⟨rfl, rfl, rfl, rfl⟩
set_option maxRecDepth 20000 in
theorem in_X9_answer_X9 : ∀ w ∈ wsX90, w ∈ wsX9_answer := by decide +kernel
set_option maxHeartbeats 1000000 in
set_option maxRecDepth 100000 in
theorem c_M_answer_0 (l : Launch) (D : va_G) (ty : Nat → ClassId) (L : List Nat) (ad : Nat → Nat) (g : Nat → va_E) (a : Nat → Nat → Int32) (dn pn en qn mz : Nat) (nw lo : Int32) (tr : Int64) (q : Nat) (v : Int32) (hM : RM ty L ad g a dn pn en qn mz nw lo tr) (hq9 : q < qn) (hqn : qn ≤ 30) (h1 : 0 ≤ v.toInt ∧ v.toInt < 1000) (hna : a 26 q = 0) : m_C l yX9_answer wsX9_answer 2 43 0 0 D ty [.ref (ad 1000), .int (nI q), .int v, .int 0] L ad g (fun v1 L1 ad1 g1 => v1 = (some (.int (sbt (a 25 q) 6))) ∧ L1 = L ∧ ad1 = ad ∧ (∀ x, x < 1000 → g1 x = g x) ∧ RM ty L ad g1 (va_up (va_up a 26 (upd (a 26) q 1)) 27 (upd (a 27) q v)) dn pn en qn mz nw lo tr) := by
  intro sz
  refine Met.ofW (cc := cX9_answer) (maxL := 6) (ret := (some .int)) (by decide) rfl ?_
  intro p e s m args below meth c s₁ B hml hv
  have hx := B.exec
  have hb := B.bytes
  have hrt := B.returns
  have hts := atoms_spec (ws := wsX9_answer) B.pre
  have hown : s.vm.findClass RX9 = some m.cls := findClass_of_methodNamed B.named
  have hlocks := B.notSynchronized
  obtain ⟨rfl, hB⟩ := m_start hv
  generalize va_A (m_w L ad g) sz = A at hB ⊢
  generalize s.heap = H at hB ⊢
  generalize ([] : List Loc) = locs at hB ⊢
  have hl := lv_entry ([.ref (ad 1000), .int (nI q), .int v, .int 0]) (n := 6) (Nat.le_of_ble_eq_true rfl)
  rw [lg_entry_eq]
  generalize (lg_sl ([.ref (ad 1000), .int (nI q), .int v, .int 0]) ++ List.replicate (6 - (lg_sl ([.ref (ad 1000), .int (nI q), .int v, .int 0])).length) Slot.unset).toArray = ls at hl ⊢
  have hl : lv_has ls 6 [(0, .ref (ad 1000)), (1, .int (nI q)), (2, .int v), (3, .int 0)] := hl
  obtain ⟨hL, h_1000, h_1002, h_1004, h_1005, h_1007, h_1008, h_1009, h_1010, h_1011, h_1012, h_1013, h_1014, h_1015, h_1016, h_1019, h_1020, h_1021, h_1022, h_1024, h_1025, h_1026, h_1027, h_1028, h_1029, h_1030, h_1032⟩ := id hM
  have l0 : (0 : Int32).toInt = 0 := by decide
  have l999 : (999 : Int32).toInt = 999 := by decide
  refine lv_aload_n hx hb dX9_answer_0 rfl (lv_at hl 0 rfl) ?_
  refine lv_iload_n hx hb dX9_answer_1 rfl (lv_at hl 1 rfl) ?_
  refine m_callVE (ci := 9) (As := [.int (nI q)]) (rest := []) (c_M_isQuestion_t l D ty L ad _ a dn pn en qn mz nw lo tr q hM hq9 hqn) ⟨hx, hb, hml, hown, hts⟩ (cwV 1 hts gX9_answer_X9_isQuestion rfl rfl rfl (by decide +kernel) ⟨Nat.le_of_ble_eq_true rfl, Nat.le_of_ble_eq_true rfl⟩) hB (hL 1000 (by decide)) h_1000 rfl rfl hl.1 rfl (Nat.le_of_ble_eq_true rfl) dX9_answer_2 ⟨Nat.le_of_ble_eq_true rfl, Nat.le_of_ble_eq_true rfl⟩ (fun H locs hB => ?_)
  refine b_if_eq_f 19 hx hb dX9_answer_5 (by decide) (by decide) ?_
  refine lv_iload_n hx hb dX9_answer_8 rfl (lv_at hl 2 rfl) ?_
  refine lv_iconst (v := 0) hx hb dX9_answer_9 (by decide) ?_
  refine lv_sipush (v := 999) hx hb dX9_answer_10 (by decide) ?_
  refine m_callSE (As := [.int v, .int 0, .int 999]) (rest := []) (c_M_in_t l D ty L ad _ _ _ _ (by omega) (by omega)) ⟨hx, hb, hml, hown, hts⟩ (va_cwS 3 hts gX9_answer_X9_in rfl rfl rfl (by decide +kernel) ⟨Nat.le_of_ble_eq_true rfl, Nat.le_of_ble_eq_true rfl⟩) hB rfl hl.1 rfl (Nat.le_of_ble_eq_true rfl) dX9_answer_13 ⟨Nat.le_of_ble_eq_true rfl, Nat.le_of_ble_eq_true rfl⟩ (fun H locs hB => ?_)
  refine b_if_ne_t 21 hx hb dX9_answer_16 (by decide) (by decide) ?_
  refine lv_aload_n hx hb dX9_answer_21 rfl (lv_at hl 0 rfl) ?_
  refine m_get (C := RX9) (T := TX9) (N := 33) (ci := 9) hx hb hts in_X9_answer_X9 hown hB (hL 1000 (by decide)) h_1000 rfl 26 (by decide) (hts (.fieldLink RX9 71 "PaperRoomModel" "isAnswered" "[I") (by decide +kernel)) (fun _ h9 => h9) rfl dX9_answer_22 ?_
  refine lv_iload_n hx hb dX9_answer_25 rfl (lv_at hl 1 rfl) ?_
  refine n_iald hx hb hB (hL 1027 (by decide)) h_1027 q rfl (by omega) (by omega) dX9_answer_26 ?_
  refine b_if_le_t 33 hx hb dX9_answer_27 (by decide) (by rw [hna]; decide) ?_
  refine lv_aload_n hx hb dX9_answer_33 rfl (lv_at hl 0 rfl) ?_
  refine m_get (C := RX9) (T := TX9) (N := 33) (ci := 9) hx hb hts in_X9_answer_X9 hown hB (hL 1000 (by decide)) h_1000 rfl 26 (by decide) (hts (.fieldLink RX9 71 "PaperRoomModel" "isAnswered" "[I") (by decide +kernel)) (fun _ h9 => h9) rfl dX9_answer_34 ?_
  refine lv_iload_n hx hb dX9_answer_37 rfl (lv_at hl 1 rfl) ?_
  refine lv_iload_n hx hb dX9_answer_38 rfl (lv_at hl 3 rfl) ?_
  refine b_if_eq_t 46 hx hb dX9_answer_39 (by decide) (by decide) ?_
  refine lv_iconst (v := 1) hx hb dX9_answer_46 (by decide) ?_
  refine n_iast hx hb hB (hL 1027 (by decide)) h_1027 q rfl (by omega) (by omega) dX9_answer_47 (fun H locs hB => ?_)
  replace hB : m_B D ty A s L ad (va_up g 1027 (.inl (ty 0, 30, .inl (upd (a 26) q 1)))) H locs := hB
  refine lv_aload_n hx hb dX9_answer_48 rfl (lv_at hl 0 rfl) ?_
  refine m_get (C := RX9) (T := TX9) (N := 33) (ci := 9) hx hb hts in_X9_answer_X9 hown hB (hL 1000 (by decide)) ((va_up_ne _ _ (by decide)).trans h_1000) rfl 27 (by decide) (hts (.fieldLink RX9 74 "PaperRoomModel" "answer" "[I") (by decide +kernel)) (fun _ h9 => h9) rfl dX9_answer_49 ?_
  refine lv_iload_n hx hb dX9_answer_52 rfl (lv_at hl 1 rfl) ?_
  refine lv_iload_n hx hb dX9_answer_53 rfl (lv_at hl 2 rfl) ?_
  refine n_iast hx hb hB (hL 1028 (by decide)) ((va_up_ne _ _ (by decide)).trans h_1028) q rfl (by omega) (by omega) dX9_answer_54 (fun H locs hB => ?_)
  replace hB : m_B D ty A s L ad (va_up (va_up g 1027 (.inl (ty 0, 30, .inl (upd (a 26) q 1)))) 1028 (.inl (ty 0, 30, .inl (upd (a 27) q v)))) H locs := hB
  refine lv_iconst (v := 0) hx hb dX9_answer_55 (by decide) ?_
  refine lv_istore (lv' := [(4, .int 0), (0, .ref (ad 1000)), (1, .int (nI q)), (2, .int v), (3, .int 0)]) hx hb dX9_answer_56 hl (by decide) rfl (fun ls hl => ?_)
  refine lv_iconst (v := 0) hx hb dX9_answer_58 (by decide) ?_
  refine lv_istore (lv' := [(5, .int 0), (4, .int 0), (0, .ref (ad 1000)), (1, .int (nI q)), (2, .int v), (3, .int 0)]) hx hb dX9_answer_59 hl (by decide) rfl (fun ls hl => ?_)
  replace hl : lv_has ls 6 [(0, .ref (ad 1000)), (1, .int (nI q)), (4, .int 0), (5, .int 0)] := lv_sub hl [2, 3, 1, 0] rfl
  obtain ⟨k, hk0⟩ : ∃ k : Nat, k = 0 := ⟨0, rfl⟩
  replace hl : lv_has ls 6 [(0, .ref (ad 1000)), (1, .int (nI q)), (4, .int (sbt (a 25 q) k)), (5, .int (nI k))] := by rw [hk0]; exact hl
  obtain ⟨jz, hj⟩ : ∃ jz : Nat, k + jz = 6 := ⟨6 - k, by omega⟩
  clear hk0
  induction jz generalizing k H locs ls with
  | zero =>
    have hje : k = 6 := by omega
    have tI_k : (nI k).toInt = (k : Int) := nI_toInt (by omega)
    refine lv_iload hx hb dX9_answer_61 (lv_at hl 3 rfl) ?_
    refine lv_bipush (v := 6) hx hb dX9_answer_63 (by decide) ?_
    refine b_icmp_ge_t 90 hx hb dX9_answer_65 (by decide) (by have := (by decide : (6 : Int32).toInt = 6); omega) ?_
    refine lv_iload hx hb dX9_answer_90 (lv_at hl 2 rfl) ?_
    exact m_iret hx hb hrt hlocks hB (Nat.le_refl _) (Nat.le_refl _) dX9_answer_92 ⟨(by rw [hje]), rfl, rfl, (fun x hx => ((va_up_ne _ _ (by omega)).trans ((va_up_ne _ _ (by omega)).trans rfl))), ⟨hL, ((va_up_ne _ _ (by decide)).trans ((va_up_ne _ _ (by decide)).trans h_1000)), ((va_up_ne _ _ (by decide)).trans ((va_up_ne _ _ (by decide)).trans h_1002)), ((va_up_ne _ _ (by decide)).trans ((va_up_ne _ _ (by decide)).trans h_1004)), ((va_up_ne _ _ (by decide)).trans ((va_up_ne _ _ (by decide)).trans h_1005)), ((va_up_ne _ _ (by decide)).trans ((va_up_ne _ _ (by decide)).trans h_1007)), ((va_up_ne _ _ (by decide)).trans ((va_up_ne _ _ (by decide)).trans h_1008)), ((va_up_ne _ _ (by decide)).trans ((va_up_ne _ _ (by decide)).trans h_1009)), ((va_up_ne _ _ (by decide)).trans ((va_up_ne _ _ (by decide)).trans h_1010)), ((va_up_ne _ _ (by decide)).trans ((va_up_ne _ _ (by decide)).trans h_1011)), ((va_up_ne _ _ (by decide)).trans ((va_up_ne _ _ (by decide)).trans h_1012)), ((va_up_ne _ _ (by decide)).trans ((va_up_ne _ _ (by decide)).trans h_1013)), ((va_up_ne _ _ (by decide)).trans ((va_up_ne _ _ (by decide)).trans h_1014)), ((va_up_ne _ _ (by decide)).trans ((va_up_ne _ _ (by decide)).trans h_1015)), ((va_up_ne _ _ (by decide)).trans ((va_up_ne _ _ (by decide)).trans h_1016)), ((va_up_ne _ _ (by decide)).trans ((va_up_ne _ _ (by decide)).trans h_1019)), ((va_up_ne _ _ (by decide)).trans ((va_up_ne _ _ (by decide)).trans h_1020)), ((va_up_ne _ _ (by decide)).trans ((va_up_ne _ _ (by decide)).trans h_1021)), ((va_up_ne _ _ (by decide)).trans ((va_up_ne _ _ (by decide)).trans h_1022)), ((va_up_ne _ _ (by decide)).trans ((va_up_ne _ _ (by decide)).trans h_1024)), ((va_up_ne _ _ (by decide)).trans ((va_up_ne _ _ (by decide)).trans h_1025)), ((va_up_ne _ _ (by decide)).trans ((va_up_ne _ _ (by decide)).trans h_1026)), ((va_up_ne _ _ (by decide)).trans (va_up_self _ _ _)), (va_up_self _ _ _), ((va_up_ne _ _ (by decide)).trans ((va_up_ne _ _ (by decide)).trans h_1029)), ((va_up_ne _ _ (by decide)).trans ((va_up_ne _ _ (by decide)).trans h_1030)), ((va_up_ne _ _ (by decide)).trans ((va_up_ne _ _ (by decide)).trans h_1032))⟩⟩
  | succ jz ihj =>
    have hjl : k < 6 := by omega
    have tI_k : (nI k).toInt = (k : Int) := nI_toInt (by omega)
    refine lv_iload hx hb dX9_answer_61 (lv_at hl 3 rfl) ?_
    refine lv_bipush (v := 6) hx hb dX9_answer_63 (by decide) ?_
    refine b_icmp_ge_f 90 hx hb dX9_answer_65 (by decide) (by have := (by decide : (6 : Int32).toInt = 6); omega) ?_
    refine lv_iload hx hb dX9_answer_68 (lv_at hl 2 rfl) ?_
    refine lv_aload_n hx hb dX9_answer_70 rfl (lv_at hl 0 rfl) ?_
    refine m_get (C := RX9) (T := TX9) (N := 33) (ci := 9) hx hb hts in_X9_answer_X9 hown hB (hL 1000 (by decide)) ((va_up_ne _ _ (by decide)).trans ((va_up_ne _ _ (by decide)).trans h_1000)) rfl 25 (by decide) (hts (.fieldLink RX9 68 "PaperRoomModel" "askers" "[I") (by decide +kernel)) (fun _ h9 => h9) rfl dX9_answer_71 ?_
    refine lv_iload_n hx hb dX9_answer_74 rfl (lv_at hl 1 rfl) ?_
    refine n_iald hx hb hB (hL 1026 (by decide)) ((va_up_ne _ _ (by decide)).trans ((va_up_ne _ _ (by decide)).trans h_1026)) q rfl (by omega) (by omega) dX9_answer_75 ?_
    refine lv_iload hx hb dX9_answer_76 (lv_at hl 3 rfl) ?_
    refine lv_ishr hx hb dX9_answer_78 ?_
    refine lv_iconst (v := 1) hx hb dX9_answer_79 (by decide) ?_
    refine lv_iand hx hb dX9_answer_80 ?_
    refine lv_iadd hx hb dX9_answer_81 ?_
    refine b_topi (w := sbt (a 25 q) (k + 1)) (rfl) ?_
    refine lv_istore (lv' := [(4, .int (sbt (a 25 q) (k + 1))), (0, .ref (ad 1000)), (1, .int (nI q)), (5, .int (nI k))]) hx hb dX9_answer_82 hl (by decide) rfl (fun ls hl => ?_)
    refine lv_iinc (v := nI (k + 1)) (lv' := [(5, .int (nI (k + 1))), (4, .int (sbt (a 25 q) (k + 1))), (0, .ref (ad 1000)), (1, .int (nI q))]) hx hb dX9_answer_84 hl (k := 3) rfl (nI_add k 1) (by decide) rfl (fun ls hl => ?_)
    refine lv_goto (tgt := 61) hx hb dX9_answer_87 (by decide) ?_
    have hl : lv_has ls 6 [(0, .ref (ad 1000)), (1, .int (nI q)), (4, .int (sbt (a 25 q) (k + 1))), (5, .int (nI (k + 1)))] := lv_sub hl [2, 3, 1, 0] rfl
    apply ihj (k := (k + 1)) (H := H) (locs := locs) (ls := ls) <;> first | omega | exact hB | exact hl
set_option maxHeartbeats 1000000 in
set_option maxRecDepth 100000 in
theorem c_M_answer_1 (l : Launch) (D : va_G) (ty : Nat → ClassId) (L : List Nat) (ad : Nat → Nat) (g : Nat → va_E) (a : Nat → Nat → Int32) (dn pn en qn mz : Nat) (nw lo : Int32) (tr : Int64) (q : Nat) (v : Int32) (hM : RM ty L ad g a dn pn en qn mz nw lo tr) (hq9 : q < qn) (hqn : qn ≤ 30) (h1 : 0 ≤ v.toInt ∧ v.toInt < 1000) (hna : a 26 q = 0) : m_C l yX9_answer wsX9_answer 2 43 0 0 D ty [.ref (ad 1000), .int (nI q), .int v, .int 1] L ad g (fun v1 L1 ad1 g1 => v1 = (some (.int (sbt (a 25 q) 6))) ∧ L1 = L ∧ ad1 = ad ∧ (∀ x, x < 1000 → g1 x = g x) ∧ RM ty L ad g1 (va_up (va_up a 26 (upd (a 26) q 2)) 27 (upd (a 27) q v)) dn pn en qn mz nw lo tr) := by
  intro sz
  refine Met.ofW (cc := cX9_answer) (maxL := 6) (ret := (some .int)) (by decide) rfl ?_
  intro p e s m args below meth c s₁ B hml hv
  have hx := B.exec
  have hb := B.bytes
  have hrt := B.returns
  have hts := atoms_spec (ws := wsX9_answer) B.pre
  have hown : s.vm.findClass RX9 = some m.cls := findClass_of_methodNamed B.named
  have hlocks := B.notSynchronized
  obtain ⟨rfl, hB⟩ := m_start hv
  generalize va_A (m_w L ad g) sz = A at hB ⊢
  generalize s.heap = H at hB ⊢
  generalize ([] : List Loc) = locs at hB ⊢
  have hl := lv_entry ([.ref (ad 1000), .int (nI q), .int v, .int 1]) (n := 6) (Nat.le_of_ble_eq_true rfl)
  rw [lg_entry_eq]
  generalize (lg_sl ([.ref (ad 1000), .int (nI q), .int v, .int 1]) ++ List.replicate (6 - (lg_sl ([.ref (ad 1000), .int (nI q), .int v, .int 1])).length) Slot.unset).toArray = ls at hl ⊢
  have hl : lv_has ls 6 [(0, .ref (ad 1000)), (1, .int (nI q)), (2, .int v), (3, .int 1)] := hl
  obtain ⟨hL, h_1000, h_1002, h_1004, h_1005, h_1007, h_1008, h_1009, h_1010, h_1011, h_1012, h_1013, h_1014, h_1015, h_1016, h_1019, h_1020, h_1021, h_1022, h_1024, h_1025, h_1026, h_1027, h_1028, h_1029, h_1030, h_1032⟩ := id hM
  have l0 : (0 : Int32).toInt = 0 := by decide
  have l999 : (999 : Int32).toInt = 999 := by decide
  refine lv_aload_n hx hb dX9_answer_0 rfl (lv_at hl 0 rfl) ?_
  refine lv_iload_n hx hb dX9_answer_1 rfl (lv_at hl 1 rfl) ?_
  refine m_callVE (ci := 9) (As := [.int (nI q)]) (rest := []) (c_M_isQuestion_t l D ty L ad _ a dn pn en qn mz nw lo tr q hM hq9 hqn) ⟨hx, hb, hml, hown, hts⟩ (cwV 1 hts gX9_answer_X9_isQuestion rfl rfl rfl (by decide +kernel) ⟨Nat.le_of_ble_eq_true rfl, Nat.le_of_ble_eq_true rfl⟩) hB (hL 1000 (by decide)) h_1000 rfl rfl hl.1 rfl (Nat.le_of_ble_eq_true rfl) dX9_answer_2 ⟨Nat.le_of_ble_eq_true rfl, Nat.le_of_ble_eq_true rfl⟩ (fun H locs hB => ?_)
  refine b_if_eq_f 19 hx hb dX9_answer_5 (by decide) (by decide) ?_
  refine lv_iload_n hx hb dX9_answer_8 rfl (lv_at hl 2 rfl) ?_
  refine lv_iconst (v := 0) hx hb dX9_answer_9 (by decide) ?_
  refine lv_sipush (v := 999) hx hb dX9_answer_10 (by decide) ?_
  refine m_callSE (As := [.int v, .int 0, .int 999]) (rest := []) (c_M_in_t l D ty L ad _ _ _ _ (by omega) (by omega)) ⟨hx, hb, hml, hown, hts⟩ (va_cwS 3 hts gX9_answer_X9_in rfl rfl rfl (by decide +kernel) ⟨Nat.le_of_ble_eq_true rfl, Nat.le_of_ble_eq_true rfl⟩) hB rfl hl.1 rfl (Nat.le_of_ble_eq_true rfl) dX9_answer_13 ⟨Nat.le_of_ble_eq_true rfl, Nat.le_of_ble_eq_true rfl⟩ (fun H locs hB => ?_)
  refine b_if_ne_t 21 hx hb dX9_answer_16 (by decide) (by decide) ?_
  refine lv_aload_n hx hb dX9_answer_21 rfl (lv_at hl 0 rfl) ?_
  refine m_get (C := RX9) (T := TX9) (N := 33) (ci := 9) hx hb hts in_X9_answer_X9 hown hB (hL 1000 (by decide)) h_1000 rfl 26 (by decide) (hts (.fieldLink RX9 71 "PaperRoomModel" "isAnswered" "[I") (by decide +kernel)) (fun _ h9 => h9) rfl dX9_answer_22 ?_
  refine lv_iload_n hx hb dX9_answer_25 rfl (lv_at hl 1 rfl) ?_
  refine n_iald hx hb hB (hL 1027 (by decide)) h_1027 q rfl (by omega) (by omega) dX9_answer_26 ?_
  refine b_if_le_t 33 hx hb dX9_answer_27 (by decide) (by rw [hna]; decide) ?_
  refine lv_aload_n hx hb dX9_answer_33 rfl (lv_at hl 0 rfl) ?_
  refine m_get (C := RX9) (T := TX9) (N := 33) (ci := 9) hx hb hts in_X9_answer_X9 hown hB (hL 1000 (by decide)) h_1000 rfl 26 (by decide) (hts (.fieldLink RX9 71 "PaperRoomModel" "isAnswered" "[I") (by decide +kernel)) (fun _ h9 => h9) rfl dX9_answer_34 ?_
  refine lv_iload_n hx hb dX9_answer_37 rfl (lv_at hl 1 rfl) ?_
  refine lv_iload_n hx hb dX9_answer_38 rfl (lv_at hl 3 rfl) ?_
  refine b_if_eq_f 46 hx hb dX9_answer_39 (by decide) (by decide) ?_
  refine lv_iconst (v := 2) hx hb dX9_answer_42 (by decide) ?_
  refine lv_goto (tgt := 47) hx hb dX9_answer_43 (by decide) ?_
  refine n_iast hx hb hB (hL 1027 (by decide)) h_1027 q rfl (by omega) (by omega) dX9_answer_47 (fun H locs hB => ?_)
  replace hB : m_B D ty A s L ad (va_up g 1027 (.inl (ty 0, 30, .inl (upd (a 26) q 2)))) H locs := hB
  refine lv_aload_n hx hb dX9_answer_48 rfl (lv_at hl 0 rfl) ?_
  refine m_get (C := RX9) (T := TX9) (N := 33) (ci := 9) hx hb hts in_X9_answer_X9 hown hB (hL 1000 (by decide)) ((va_up_ne _ _ (by decide)).trans h_1000) rfl 27 (by decide) (hts (.fieldLink RX9 74 "PaperRoomModel" "answer" "[I") (by decide +kernel)) (fun _ h9 => h9) rfl dX9_answer_49 ?_
  refine lv_iload_n hx hb dX9_answer_52 rfl (lv_at hl 1 rfl) ?_
  refine lv_iload_n hx hb dX9_answer_53 rfl (lv_at hl 2 rfl) ?_
  refine n_iast hx hb hB (hL 1028 (by decide)) ((va_up_ne _ _ (by decide)).trans h_1028) q rfl (by omega) (by omega) dX9_answer_54 (fun H locs hB => ?_)
  replace hB : m_B D ty A s L ad (va_up (va_up g 1027 (.inl (ty 0, 30, .inl (upd (a 26) q 2)))) 1028 (.inl (ty 0, 30, .inl (upd (a 27) q v)))) H locs := hB
  refine lv_iconst (v := 0) hx hb dX9_answer_55 (by decide) ?_
  refine lv_istore (lv' := [(4, .int 0), (0, .ref (ad 1000)), (1, .int (nI q)), (2, .int v), (3, .int 1)]) hx hb dX9_answer_56 hl (by decide) rfl (fun ls hl => ?_)
  refine lv_iconst (v := 0) hx hb dX9_answer_58 (by decide) ?_
  refine lv_istore (lv' := [(5, .int 0), (4, .int 0), (0, .ref (ad 1000)), (1, .int (nI q)), (2, .int v), (3, .int 1)]) hx hb dX9_answer_59 hl (by decide) rfl (fun ls hl => ?_)
  replace hl : lv_has ls 6 [(0, .ref (ad 1000)), (1, .int (nI q)), (4, .int 0), (5, .int 0)] := lv_sub hl [2, 3, 1, 0] rfl
  obtain ⟨k, hk0⟩ : ∃ k : Nat, k = 0 := ⟨0, rfl⟩
  replace hl : lv_has ls 6 [(0, .ref (ad 1000)), (1, .int (nI q)), (4, .int (sbt (a 25 q) k)), (5, .int (nI k))] := by rw [hk0]; exact hl
  obtain ⟨jz, hj⟩ : ∃ jz : Nat, k + jz = 6 := ⟨6 - k, by omega⟩
  clear hk0
  induction jz generalizing k H locs ls with
  | zero =>
    have hje : k = 6 := by omega
    have tI_k : (nI k).toInt = (k : Int) := nI_toInt (by omega)
    refine lv_iload hx hb dX9_answer_61 (lv_at hl 3 rfl) ?_
    refine lv_bipush (v := 6) hx hb dX9_answer_63 (by decide) ?_
    refine b_icmp_ge_t 90 hx hb dX9_answer_65 (by decide) (by have := (by decide : (6 : Int32).toInt = 6); omega) ?_
    refine lv_iload hx hb dX9_answer_90 (lv_at hl 2 rfl) ?_
    exact m_iret hx hb hrt hlocks hB (Nat.le_refl _) (Nat.le_refl _) dX9_answer_92 ⟨(by rw [hje]), rfl, rfl, (fun x hx => ((va_up_ne _ _ (by omega)).trans ((va_up_ne _ _ (by omega)).trans rfl))), ⟨hL, ((va_up_ne _ _ (by decide)).trans ((va_up_ne _ _ (by decide)).trans h_1000)), ((va_up_ne _ _ (by decide)).trans ((va_up_ne _ _ (by decide)).trans h_1002)), ((va_up_ne _ _ (by decide)).trans ((va_up_ne _ _ (by decide)).trans h_1004)), ((va_up_ne _ _ (by decide)).trans ((va_up_ne _ _ (by decide)).trans h_1005)), ((va_up_ne _ _ (by decide)).trans ((va_up_ne _ _ (by decide)).trans h_1007)), ((va_up_ne _ _ (by decide)).trans ((va_up_ne _ _ (by decide)).trans h_1008)), ((va_up_ne _ _ (by decide)).trans ((va_up_ne _ _ (by decide)).trans h_1009)), ((va_up_ne _ _ (by decide)).trans ((va_up_ne _ _ (by decide)).trans h_1010)), ((va_up_ne _ _ (by decide)).trans ((va_up_ne _ _ (by decide)).trans h_1011)), ((va_up_ne _ _ (by decide)).trans ((va_up_ne _ _ (by decide)).trans h_1012)), ((va_up_ne _ _ (by decide)).trans ((va_up_ne _ _ (by decide)).trans h_1013)), ((va_up_ne _ _ (by decide)).trans ((va_up_ne _ _ (by decide)).trans h_1014)), ((va_up_ne _ _ (by decide)).trans ((va_up_ne _ _ (by decide)).trans h_1015)), ((va_up_ne _ _ (by decide)).trans ((va_up_ne _ _ (by decide)).trans h_1016)), ((va_up_ne _ _ (by decide)).trans ((va_up_ne _ _ (by decide)).trans h_1019)), ((va_up_ne _ _ (by decide)).trans ((va_up_ne _ _ (by decide)).trans h_1020)), ((va_up_ne _ _ (by decide)).trans ((va_up_ne _ _ (by decide)).trans h_1021)), ((va_up_ne _ _ (by decide)).trans ((va_up_ne _ _ (by decide)).trans h_1022)), ((va_up_ne _ _ (by decide)).trans ((va_up_ne _ _ (by decide)).trans h_1024)), ((va_up_ne _ _ (by decide)).trans ((va_up_ne _ _ (by decide)).trans h_1025)), ((va_up_ne _ _ (by decide)).trans ((va_up_ne _ _ (by decide)).trans h_1026)), ((va_up_ne _ _ (by decide)).trans (va_up_self _ _ _)), (va_up_self _ _ _), ((va_up_ne _ _ (by decide)).trans ((va_up_ne _ _ (by decide)).trans h_1029)), ((va_up_ne _ _ (by decide)).trans ((va_up_ne _ _ (by decide)).trans h_1030)), ((va_up_ne _ _ (by decide)).trans ((va_up_ne _ _ (by decide)).trans h_1032))⟩⟩
  | succ jz ihj =>
    have hjl : k < 6 := by omega
    have tI_k : (nI k).toInt = (k : Int) := nI_toInt (by omega)
    refine lv_iload hx hb dX9_answer_61 (lv_at hl 3 rfl) ?_
    refine lv_bipush (v := 6) hx hb dX9_answer_63 (by decide) ?_
    refine b_icmp_ge_f 90 hx hb dX9_answer_65 (by decide) (by have := (by decide : (6 : Int32).toInt = 6); omega) ?_
    refine lv_iload hx hb dX9_answer_68 (lv_at hl 2 rfl) ?_
    refine lv_aload_n hx hb dX9_answer_70 rfl (lv_at hl 0 rfl) ?_
    refine m_get (C := RX9) (T := TX9) (N := 33) (ci := 9) hx hb hts in_X9_answer_X9 hown hB (hL 1000 (by decide)) ((va_up_ne _ _ (by decide)).trans ((va_up_ne _ _ (by decide)).trans h_1000)) rfl 25 (by decide) (hts (.fieldLink RX9 68 "PaperRoomModel" "askers" "[I") (by decide +kernel)) (fun _ h9 => h9) rfl dX9_answer_71 ?_
    refine lv_iload_n hx hb dX9_answer_74 rfl (lv_at hl 1 rfl) ?_
    refine n_iald hx hb hB (hL 1026 (by decide)) ((va_up_ne _ _ (by decide)).trans ((va_up_ne _ _ (by decide)).trans h_1026)) q rfl (by omega) (by omega) dX9_answer_75 ?_
    refine lv_iload hx hb dX9_answer_76 (lv_at hl 3 rfl) ?_
    refine lv_ishr hx hb dX9_answer_78 ?_
    refine lv_iconst (v := 1) hx hb dX9_answer_79 (by decide) ?_
    refine lv_iand hx hb dX9_answer_80 ?_
    refine lv_iadd hx hb dX9_answer_81 ?_
    refine b_topi (w := sbt (a 25 q) (k + 1)) (rfl) ?_
    refine lv_istore (lv' := [(4, .int (sbt (a 25 q) (k + 1))), (0, .ref (ad 1000)), (1, .int (nI q)), (5, .int (nI k))]) hx hb dX9_answer_82 hl (by decide) rfl (fun ls hl => ?_)
    refine lv_iinc (v := nI (k + 1)) (lv' := [(5, .int (nI (k + 1))), (4, .int (sbt (a 25 q) (k + 1))), (0, .ref (ad 1000)), (1, .int (nI q))]) hx hb dX9_answer_84 hl (k := 3) rfl (nI_add k 1) (by decide) rfl (fun ls hl => ?_)
    refine lv_goto (tgt := 61) hx hb dX9_answer_87 (by decide) ?_
    have hl : lv_has ls 6 [(0, .ref (ad 1000)), (1, .int (nI q)), (4, .int (sbt (a 25 q) (k + 1))), (5, .int (nI (k + 1)))] := lv_sub hl [2, 3, 1, 0] rfl
    apply ihj (k := (k + 1)) (H := H) (locs := locs) (ls := ls) <;> first | omega | exact hB | exact hl
set_option maxHeartbeats 1000000 in
set_option maxRecDepth 100000 in
theorem c_M_answer_state (l : Launch) (D : va_G) (ty : Nat → ClassId) (L : List Nat) (ad : Nat → Nat) (g : Nat → va_E) (a : Nat → Nat → Int32) (dn pn en qn mz : Nat) (nw lo : Int32) (tr : Int64) (q : Nat) (v w : Int32) (hM : RM ty L ad g a dn pn en qn mz nw lo tr) (hq9 : q < qn) (hqn : qn ≤ 30) (h1 : 0 ≤ v.toInt ∧ v.toInt < 1000) (hna : 0 < (a 26 q).toInt) : m_E l yX9_answer wsX9_answer 2 43 D ty [.ref (ad 1000), .int (nI q), .int v, .int w] L ad g (some (.int (-2))) g := by
  intro sz
  refine Met.ofW (cc := cX9_answer) (maxL := 6) (ret := (some .int)) (by decide) rfl ?_
  intro p e s m args below meth c s₁ B hml hv
  have hx := B.exec
  have hb := B.bytes
  have hrt := B.returns
  have hts := atoms_spec (ws := wsX9_answer) B.pre
  have hown : s.vm.findClass RX9 = some m.cls := findClass_of_methodNamed B.named
  have hlocks := B.notSynchronized
  obtain ⟨rfl, hB⟩ := m_start hv
  generalize va_A (m_w L ad g) sz = A at hB ⊢
  generalize s.heap = H at hB ⊢
  generalize ([] : List Loc) = locs at hB ⊢
  have hl := lv_entry ([.ref (ad 1000), .int (nI q), .int v, .int w]) (n := 6) (Nat.le_of_ble_eq_true rfl)
  rw [lg_entry_eq]
  generalize (lg_sl ([.ref (ad 1000), .int (nI q), .int v, .int w]) ++ List.replicate (6 - (lg_sl ([.ref (ad 1000), .int (nI q), .int v, .int w])).length) Slot.unset).toArray = ls at hl ⊢
  have hl : lv_has ls 6 [(0, .ref (ad 1000)), (1, .int (nI q)), (2, .int v), (3, .int w)] := hl
  obtain ⟨hL, h_1000, h_1002, h_1004, h_1005, h_1007, h_1008, h_1009, h_1010, h_1011, h_1012, h_1013, h_1014, h_1015, h_1016, h_1019, h_1020, h_1021, h_1022, h_1024, h_1025, h_1026, h_1027, h_1028, h_1029, h_1030, h_1032⟩ := id hM
  have l0 : (0 : Int32).toInt = 0 := by decide
  have l999 : (999 : Int32).toInt = 999 := by decide
  refine lv_aload_n hx hb dX9_answer_0 rfl (lv_at hl 0 rfl) ?_
  refine lv_iload_n hx hb dX9_answer_1 rfl (lv_at hl 1 rfl) ?_
  refine m_callVE (ci := 9) (As := [.int (nI q)]) (rest := []) (c_M_isQuestion_t l D ty L ad _ a dn pn en qn mz nw lo tr q hM hq9 hqn) ⟨hx, hb, hml, hown, hts⟩ (cwV 1 hts gX9_answer_X9_isQuestion rfl rfl rfl (by decide +kernel) ⟨Nat.le_of_ble_eq_true rfl, Nat.le_of_ble_eq_true rfl⟩) hB (hL 1000 (by decide)) h_1000 rfl rfl hl.1 rfl (Nat.le_of_ble_eq_true rfl) dX9_answer_2 ⟨Nat.le_of_ble_eq_true rfl, Nat.le_of_ble_eq_true rfl⟩ (fun H locs hB => ?_)
  refine b_if_eq_f 19 hx hb dX9_answer_5 (by decide) (by decide) ?_
  refine lv_iload_n hx hb dX9_answer_8 rfl (lv_at hl 2 rfl) ?_
  refine lv_iconst (v := 0) hx hb dX9_answer_9 (by decide) ?_
  refine lv_sipush (v := 999) hx hb dX9_answer_10 (by decide) ?_
  refine m_callSE (As := [.int v, .int 0, .int 999]) (rest := []) (c_M_in_t l D ty L ad _ _ _ _ (by omega) (by omega)) ⟨hx, hb, hml, hown, hts⟩ (va_cwS 3 hts gX9_answer_X9_in rfl rfl rfl (by decide +kernel) ⟨Nat.le_of_ble_eq_true rfl, Nat.le_of_ble_eq_true rfl⟩) hB rfl hl.1 rfl (Nat.le_of_ble_eq_true rfl) dX9_answer_13 ⟨Nat.le_of_ble_eq_true rfl, Nat.le_of_ble_eq_true rfl⟩ (fun H locs hB => ?_)
  refine b_if_ne_t 21 hx hb dX9_answer_16 (by decide) (by decide) ?_
  refine lv_aload_n hx hb dX9_answer_21 rfl (lv_at hl 0 rfl) ?_
  refine m_get (C := RX9) (T := TX9) (N := 33) (ci := 9) hx hb hts in_X9_answer_X9 hown hB (hL 1000 (by decide)) h_1000 rfl 26 (by decide) (hts (.fieldLink RX9 71 "PaperRoomModel" "isAnswered" "[I") (by decide +kernel)) (fun _ h9 => h9) rfl dX9_answer_22 ?_
  refine lv_iload_n hx hb dX9_answer_25 rfl (lv_at hl 1 rfl) ?_
  refine n_iald hx hb hB (hL 1027 (by decide)) h_1027 q rfl (by omega) (by omega) dX9_answer_26 ?_
  refine b_if_le_f 33 hx hb dX9_answer_27 (by decide) (by have := (by decide : (0 : Int32).toInt = 0); omega) ?_
  refine lv_bipush (v := (-2)) hx hb dX9_answer_30 (by decide) ?_
  exact m_iret hx hb hrt hlocks hB (Nat.le_refl _) (Nat.le_refl _) dX9_answer_32 ⟨rfl, rfl, rfl, rfl⟩
set_option maxHeartbeats 1000000 in
set_option maxRecDepth 100000 in
theorem c_M_answer_b2 (l : Launch) (D : va_G) (ty : Nat → ClassId) (L : List Nat) (ad : Nat → Nat) (g : Nat → va_E) (a : Nat → Nat → Int32) (dn pn en qn mz : Nat) (nw lo : Int32) (tr : Int64) (q : Nat) (v w : Int32) (hM : RM ty L ad g a dn pn en qn mz nw lo tr) (hq9 : q < qn) (hqn : qn ≤ 30) (h1 : ¬ (0 ≤ v.toInt ∧ v.toInt < 1000)) : m_E l yX9_answer wsX9_answer 2 43 D ty [.ref (ad 1000), .int (nI q), .int v, .int w] L ad g (some (.int (-1))) g := by
  intro sz
  refine Met.ofW (cc := cX9_answer) (maxL := 6) (ret := (some .int)) (by decide) rfl ?_
  intro p e s m args below meth c s₁ B hml hv
  have hx := B.exec
  have hb := B.bytes
  have hrt := B.returns
  have hts := atoms_spec (ws := wsX9_answer) B.pre
  have hown : s.vm.findClass RX9 = some m.cls := findClass_of_methodNamed B.named
  have hlocks := B.notSynchronized
  obtain ⟨rfl, hB⟩ := m_start hv
  generalize va_A (m_w L ad g) sz = A at hB ⊢
  generalize s.heap = H at hB ⊢
  generalize ([] : List Loc) = locs at hB ⊢
  have hl := lv_entry ([.ref (ad 1000), .int (nI q), .int v, .int w]) (n := 6) (Nat.le_of_ble_eq_true rfl)
  rw [lg_entry_eq]
  generalize (lg_sl ([.ref (ad 1000), .int (nI q), .int v, .int w]) ++ List.replicate (6 - (lg_sl ([.ref (ad 1000), .int (nI q), .int v, .int w])).length) Slot.unset).toArray = ls at hl ⊢
  have hl : lv_has ls 6 [(0, .ref (ad 1000)), (1, .int (nI q)), (2, .int v), (3, .int w)] := hl
  obtain ⟨hL, h_1000, h_1002, h_1004, h_1005, h_1007, h_1008, h_1009, h_1010, h_1011, h_1012, h_1013, h_1014, h_1015, h_1016, h_1019, h_1020, h_1021, h_1022, h_1024, h_1025, h_1026, h_1027, h_1028, h_1029, h_1030, h_1032⟩ := id hM
  have l0 : (0 : Int32).toInt = 0 := by decide
  have l999 : (999 : Int32).toInt = 999 := by decide
  refine lv_aload_n hx hb dX9_answer_0 rfl (lv_at hl 0 rfl) ?_
  refine lv_iload_n hx hb dX9_answer_1 rfl (lv_at hl 1 rfl) ?_
  refine m_callVE (ci := 9) (As := [.int (nI q)]) (rest := []) (c_M_isQuestion_t l D ty L ad _ a dn pn en qn mz nw lo tr q hM hq9 hqn) ⟨hx, hb, hml, hown, hts⟩ (cwV 1 hts gX9_answer_X9_isQuestion rfl rfl rfl (by decide +kernel) ⟨Nat.le_of_ble_eq_true rfl, Nat.le_of_ble_eq_true rfl⟩) hB (hL 1000 (by decide)) h_1000 rfl rfl hl.1 rfl (Nat.le_of_ble_eq_true rfl) dX9_answer_2 ⟨Nat.le_of_ble_eq_true rfl, Nat.le_of_ble_eq_true rfl⟩ (fun H locs hB => ?_)
  refine b_if_eq_f 19 hx hb dX9_answer_5 (by decide) (by decide) ?_
  refine lv_iload_n hx hb dX9_answer_8 rfl (lv_at hl 2 rfl) ?_
  refine lv_iconst (v := 0) hx hb dX9_answer_9 (by decide) ?_
  refine lv_sipush (v := 999) hx hb dX9_answer_10 (by decide) ?_
  refine m_callSE (As := [.int v, .int 0, .int 999]) (rest := []) (c_M_in_f l D ty L ad _ _ _ _ (by omega)) ⟨hx, hb, hml, hown, hts⟩ (va_cwS 3 hts gX9_answer_X9_in rfl rfl rfl (by decide +kernel) ⟨Nat.le_of_ble_eq_true rfl, Nat.le_of_ble_eq_true rfl⟩) hB rfl hl.1 rfl (Nat.le_of_ble_eq_true rfl) dX9_answer_13 ⟨Nat.le_of_ble_eq_true rfl, Nat.le_of_ble_eq_true rfl⟩ (fun H locs hB => ?_)
  refine b_if_ne_f 21 hx hb dX9_answer_16 (by decide) (by decide) ?_
  refine lv_iconst (v := (-1)) hx hb dX9_answer_19 (by decide) ?_
  exact m_iret hx hb hrt hlocks hB (Nat.le_refl _) (Nat.le_refl _) dX9_answer_20 ⟨rfl, rfl, rfl, rfl⟩
set_option maxHeartbeats 1000000 in
set_option maxRecDepth 100000 in
theorem c_M_answer_b1 (l : Launch) (D : va_G) (ty : Nat → ClassId) (L : List Nat) (ad : Nat → Nat) (g : Nat → va_E) (a : Nat → Nat → Int32) (dn pn en qn mz : Nat) (nw lo : Int32) (tr : Int64) (i v w : Int32) (hM : RM ty L ad g a dn pn en qn mz nw lo tr) (hi : ¬ (0 ≤ i.toInt ∧ i.toInt < qn)) (hqn : qn ≤ 30) : m_E l yX9_answer wsX9_answer 2 43 D ty [.ref (ad 1000), .int i, .int v, .int w] L ad g (some (.int (-1))) g := by
  intro sz
  refine Met.ofW (cc := cX9_answer) (maxL := 6) (ret := (some .int)) (by decide) rfl ?_
  intro p e s m args below meth c s₁ B hml hv
  have hx := B.exec
  have hb := B.bytes
  have hrt := B.returns
  have hts := atoms_spec (ws := wsX9_answer) B.pre
  have hown : s.vm.findClass RX9 = some m.cls := findClass_of_methodNamed B.named
  have hlocks := B.notSynchronized
  obtain ⟨rfl, hB⟩ := m_start hv
  generalize va_A (m_w L ad g) sz = A at hB ⊢
  generalize s.heap = H at hB ⊢
  generalize ([] : List Loc) = locs at hB ⊢
  have hl := lv_entry ([.ref (ad 1000), .int i, .int v, .int w]) (n := 6) (Nat.le_of_ble_eq_true rfl)
  rw [lg_entry_eq]
  generalize (lg_sl ([.ref (ad 1000), .int i, .int v, .int w]) ++ List.replicate (6 - (lg_sl ([.ref (ad 1000), .int i, .int v, .int w])).length) Slot.unset).toArray = ls at hl ⊢
  have hl : lv_has ls 6 [(0, .ref (ad 1000)), (1, .int i), (2, .int v), (3, .int w)] := hl
  obtain ⟨hL, h_1000, h_1002, h_1004, h_1005, h_1007, h_1008, h_1009, h_1010, h_1011, h_1012, h_1013, h_1014, h_1015, h_1016, h_1019, h_1020, h_1021, h_1022, h_1024, h_1025, h_1026, h_1027, h_1028, h_1029, h_1030, h_1032⟩ := id hM
  refine lv_aload_n hx hb dX9_answer_0 rfl (lv_at hl 0 rfl) ?_
  refine lv_iload_n hx hb dX9_answer_1 rfl (lv_at hl 1 rfl) ?_
  refine m_callVE (ci := 9) (As := [.int i]) (rest := []) (c_M_isQuestion_f l D ty L ad _ a dn pn en qn mz nw lo tr _ hM hi hqn) ⟨hx, hb, hml, hown, hts⟩ (cwV 1 hts gX9_answer_X9_isQuestion rfl rfl rfl (by decide +kernel) ⟨Nat.le_of_ble_eq_true rfl, Nat.le_of_ble_eq_true rfl⟩) hB (hL 1000 (by decide)) h_1000 rfl rfl hl.1 rfl (Nat.le_of_ble_eq_true rfl) dX9_answer_2 ⟨Nat.le_of_ble_eq_true rfl, Nat.le_of_ble_eq_true rfl⟩ (fun H locs hB => ?_)
  refine b_if_eq_t 19 hx hb dX9_answer_5 (by decide) (by decide) ?_
  refine lv_iconst (v := (-1)) hx hb dX9_answer_19 (by decide) ?_
  exact m_iret hx hb hrt hlocks hB (Nat.le_refl _) (Nat.le_refl _) dX9_answer_20 ⟨rfl, rfl, rfl, rfl⟩
set_option maxRecDepth 20000 in
theorem in_X9_hear_X9 : ∀ w ∈ wsX90, w ∈ wsX9_hear := by decide +kernel
set_option maxHeartbeats 1000000 in
set_option maxRecDepth 100000 in
theorem c_M_hear_no (l : Launch) (D : va_G) (ty : Nat → ClassId) (L : List Nat) (ad : Nat → Nat) (g : Nat → va_E) (a : Nat → Nat → Int32) (dn pn en qn mz : Nat) (nw lo : Int32) (tr : Int64) (b q j fo : Nat) (hM : RM ty L ad g a dn pn en qn mz nw lo tr) (hq9 : q < qn) (hqn : qn ≤ 30) (hpj : a 23 q = nI j) (hb6 : b < 6) (hj8 : j < 8) (hfo : a 7 j = nI fo) (hfo4 : fo < 4) (hw : a 9 j = 0 ∨ a 9 j = 1) (hs : seeB (a 6 j) (a 9 j) (a 8 j) (a 3) (a 4) (b % 3 * 4 + fo) nw = false) : m_E l yX9_hear wsX9_hear 2 43 D ty [.ref (ad 1000), .int (nI b), .int (nI q)] L ad g (some (.int (-4))) g := by
  intro sz
  refine Met.ofW (cc := cX9_hear) (maxL := 3) (ret := (some .int)) (by decide) rfl ?_
  intro p e s m args below meth c s₁ B hml hv
  have hx := B.exec
  have hb := B.bytes
  have hrt := B.returns
  have hts := atoms_spec (ws := wsX9_hear) B.pre
  have hown : s.vm.findClass RX9 = some m.cls := findClass_of_methodNamed B.named
  have hlocks := B.notSynchronized
  obtain ⟨rfl, hB⟩ := m_start hv
  generalize va_A (m_w L ad g) sz = A at hB ⊢
  generalize s.heap = H at hB ⊢
  generalize ([] : List Loc) = locs at hB ⊢
  have hl := lv_entry ([.ref (ad 1000), .int (nI b), .int (nI q)]) (n := 3) (Nat.le_of_ble_eq_true rfl)
  rw [lg_entry_eq]
  generalize (lg_sl ([.ref (ad 1000), .int (nI b), .int (nI q)]) ++ List.replicate (3 - (lg_sl ([.ref (ad 1000), .int (nI b), .int (nI q)])).length) Slot.unset).toArray = ls at hl ⊢
  have hl : lv_has ls 3 [(0, .ref (ad 1000)), (1, .int (nI b)), (2, .int (nI q))] := hl
  obtain ⟨hL, h_1000, h_1002, h_1004, h_1005, h_1007, h_1008, h_1009, h_1010, h_1011, h_1012, h_1013, h_1014, h_1015, h_1016, h_1019, h_1020, h_1021, h_1022, h_1024, h_1025, h_1026, h_1027, h_1028, h_1029, h_1030, h_1032⟩ := id hM
  refine lv_iload_n hx hb dX9_hear_0 rfl (lv_at hl 1 rfl) ?_
  refine m_callSE (As := [.int (nI b)]) (rest := []) (c_M_isBidder_t l D ty L ad _ b hb6) ⟨hx, hb, hml, hown, hts⟩ (va_cwS 1 hts gX9_hear_X9_isBidder rfl rfl rfl (by decide +kernel) ⟨Nat.le_of_ble_eq_true rfl, Nat.le_of_ble_eq_true rfl⟩) hB rfl hl.1 rfl (Nat.le_of_ble_eq_true rfl) dX9_hear_1 ⟨Nat.le_of_ble_eq_true rfl, Nat.le_of_ble_eq_true rfl⟩ (fun H locs hB => ?_)
  refine b_if_eq_f 15 hx hb dX9_hear_4 (by decide) (by decide) ?_
  refine lv_aload_n hx hb dX9_hear_7 rfl (lv_at hl 0 rfl) ?_
  refine lv_iload_n hx hb dX9_hear_8 rfl (lv_at hl 2 rfl) ?_
  refine m_callVE (ci := 9) (As := [.int (nI q)]) (rest := []) (c_M_isQuestion_t l D ty L ad _ a dn pn en qn mz nw lo tr q hM hq9 hqn) ⟨hx, hb, hml, hown, hts⟩ (cwV 1 hts gX9_hear_X9_isQuestion rfl rfl rfl (by decide +kernel) ⟨Nat.le_of_ble_eq_true rfl, Nat.le_of_ble_eq_true rfl⟩) hB (hL 1000 (by decide)) h_1000 rfl rfl hl.1 rfl (Nat.le_of_ble_eq_true rfl) dX9_hear_9 ⟨Nat.le_of_ble_eq_true rfl, Nat.le_of_ble_eq_true rfl⟩ (fun H locs hB => ?_)
  refine b_if_ne_t 17 hx hb dX9_hear_12 (by decide) (by decide) ?_
  refine lv_aload_n hx hb dX9_hear_17 rfl (lv_at hl 0 rfl) ?_
  refine lv_iload_n hx hb dX9_hear_18 rfl (lv_at hl 1 rfl) ?_
  refine lv_aload_n hx hb dX9_hear_19 rfl (lv_at hl 0 rfl) ?_
  refine m_get (C := RX9) (T := TX9) (N := 33) (ci := 9) hx hb hts in_X9_hear_X9 hown hB (hL 1000 (by decide)) h_1000 rfl 23 (by decide) (hts (.fieldLink RX9 62 "PaperRoomModel" "questionPaper" "[I") (by decide +kernel)) (fun _ h9 => h9) rfl dX9_hear_20 ?_
  refine lv_iload_n hx hb dX9_hear_23 rfl (lv_at hl 2 rfl) ?_
  refine n_iald hx hb hB (hL 1024 (by decide)) h_1024 q rfl (by omega) (by omega) dX9_hear_24 ?_
  refine b_topi (w := nI j) (hpj) ?_
  refine m_callVE (ci := 9) (As := [.int (nI b), .int (nI j)]) (rest := []) (c_M_sees l D ty L ad _ a dn pn en qn mz nw lo tr b j fo hM hb6 hj8 hfo hfo4 hw) ⟨hx, hb, hml, hown, hts⟩ (cwV 2 hts gX9_hear_X9_sees rfl rfl rfl (by decide +kernel) ⟨Nat.le_of_ble_eq_true rfl, Nat.le_of_ble_eq_true rfl⟩) hB (hL 1000 (by decide)) h_1000 rfl rfl hl.1 rfl (Nat.le_of_ble_eq_true rfl) dX9_hear_25 ⟨Nat.le_of_ble_eq_true rfl, Nat.le_of_ble_eq_true rfl⟩ (fun H locs hB => ?_)
  refine b_if_ne_f 34 hx hb dX9_hear_28 (by decide) (by rw [hs]; decide) ?_
  refine lv_bipush (v := (-4)) hx hb dX9_hear_31 (by decide) ?_
  exact m_iret hx hb hrt hlocks hB (Nat.le_refl _) (Nat.le_refl _) dX9_hear_33 ⟨rfl, rfl, rfl, rfl⟩
set_option maxHeartbeats 1000000 in
set_option maxRecDepth 100000 in
theorem c_M_hear_state (l : Launch) (D : va_G) (ty : Nat → ClassId) (L : List Nat) (ad : Nat → Nat) (g : Nat → va_E) (a : Nat → Nat → Int32) (dn pn en qn mz : Nat) (nw lo : Int32) (tr : Int64) (b q j fo : Nat) (hM : RM ty L ad g a dn pn en qn mz nw lo tr) (hq9 : q < qn) (hqn : qn ≤ 30) (hpj : a 23 q = nI j) (hb6 : b < 6) (hj8 : j < 8) (hfo : a 7 j = nI fo) (hfo4 : fo < 4) (hw : a 9 j = 0 ∨ a 9 j = 1) (hs : seeB (a 6 j) (a 9 j) (a 8 j) (a 3) (a 4) (b % 3 * 4 + fo) nw = true) (hna : a 26 q = 0) : m_E l yX9_hear wsX9_hear 2 43 D ty [.ref (ad 1000), .int (nI b), .int (nI q)] L ad g (some (.int (-2))) g := by
  intro sz
  refine Met.ofW (cc := cX9_hear) (maxL := 3) (ret := (some .int)) (by decide) rfl ?_
  intro p e s m args below meth c s₁ B hml hv
  have hx := B.exec
  have hb := B.bytes
  have hrt := B.returns
  have hts := atoms_spec (ws := wsX9_hear) B.pre
  have hown : s.vm.findClass RX9 = some m.cls := findClass_of_methodNamed B.named
  have hlocks := B.notSynchronized
  obtain ⟨rfl, hB⟩ := m_start hv
  generalize va_A (m_w L ad g) sz = A at hB ⊢
  generalize s.heap = H at hB ⊢
  generalize ([] : List Loc) = locs at hB ⊢
  have hl := lv_entry ([.ref (ad 1000), .int (nI b), .int (nI q)]) (n := 3) (Nat.le_of_ble_eq_true rfl)
  rw [lg_entry_eq]
  generalize (lg_sl ([.ref (ad 1000), .int (nI b), .int (nI q)]) ++ List.replicate (3 - (lg_sl ([.ref (ad 1000), .int (nI b), .int (nI q)])).length) Slot.unset).toArray = ls at hl ⊢
  have hl : lv_has ls 3 [(0, .ref (ad 1000)), (1, .int (nI b)), (2, .int (nI q))] := hl
  obtain ⟨hL, h_1000, h_1002, h_1004, h_1005, h_1007, h_1008, h_1009, h_1010, h_1011, h_1012, h_1013, h_1014, h_1015, h_1016, h_1019, h_1020, h_1021, h_1022, h_1024, h_1025, h_1026, h_1027, h_1028, h_1029, h_1030, h_1032⟩ := id hM
  refine lv_iload_n hx hb dX9_hear_0 rfl (lv_at hl 1 rfl) ?_
  refine m_callSE (As := [.int (nI b)]) (rest := []) (c_M_isBidder_t l D ty L ad _ b hb6) ⟨hx, hb, hml, hown, hts⟩ (va_cwS 1 hts gX9_hear_X9_isBidder rfl rfl rfl (by decide +kernel) ⟨Nat.le_of_ble_eq_true rfl, Nat.le_of_ble_eq_true rfl⟩) hB rfl hl.1 rfl (Nat.le_of_ble_eq_true rfl) dX9_hear_1 ⟨Nat.le_of_ble_eq_true rfl, Nat.le_of_ble_eq_true rfl⟩ (fun H locs hB => ?_)
  refine b_if_eq_f 15 hx hb dX9_hear_4 (by decide) (by decide) ?_
  refine lv_aload_n hx hb dX9_hear_7 rfl (lv_at hl 0 rfl) ?_
  refine lv_iload_n hx hb dX9_hear_8 rfl (lv_at hl 2 rfl) ?_
  refine m_callVE (ci := 9) (As := [.int (nI q)]) (rest := []) (c_M_isQuestion_t l D ty L ad _ a dn pn en qn mz nw lo tr q hM hq9 hqn) ⟨hx, hb, hml, hown, hts⟩ (cwV 1 hts gX9_hear_X9_isQuestion rfl rfl rfl (by decide +kernel) ⟨Nat.le_of_ble_eq_true rfl, Nat.le_of_ble_eq_true rfl⟩) hB (hL 1000 (by decide)) h_1000 rfl rfl hl.1 rfl (Nat.le_of_ble_eq_true rfl) dX9_hear_9 ⟨Nat.le_of_ble_eq_true rfl, Nat.le_of_ble_eq_true rfl⟩ (fun H locs hB => ?_)
  refine b_if_ne_t 17 hx hb dX9_hear_12 (by decide) (by decide) ?_
  refine lv_aload_n hx hb dX9_hear_17 rfl (lv_at hl 0 rfl) ?_
  refine lv_iload_n hx hb dX9_hear_18 rfl (lv_at hl 1 rfl) ?_
  refine lv_aload_n hx hb dX9_hear_19 rfl (lv_at hl 0 rfl) ?_
  refine m_get (C := RX9) (T := TX9) (N := 33) (ci := 9) hx hb hts in_X9_hear_X9 hown hB (hL 1000 (by decide)) h_1000 rfl 23 (by decide) (hts (.fieldLink RX9 62 "PaperRoomModel" "questionPaper" "[I") (by decide +kernel)) (fun _ h9 => h9) rfl dX9_hear_20 ?_
  refine lv_iload_n hx hb dX9_hear_23 rfl (lv_at hl 2 rfl) ?_
  refine n_iald hx hb hB (hL 1024 (by decide)) h_1024 q rfl (by omega) (by omega) dX9_hear_24 ?_
  refine b_topi (w := nI j) (hpj) ?_
  refine m_callVE (ci := 9) (As := [.int (nI b), .int (nI j)]) (rest := []) (c_M_sees l D ty L ad _ a dn pn en qn mz nw lo tr b j fo hM hb6 hj8 hfo hfo4 hw) ⟨hx, hb, hml, hown, hts⟩ (cwV 2 hts gX9_hear_X9_sees rfl rfl rfl (by decide +kernel) ⟨Nat.le_of_ble_eq_true rfl, Nat.le_of_ble_eq_true rfl⟩) hB (hL 1000 (by decide)) h_1000 rfl rfl hl.1 rfl (Nat.le_of_ble_eq_true rfl) dX9_hear_25 ⟨Nat.le_of_ble_eq_true rfl, Nat.le_of_ble_eq_true rfl⟩ (fun H locs hB => ?_)
  refine b_if_ne_t 34 hx hb dX9_hear_28 (by decide) (by rw [hs]; decide) ?_
  refine lv_aload_n hx hb dX9_hear_34 rfl (lv_at hl 0 rfl) ?_
  refine m_get (C := RX9) (T := TX9) (N := 33) (ci := 9) hx hb hts in_X9_hear_X9 hown hB (hL 1000 (by decide)) h_1000 rfl 26 (by decide) (hts (.fieldLink RX9 71 "PaperRoomModel" "isAnswered" "[I") (by decide +kernel)) (fun _ h9 => h9) rfl dX9_hear_35 ?_
  refine lv_iload_n hx hb dX9_hear_38 rfl (lv_at hl 2 rfl) ?_
  refine n_iald hx hb hB (hL 1027 (by decide)) h_1027 q rfl (by omega) (by omega) dX9_hear_39 ?_
  refine b_if_ne_f 46 hx hb dX9_hear_40 (by decide) (by rw [hna]; decide) ?_
  refine lv_bipush (v := (-2)) hx hb dX9_hear_43 (by decide) ?_
  exact m_iret hx hb hrt hlocks hB (Nat.le_refl _) (Nat.le_refl _) dX9_hear_45 ⟨rfl, rfl, rfl, rfl⟩
set_option maxHeartbeats 1000000 in
set_option maxRecDepth 100000 in
theorem c_M_hear_all (l : Launch) (D : va_G) (ty : Nat → ClassId) (L : List Nat) (ad : Nat → Nat) (g : Nat → va_E) (a : Nat → Nat → Int32) (dn pn en qn mz : Nat) (nw lo : Int32) (tr : Int64) (b q j fo : Nat) (hM : RM ty L ad g a dn pn en qn mz nw lo tr) (hq9 : q < qn) (hqn : qn ≤ 30) (hpj : a 23 q = nI j) (hb6 : b < 6) (hj8 : j < 8) (hfo : a 7 j = nI fo) (hfo4 : fo < 4) (hw : a 9 j = 0 ∨ a 9 j = 1) (hs : seeB (a 6 j) (a 9 j) (a 8 j) (a 3) (a 4) (b % 3 * 4 + fo) nw = true) (hna : a 26 q = 2) : m_E l yX9_hear wsX9_hear 2 43 D ty [.ref (ad 1000), .int (nI b), .int (nI q)] L ad g (some (.int (a 27 q))) g := by
  intro sz
  refine Met.ofW (cc := cX9_hear) (maxL := 3) (ret := (some .int)) (by decide) rfl ?_
  intro p e s m args below meth c s₁ B hml hv
  have hx := B.exec
  have hb := B.bytes
  have hrt := B.returns
  have hts := atoms_spec (ws := wsX9_hear) B.pre
  have hown : s.vm.findClass RX9 = some m.cls := findClass_of_methodNamed B.named
  have hlocks := B.notSynchronized
  obtain ⟨rfl, hB⟩ := m_start hv
  generalize va_A (m_w L ad g) sz = A at hB ⊢
  generalize s.heap = H at hB ⊢
  generalize ([] : List Loc) = locs at hB ⊢
  have hl := lv_entry ([.ref (ad 1000), .int (nI b), .int (nI q)]) (n := 3) (Nat.le_of_ble_eq_true rfl)
  rw [lg_entry_eq]
  generalize (lg_sl ([.ref (ad 1000), .int (nI b), .int (nI q)]) ++ List.replicate (3 - (lg_sl ([.ref (ad 1000), .int (nI b), .int (nI q)])).length) Slot.unset).toArray = ls at hl ⊢
  have hl : lv_has ls 3 [(0, .ref (ad 1000)), (1, .int (nI b)), (2, .int (nI q))] := hl
  obtain ⟨hL, h_1000, h_1002, h_1004, h_1005, h_1007, h_1008, h_1009, h_1010, h_1011, h_1012, h_1013, h_1014, h_1015, h_1016, h_1019, h_1020, h_1021, h_1022, h_1024, h_1025, h_1026, h_1027, h_1028, h_1029, h_1030, h_1032⟩ := id hM
  refine lv_iload_n hx hb dX9_hear_0 rfl (lv_at hl 1 rfl) ?_
  refine m_callSE (As := [.int (nI b)]) (rest := []) (c_M_isBidder_t l D ty L ad _ b hb6) ⟨hx, hb, hml, hown, hts⟩ (va_cwS 1 hts gX9_hear_X9_isBidder rfl rfl rfl (by decide +kernel) ⟨Nat.le_of_ble_eq_true rfl, Nat.le_of_ble_eq_true rfl⟩) hB rfl hl.1 rfl (Nat.le_of_ble_eq_true rfl) dX9_hear_1 ⟨Nat.le_of_ble_eq_true rfl, Nat.le_of_ble_eq_true rfl⟩ (fun H locs hB => ?_)
  refine b_if_eq_f 15 hx hb dX9_hear_4 (by decide) (by decide) ?_
  refine lv_aload_n hx hb dX9_hear_7 rfl (lv_at hl 0 rfl) ?_
  refine lv_iload_n hx hb dX9_hear_8 rfl (lv_at hl 2 rfl) ?_
  refine m_callVE (ci := 9) (As := [.int (nI q)]) (rest := []) (c_M_isQuestion_t l D ty L ad _ a dn pn en qn mz nw lo tr q hM hq9 hqn) ⟨hx, hb, hml, hown, hts⟩ (cwV 1 hts gX9_hear_X9_isQuestion rfl rfl rfl (by decide +kernel) ⟨Nat.le_of_ble_eq_true rfl, Nat.le_of_ble_eq_true rfl⟩) hB (hL 1000 (by decide)) h_1000 rfl rfl hl.1 rfl (Nat.le_of_ble_eq_true rfl) dX9_hear_9 ⟨Nat.le_of_ble_eq_true rfl, Nat.le_of_ble_eq_true rfl⟩ (fun H locs hB => ?_)
  refine b_if_ne_t 17 hx hb dX9_hear_12 (by decide) (by decide) ?_
  refine lv_aload_n hx hb dX9_hear_17 rfl (lv_at hl 0 rfl) ?_
  refine lv_iload_n hx hb dX9_hear_18 rfl (lv_at hl 1 rfl) ?_
  refine lv_aload_n hx hb dX9_hear_19 rfl (lv_at hl 0 rfl) ?_
  refine m_get (C := RX9) (T := TX9) (N := 33) (ci := 9) hx hb hts in_X9_hear_X9 hown hB (hL 1000 (by decide)) h_1000 rfl 23 (by decide) (hts (.fieldLink RX9 62 "PaperRoomModel" "questionPaper" "[I") (by decide +kernel)) (fun _ h9 => h9) rfl dX9_hear_20 ?_
  refine lv_iload_n hx hb dX9_hear_23 rfl (lv_at hl 2 rfl) ?_
  refine n_iald hx hb hB (hL 1024 (by decide)) h_1024 q rfl (by omega) (by omega) dX9_hear_24 ?_
  refine b_topi (w := nI j) (hpj) ?_
  refine m_callVE (ci := 9) (As := [.int (nI b), .int (nI j)]) (rest := []) (c_M_sees l D ty L ad _ a dn pn en qn mz nw lo tr b j fo hM hb6 hj8 hfo hfo4 hw) ⟨hx, hb, hml, hown, hts⟩ (cwV 2 hts gX9_hear_X9_sees rfl rfl rfl (by decide +kernel) ⟨Nat.le_of_ble_eq_true rfl, Nat.le_of_ble_eq_true rfl⟩) hB (hL 1000 (by decide)) h_1000 rfl rfl hl.1 rfl (Nat.le_of_ble_eq_true rfl) dX9_hear_25 ⟨Nat.le_of_ble_eq_true rfl, Nat.le_of_ble_eq_true rfl⟩ (fun H locs hB => ?_)
  refine b_if_ne_t 34 hx hb dX9_hear_28 (by decide) (by rw [hs]; decide) ?_
  refine lv_aload_n hx hb dX9_hear_34 rfl (lv_at hl 0 rfl) ?_
  refine m_get (C := RX9) (T := TX9) (N := 33) (ci := 9) hx hb hts in_X9_hear_X9 hown hB (hL 1000 (by decide)) h_1000 rfl 26 (by decide) (hts (.fieldLink RX9 71 "PaperRoomModel" "isAnswered" "[I") (by decide +kernel)) (fun _ h9 => h9) rfl dX9_hear_35 ?_
  refine lv_iload_n hx hb dX9_hear_38 rfl (lv_at hl 2 rfl) ?_
  refine n_iald hx hb hB (hL 1027 (by decide)) h_1027 q rfl (by omega) (by omega) dX9_hear_39 ?_
  refine b_if_ne_t 46 hx hb dX9_hear_40 (by decide) (by rw [hna]; decide) ?_
  refine lv_aload_n hx hb dX9_hear_46 rfl (lv_at hl 0 rfl) ?_
  refine m_get (C := RX9) (T := TX9) (N := 33) (ci := 9) hx hb hts in_X9_hear_X9 hown hB (hL 1000 (by decide)) h_1000 rfl 26 (by decide) (hts (.fieldLink RX9 71 "PaperRoomModel" "isAnswered" "[I") (by decide +kernel)) (fun _ h9 => h9) rfl dX9_hear_47 ?_
  refine lv_iload_n hx hb dX9_hear_50 rfl (lv_at hl 2 rfl) ?_
  refine n_iald hx hb hB (hL 1027 (by decide)) h_1027 q rfl (by omega) (by omega) dX9_hear_51 ?_
  refine lv_iconst (v := 2) hx hb dX9_hear_52 (by decide) ?_
  refine b_icmp_eq_t 70 hx hb dX9_hear_53 (by decide) (by rw [hna]) ?_
  refine lv_aload_n hx hb dX9_hear_70 rfl (lv_at hl 0 rfl) ?_
  refine m_get (C := RX9) (T := TX9) (N := 33) (ci := 9) hx hb hts in_X9_hear_X9 hown hB (hL 1000 (by decide)) h_1000 rfl 27 (by decide) (hts (.fieldLink RX9 74 "PaperRoomModel" "answer" "[I") (by decide +kernel)) (fun _ h9 => h9) rfl dX9_hear_71 ?_
  refine lv_iload_n hx hb dX9_hear_74 rfl (lv_at hl 2 rfl) ?_
  refine n_iald hx hb hB (hL 1028 (by decide)) h_1028 q rfl (by omega) (by omega) dX9_hear_75 ?_
  refine lv_goto (tgt := 81) hx hb dX9_hear_76 (by decide) ?_
  exact m_iret hx hb hrt hlocks hB (Nat.le_refl _) (Nat.le_refl _) dX9_hear_81 ⟨rfl, rfl, rfl, rfl⟩
set_option maxHeartbeats 1000000 in
set_option maxRecDepth 100000 in
theorem c_M_hear_asker (l : Launch) (D : va_G) (ty : Nat → ClassId) (L : List Nat) (ad : Nat → Nat) (g : Nat → va_E) (a : Nat → Nat → Int32) (dn pn en qn mz : Nat) (nw lo : Int32) (tr : Int64) (b q j fo : Nat) (hM : RM ty L ad g a dn pn en qn mz nw lo tr) (hq9 : q < qn) (hqn : qn ≤ 30) (hpj : a 23 q = nI j) (hb6 : b < 6) (hj8 : j < 8) (hfo : a 7 j = nI fo) (hfo4 : fo < 4) (hw : a 9 j = 0 ∨ a 9 j = 1) (hs : seeB (a 6 j) (a 9 j) (a 8 j) (a 3) (a 4) (b % 3 * 4 + fo) nw = true) (hna : a 26 q = 1) (hak : (a 25 q >>> (nI b &&& 31)) &&& 1 = 1) : m_E l yX9_hear wsX9_hear 2 43 D ty [.ref (ad 1000), .int (nI b), .int (nI q)] L ad g (some (.int (a 27 q))) g := by
  intro sz
  refine Met.ofW (cc := cX9_hear) (maxL := 3) (ret := (some .int)) (by decide) rfl ?_
  intro p e s m args below meth c s₁ B hml hv
  have hx := B.exec
  have hb := B.bytes
  have hrt := B.returns
  have hts := atoms_spec (ws := wsX9_hear) B.pre
  have hown : s.vm.findClass RX9 = some m.cls := findClass_of_methodNamed B.named
  have hlocks := B.notSynchronized
  obtain ⟨rfl, hB⟩ := m_start hv
  generalize va_A (m_w L ad g) sz = A at hB ⊢
  generalize s.heap = H at hB ⊢
  generalize ([] : List Loc) = locs at hB ⊢
  have hl := lv_entry ([.ref (ad 1000), .int (nI b), .int (nI q)]) (n := 3) (Nat.le_of_ble_eq_true rfl)
  rw [lg_entry_eq]
  generalize (lg_sl ([.ref (ad 1000), .int (nI b), .int (nI q)]) ++ List.replicate (3 - (lg_sl ([.ref (ad 1000), .int (nI b), .int (nI q)])).length) Slot.unset).toArray = ls at hl ⊢
  have hl : lv_has ls 3 [(0, .ref (ad 1000)), (1, .int (nI b)), (2, .int (nI q))] := hl
  obtain ⟨hL, h_1000, h_1002, h_1004, h_1005, h_1007, h_1008, h_1009, h_1010, h_1011, h_1012, h_1013, h_1014, h_1015, h_1016, h_1019, h_1020, h_1021, h_1022, h_1024, h_1025, h_1026, h_1027, h_1028, h_1029, h_1030, h_1032⟩ := id hM
  refine lv_iload_n hx hb dX9_hear_0 rfl (lv_at hl 1 rfl) ?_
  refine m_callSE (As := [.int (nI b)]) (rest := []) (c_M_isBidder_t l D ty L ad _ b hb6) ⟨hx, hb, hml, hown, hts⟩ (va_cwS 1 hts gX9_hear_X9_isBidder rfl rfl rfl (by decide +kernel) ⟨Nat.le_of_ble_eq_true rfl, Nat.le_of_ble_eq_true rfl⟩) hB rfl hl.1 rfl (Nat.le_of_ble_eq_true rfl) dX9_hear_1 ⟨Nat.le_of_ble_eq_true rfl, Nat.le_of_ble_eq_true rfl⟩ (fun H locs hB => ?_)
  refine b_if_eq_f 15 hx hb dX9_hear_4 (by decide) (by decide) ?_
  refine lv_aload_n hx hb dX9_hear_7 rfl (lv_at hl 0 rfl) ?_
  refine lv_iload_n hx hb dX9_hear_8 rfl (lv_at hl 2 rfl) ?_
  refine m_callVE (ci := 9) (As := [.int (nI q)]) (rest := []) (c_M_isQuestion_t l D ty L ad _ a dn pn en qn mz nw lo tr q hM hq9 hqn) ⟨hx, hb, hml, hown, hts⟩ (cwV 1 hts gX9_hear_X9_isQuestion rfl rfl rfl (by decide +kernel) ⟨Nat.le_of_ble_eq_true rfl, Nat.le_of_ble_eq_true rfl⟩) hB (hL 1000 (by decide)) h_1000 rfl rfl hl.1 rfl (Nat.le_of_ble_eq_true rfl) dX9_hear_9 ⟨Nat.le_of_ble_eq_true rfl, Nat.le_of_ble_eq_true rfl⟩ (fun H locs hB => ?_)
  refine b_if_ne_t 17 hx hb dX9_hear_12 (by decide) (by decide) ?_
  refine lv_aload_n hx hb dX9_hear_17 rfl (lv_at hl 0 rfl) ?_
  refine lv_iload_n hx hb dX9_hear_18 rfl (lv_at hl 1 rfl) ?_
  refine lv_aload_n hx hb dX9_hear_19 rfl (lv_at hl 0 rfl) ?_
  refine m_get (C := RX9) (T := TX9) (N := 33) (ci := 9) hx hb hts in_X9_hear_X9 hown hB (hL 1000 (by decide)) h_1000 rfl 23 (by decide) (hts (.fieldLink RX9 62 "PaperRoomModel" "questionPaper" "[I") (by decide +kernel)) (fun _ h9 => h9) rfl dX9_hear_20 ?_
  refine lv_iload_n hx hb dX9_hear_23 rfl (lv_at hl 2 rfl) ?_
  refine n_iald hx hb hB (hL 1024 (by decide)) h_1024 q rfl (by omega) (by omega) dX9_hear_24 ?_
  refine b_topi (w := nI j) (hpj) ?_
  refine m_callVE (ci := 9) (As := [.int (nI b), .int (nI j)]) (rest := []) (c_M_sees l D ty L ad _ a dn pn en qn mz nw lo tr b j fo hM hb6 hj8 hfo hfo4 hw) ⟨hx, hb, hml, hown, hts⟩ (cwV 2 hts gX9_hear_X9_sees rfl rfl rfl (by decide +kernel) ⟨Nat.le_of_ble_eq_true rfl, Nat.le_of_ble_eq_true rfl⟩) hB (hL 1000 (by decide)) h_1000 rfl rfl hl.1 rfl (Nat.le_of_ble_eq_true rfl) dX9_hear_25 ⟨Nat.le_of_ble_eq_true rfl, Nat.le_of_ble_eq_true rfl⟩ (fun H locs hB => ?_)
  refine b_if_ne_t 34 hx hb dX9_hear_28 (by decide) (by rw [hs]; decide) ?_
  refine lv_aload_n hx hb dX9_hear_34 rfl (lv_at hl 0 rfl) ?_
  refine m_get (C := RX9) (T := TX9) (N := 33) (ci := 9) hx hb hts in_X9_hear_X9 hown hB (hL 1000 (by decide)) h_1000 rfl 26 (by decide) (hts (.fieldLink RX9 71 "PaperRoomModel" "isAnswered" "[I") (by decide +kernel)) (fun _ h9 => h9) rfl dX9_hear_35 ?_
  refine lv_iload_n hx hb dX9_hear_38 rfl (lv_at hl 2 rfl) ?_
  refine n_iald hx hb hB (hL 1027 (by decide)) h_1027 q rfl (by omega) (by omega) dX9_hear_39 ?_
  refine b_if_ne_t 46 hx hb dX9_hear_40 (by decide) (by rw [hna]; decide) ?_
  refine lv_aload_n hx hb dX9_hear_46 rfl (lv_at hl 0 rfl) ?_
  refine m_get (C := RX9) (T := TX9) (N := 33) (ci := 9) hx hb hts in_X9_hear_X9 hown hB (hL 1000 (by decide)) h_1000 rfl 26 (by decide) (hts (.fieldLink RX9 71 "PaperRoomModel" "isAnswered" "[I") (by decide +kernel)) (fun _ h9 => h9) rfl dX9_hear_47 ?_
  refine lv_iload_n hx hb dX9_hear_50 rfl (lv_at hl 2 rfl) ?_
  refine n_iald hx hb hB (hL 1027 (by decide)) h_1027 q rfl (by omega) (by omega) dX9_hear_51 ?_
  refine lv_iconst (v := 2) hx hb dX9_hear_52 (by decide) ?_
  refine b_icmp_eq_f 70 hx hb dX9_hear_53 (by decide) (by rw [hna]; decide) ?_
  refine lv_aload_n hx hb dX9_hear_56 rfl (lv_at hl 0 rfl) ?_
  refine m_get (C := RX9) (T := TX9) (N := 33) (ci := 9) hx hb hts in_X9_hear_X9 hown hB (hL 1000 (by decide)) h_1000 rfl 25 (by decide) (hts (.fieldLink RX9 68 "PaperRoomModel" "askers" "[I") (by decide +kernel)) (fun _ h9 => h9) rfl dX9_hear_57 ?_
  refine lv_iload_n hx hb dX9_hear_60 rfl (lv_at hl 2 rfl) ?_
  refine n_iald hx hb hB (hL 1026 (by decide)) h_1026 q rfl (by omega) (by omega) dX9_hear_61 ?_
  refine lv_iload_n hx hb dX9_hear_62 rfl (lv_at hl 1 rfl) ?_
  refine lv_ishr hx hb dX9_hear_63 ?_
  refine lv_iconst (v := 1) hx hb dX9_hear_64 (by decide) ?_
  refine lv_iand hx hb dX9_hear_65 ?_
  refine lv_iconst (v := 1) hx hb dX9_hear_66 (by decide) ?_
  refine b_icmp_ne_f 79 hx hb dX9_hear_67 (by decide) (by rw [hak]) ?_
  refine lv_aload_n hx hb dX9_hear_70 rfl (lv_at hl 0 rfl) ?_
  refine m_get (C := RX9) (T := TX9) (N := 33) (ci := 9) hx hb hts in_X9_hear_X9 hown hB (hL 1000 (by decide)) h_1000 rfl 27 (by decide) (hts (.fieldLink RX9 74 "PaperRoomModel" "answer" "[I") (by decide +kernel)) (fun _ h9 => h9) rfl dX9_hear_71 ?_
  refine lv_iload_n hx hb dX9_hear_74 rfl (lv_at hl 2 rfl) ?_
  refine n_iald hx hb hB (hL 1028 (by decide)) h_1028 q rfl (by omega) (by omega) dX9_hear_75 ?_
  refine lv_goto (tgt := 81) hx hb dX9_hear_76 (by decide) ?_
  exact m_iret hx hb hrt hlocks hB (Nat.le_refl _) (Nat.le_refl _) dX9_hear_81 ⟨rfl, rfl, rfl, rfl⟩
set_option maxHeartbeats 1000000 in
set_option maxRecDepth 100000 in
theorem c_M_hear_other (l : Launch) (D : va_G) (ty : Nat → ClassId) (L : List Nat) (ad : Nat → Nat) (g : Nat → va_E) (a : Nat → Nat → Int32) (dn pn en qn mz : Nat) (nw lo : Int32) (tr : Int64) (b q j fo : Nat) (hM : RM ty L ad g a dn pn en qn mz nw lo tr) (hq9 : q < qn) (hqn : qn ≤ 30) (hpj : a 23 q = nI j) (hb6 : b < 6) (hj8 : j < 8) (hfo : a 7 j = nI fo) (hfo4 : fo < 4) (hw : a 9 j = 0 ∨ a 9 j = 1) (hs : seeB (a 6 j) (a 9 j) (a 8 j) (a 3) (a 4) (b % 3 * 4 + fo) nw = true) (hna : a 26 q = 1) (hak : ¬ (a 25 q >>> (nI b &&& 31)) &&& 1 = 1) : m_E l yX9_hear wsX9_hear 2 43 D ty [.ref (ad 1000), .int (nI b), .int (nI q)] L ad g (some (.int (-4))) g := by
  intro sz
  refine Met.ofW (cc := cX9_hear) (maxL := 3) (ret := (some .int)) (by decide) rfl ?_
  intro p e s m args below meth c s₁ B hml hv
  have hx := B.exec
  have hb := B.bytes
  have hrt := B.returns
  have hts := atoms_spec (ws := wsX9_hear) B.pre
  have hown : s.vm.findClass RX9 = some m.cls := findClass_of_methodNamed B.named
  have hlocks := B.notSynchronized
  obtain ⟨rfl, hB⟩ := m_start hv
  generalize va_A (m_w L ad g) sz = A at hB ⊢
  generalize s.heap = H at hB ⊢
  generalize ([] : List Loc) = locs at hB ⊢
  have hl := lv_entry ([.ref (ad 1000), .int (nI b), .int (nI q)]) (n := 3) (Nat.le_of_ble_eq_true rfl)
  rw [lg_entry_eq]
  generalize (lg_sl ([.ref (ad 1000), .int (nI b), .int (nI q)]) ++ List.replicate (3 - (lg_sl ([.ref (ad 1000), .int (nI b), .int (nI q)])).length) Slot.unset).toArray = ls at hl ⊢
  have hl : lv_has ls 3 [(0, .ref (ad 1000)), (1, .int (nI b)), (2, .int (nI q))] := hl
  obtain ⟨hL, h_1000, h_1002, h_1004, h_1005, h_1007, h_1008, h_1009, h_1010, h_1011, h_1012, h_1013, h_1014, h_1015, h_1016, h_1019, h_1020, h_1021, h_1022, h_1024, h_1025, h_1026, h_1027, h_1028, h_1029, h_1030, h_1032⟩ := id hM
  refine lv_iload_n hx hb dX9_hear_0 rfl (lv_at hl 1 rfl) ?_
  refine m_callSE (As := [.int (nI b)]) (rest := []) (c_M_isBidder_t l D ty L ad _ b hb6) ⟨hx, hb, hml, hown, hts⟩ (va_cwS 1 hts gX9_hear_X9_isBidder rfl rfl rfl (by decide +kernel) ⟨Nat.le_of_ble_eq_true rfl, Nat.le_of_ble_eq_true rfl⟩) hB rfl hl.1 rfl (Nat.le_of_ble_eq_true rfl) dX9_hear_1 ⟨Nat.le_of_ble_eq_true rfl, Nat.le_of_ble_eq_true rfl⟩ (fun H locs hB => ?_)
  refine b_if_eq_f 15 hx hb dX9_hear_4 (by decide) (by decide) ?_
  refine lv_aload_n hx hb dX9_hear_7 rfl (lv_at hl 0 rfl) ?_
  refine lv_iload_n hx hb dX9_hear_8 rfl (lv_at hl 2 rfl) ?_
  refine m_callVE (ci := 9) (As := [.int (nI q)]) (rest := []) (c_M_isQuestion_t l D ty L ad _ a dn pn en qn mz nw lo tr q hM hq9 hqn) ⟨hx, hb, hml, hown, hts⟩ (cwV 1 hts gX9_hear_X9_isQuestion rfl rfl rfl (by decide +kernel) ⟨Nat.le_of_ble_eq_true rfl, Nat.le_of_ble_eq_true rfl⟩) hB (hL 1000 (by decide)) h_1000 rfl rfl hl.1 rfl (Nat.le_of_ble_eq_true rfl) dX9_hear_9 ⟨Nat.le_of_ble_eq_true rfl, Nat.le_of_ble_eq_true rfl⟩ (fun H locs hB => ?_)
  refine b_if_ne_t 17 hx hb dX9_hear_12 (by decide) (by decide) ?_
  refine lv_aload_n hx hb dX9_hear_17 rfl (lv_at hl 0 rfl) ?_
  refine lv_iload_n hx hb dX9_hear_18 rfl (lv_at hl 1 rfl) ?_
  refine lv_aload_n hx hb dX9_hear_19 rfl (lv_at hl 0 rfl) ?_
  refine m_get (C := RX9) (T := TX9) (N := 33) (ci := 9) hx hb hts in_X9_hear_X9 hown hB (hL 1000 (by decide)) h_1000 rfl 23 (by decide) (hts (.fieldLink RX9 62 "PaperRoomModel" "questionPaper" "[I") (by decide +kernel)) (fun _ h9 => h9) rfl dX9_hear_20 ?_
  refine lv_iload_n hx hb dX9_hear_23 rfl (lv_at hl 2 rfl) ?_
  refine n_iald hx hb hB (hL 1024 (by decide)) h_1024 q rfl (by omega) (by omega) dX9_hear_24 ?_
  refine b_topi (w := nI j) (hpj) ?_
  refine m_callVE (ci := 9) (As := [.int (nI b), .int (nI j)]) (rest := []) (c_M_sees l D ty L ad _ a dn pn en qn mz nw lo tr b j fo hM hb6 hj8 hfo hfo4 hw) ⟨hx, hb, hml, hown, hts⟩ (cwV 2 hts gX9_hear_X9_sees rfl rfl rfl (by decide +kernel) ⟨Nat.le_of_ble_eq_true rfl, Nat.le_of_ble_eq_true rfl⟩) hB (hL 1000 (by decide)) h_1000 rfl rfl hl.1 rfl (Nat.le_of_ble_eq_true rfl) dX9_hear_25 ⟨Nat.le_of_ble_eq_true rfl, Nat.le_of_ble_eq_true rfl⟩ (fun H locs hB => ?_)
  refine b_if_ne_t 34 hx hb dX9_hear_28 (by decide) (by rw [hs]; decide) ?_
  refine lv_aload_n hx hb dX9_hear_34 rfl (lv_at hl 0 rfl) ?_
  refine m_get (C := RX9) (T := TX9) (N := 33) (ci := 9) hx hb hts in_X9_hear_X9 hown hB (hL 1000 (by decide)) h_1000 rfl 26 (by decide) (hts (.fieldLink RX9 71 "PaperRoomModel" "isAnswered" "[I") (by decide +kernel)) (fun _ h9 => h9) rfl dX9_hear_35 ?_
  refine lv_iload_n hx hb dX9_hear_38 rfl (lv_at hl 2 rfl) ?_
  refine n_iald hx hb hB (hL 1027 (by decide)) h_1027 q rfl (by omega) (by omega) dX9_hear_39 ?_
  refine b_if_ne_t 46 hx hb dX9_hear_40 (by decide) (by rw [hna]; decide) ?_
  refine lv_aload_n hx hb dX9_hear_46 rfl (lv_at hl 0 rfl) ?_
  refine m_get (C := RX9) (T := TX9) (N := 33) (ci := 9) hx hb hts in_X9_hear_X9 hown hB (hL 1000 (by decide)) h_1000 rfl 26 (by decide) (hts (.fieldLink RX9 71 "PaperRoomModel" "isAnswered" "[I") (by decide +kernel)) (fun _ h9 => h9) rfl dX9_hear_47 ?_
  refine lv_iload_n hx hb dX9_hear_50 rfl (lv_at hl 2 rfl) ?_
  refine n_iald hx hb hB (hL 1027 (by decide)) h_1027 q rfl (by omega) (by omega) dX9_hear_51 ?_
  refine lv_iconst (v := 2) hx hb dX9_hear_52 (by decide) ?_
  refine b_icmp_eq_f 70 hx hb dX9_hear_53 (by decide) (by rw [hna]; decide) ?_
  refine lv_aload_n hx hb dX9_hear_56 rfl (lv_at hl 0 rfl) ?_
  refine m_get (C := RX9) (T := TX9) (N := 33) (ci := 9) hx hb hts in_X9_hear_X9 hown hB (hL 1000 (by decide)) h_1000 rfl 25 (by decide) (hts (.fieldLink RX9 68 "PaperRoomModel" "askers" "[I") (by decide +kernel)) (fun _ h9 => h9) rfl dX9_hear_57 ?_
  refine lv_iload_n hx hb dX9_hear_60 rfl (lv_at hl 2 rfl) ?_
  refine n_iald hx hb hB (hL 1026 (by decide)) h_1026 q rfl (by omega) (by omega) dX9_hear_61 ?_
  refine lv_iload_n hx hb dX9_hear_62 rfl (lv_at hl 1 rfl) ?_
  refine lv_ishr hx hb dX9_hear_63 ?_
  refine lv_iconst (v := 1) hx hb dX9_hear_64 (by decide) ?_
  refine lv_iand hx hb dX9_hear_65 ?_
  refine lv_iconst (v := 1) hx hb dX9_hear_66 (by decide) ?_
  refine b_icmp_ne_t 79 hx hb dX9_hear_67 (by decide) (fun h8 => hak ((i_eq _ _).mpr h8)) ?_
  refine lv_bipush (v := (-4)) hx hb dX9_hear_79 (by decide) ?_
  exact m_iret hx hb hrt hlocks hB (Nat.le_refl _) (Nat.le_refl _) dX9_hear_81 ⟨rfl, rfl, rfl, rfl⟩
set_option maxHeartbeats 1000000 in
set_option maxRecDepth 100000 in
theorem c_M_hear_b1 (l : Launch) (D : va_G) (ty : Nat → ClassId) (L : List Nat) (ad : Nat → Nat) (g : Nat → va_E) (a : Nat → Nat → Int32) (dn pn en qn mz : Nat) (nw lo : Int32) (tr : Int64) (i w : Int32) (hM : RM ty L ad g a dn pn en qn mz nw lo tr) (hi : ¬ (0 ≤ i.toInt ∧ i.toInt < 6)) : m_E l yX9_hear wsX9_hear 2 43 D ty [.ref (ad 1000), .int i, .int w] L ad g (some (.int (-1))) g := by
  intro sz
  refine Met.ofW (cc := cX9_hear) (maxL := 3) (ret := (some .int)) (by decide) rfl ?_
  intro p e s m args below meth c s₁ B hml hv
  have hx := B.exec
  have hb := B.bytes
  have hrt := B.returns
  have hts := atoms_spec (ws := wsX9_hear) B.pre
  have hown : s.vm.findClass RX9 = some m.cls := findClass_of_methodNamed B.named
  have hlocks := B.notSynchronized
  obtain ⟨rfl, hB⟩ := m_start hv
  generalize va_A (m_w L ad g) sz = A at hB ⊢
  generalize s.heap = H at hB ⊢
  generalize ([] : List Loc) = locs at hB ⊢
  have hl := lv_entry ([.ref (ad 1000), .int i, .int w]) (n := 3) (Nat.le_of_ble_eq_true rfl)
  rw [lg_entry_eq]
  generalize (lg_sl ([.ref (ad 1000), .int i, .int w]) ++ List.replicate (3 - (lg_sl ([.ref (ad 1000), .int i, .int w])).length) Slot.unset).toArray = ls at hl ⊢
  have hl : lv_has ls 3 [(0, .ref (ad 1000)), (1, .int i), (2, .int w)] := hl
  obtain ⟨hL, h_1000, h_1002, h_1004, h_1005, h_1007, h_1008, h_1009, h_1010, h_1011, h_1012, h_1013, h_1014, h_1015, h_1016, h_1019, h_1020, h_1021, h_1022, h_1024, h_1025, h_1026, h_1027, h_1028, h_1029, h_1030, h_1032⟩ := id hM
  refine lv_iload_n hx hb dX9_hear_0 rfl (lv_at hl 1 rfl) ?_
  refine m_callSE (As := [.int i]) (rest := []) (c_M_isBidder_f l D ty L ad _ _ hi) ⟨hx, hb, hml, hown, hts⟩ (va_cwS 1 hts gX9_hear_X9_isBidder rfl rfl rfl (by decide +kernel) ⟨Nat.le_of_ble_eq_true rfl, Nat.le_of_ble_eq_true rfl⟩) hB rfl hl.1 rfl (Nat.le_of_ble_eq_true rfl) dX9_hear_1 ⟨Nat.le_of_ble_eq_true rfl, Nat.le_of_ble_eq_true rfl⟩ (fun H locs hB => ?_)
  refine b_if_eq_t 15 hx hb dX9_hear_4 (by decide) (by decide) ?_
  refine lv_iconst (v := (-1)) hx hb dX9_hear_15 (by decide) ?_
  exact m_iret hx hb hrt hlocks hB (Nat.le_refl _) (Nat.le_refl _) dX9_hear_16 ⟨rfl, rfl, rfl, rfl⟩
set_option maxHeartbeats 1000000 in
set_option maxRecDepth 100000 in
theorem c_M_hear_b2 (l : Launch) (D : va_G) (ty : Nat → ClassId) (L : List Nat) (ad : Nat → Nat) (g : Nat → va_E) (a : Nat → Nat → Int32) (dn pn en qn mz : Nat) (nw lo : Int32) (tr : Int64) (b : Nat) (i : Int32) (hM : RM ty L ad g a dn pn en qn mz nw lo tr) (hb6 : b < 6) (hi : ¬ (0 ≤ i.toInt ∧ i.toInt < qn)) (hqn : qn ≤ 30) : m_E l yX9_hear wsX9_hear 2 43 D ty [.ref (ad 1000), .int (nI b), .int i] L ad g (some (.int (-1))) g := by
  intro sz
  refine Met.ofW (cc := cX9_hear) (maxL := 3) (ret := (some .int)) (by decide) rfl ?_
  intro p e s m args below meth c s₁ B hml hv
  have hx := B.exec
  have hb := B.bytes
  have hrt := B.returns
  have hts := atoms_spec (ws := wsX9_hear) B.pre
  have hown : s.vm.findClass RX9 = some m.cls := findClass_of_methodNamed B.named
  have hlocks := B.notSynchronized
  obtain ⟨rfl, hB⟩ := m_start hv
  generalize va_A (m_w L ad g) sz = A at hB ⊢
  generalize s.heap = H at hB ⊢
  generalize ([] : List Loc) = locs at hB ⊢
  have hl := lv_entry ([.ref (ad 1000), .int (nI b), .int i]) (n := 3) (Nat.le_of_ble_eq_true rfl)
  rw [lg_entry_eq]
  generalize (lg_sl ([.ref (ad 1000), .int (nI b), .int i]) ++ List.replicate (3 - (lg_sl ([.ref (ad 1000), .int (nI b), .int i])).length) Slot.unset).toArray = ls at hl ⊢
  have hl : lv_has ls 3 [(0, .ref (ad 1000)), (1, .int (nI b)), (2, .int i)] := hl
  obtain ⟨hL, h_1000, h_1002, h_1004, h_1005, h_1007, h_1008, h_1009, h_1010, h_1011, h_1012, h_1013, h_1014, h_1015, h_1016, h_1019, h_1020, h_1021, h_1022, h_1024, h_1025, h_1026, h_1027, h_1028, h_1029, h_1030, h_1032⟩ := id hM
  refine lv_iload_n hx hb dX9_hear_0 rfl (lv_at hl 1 rfl) ?_
  refine m_callSE (As := [.int (nI b)]) (rest := []) (c_M_isBidder_t l D ty L ad _ b hb6) ⟨hx, hb, hml, hown, hts⟩ (va_cwS 1 hts gX9_hear_X9_isBidder rfl rfl rfl (by decide +kernel) ⟨Nat.le_of_ble_eq_true rfl, Nat.le_of_ble_eq_true rfl⟩) hB rfl hl.1 rfl (Nat.le_of_ble_eq_true rfl) dX9_hear_1 ⟨Nat.le_of_ble_eq_true rfl, Nat.le_of_ble_eq_true rfl⟩ (fun H locs hB => ?_)
  refine b_if_eq_f 15 hx hb dX9_hear_4 (by decide) (by decide) ?_
  refine lv_aload_n hx hb dX9_hear_7 rfl (lv_at hl 0 rfl) ?_
  refine lv_iload_n hx hb dX9_hear_8 rfl (lv_at hl 2 rfl) ?_
  refine m_callVE (ci := 9) (As := [.int i]) (rest := []) (c_M_isQuestion_f l D ty L ad _ a dn pn en qn mz nw lo tr _ hM hi hqn) ⟨hx, hb, hml, hown, hts⟩ (cwV 1 hts gX9_hear_X9_isQuestion rfl rfl rfl (by decide +kernel) ⟨Nat.le_of_ble_eq_true rfl, Nat.le_of_ble_eq_true rfl⟩) hB (hL 1000 (by decide)) h_1000 rfl rfl hl.1 rfl (Nat.le_of_ble_eq_true rfl) dX9_hear_9 ⟨Nat.le_of_ble_eq_true rfl, Nat.le_of_ble_eq_true rfl⟩ (fun H locs hB => ?_)
  refine b_if_ne_f 17 hx hb dX9_hear_12 (by decide) (by decide) ?_
  refine lv_iconst (v := (-1)) hx hb dX9_hear_15 (by decide) ?_
  exact m_iret hx hb hrt hlocks hB (Nat.le_refl _) (Nat.le_refl _) dX9_hear_16 ⟨rfl, rfl, rfl, rfl⟩
