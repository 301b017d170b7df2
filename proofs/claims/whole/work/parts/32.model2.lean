set_option maxHeartbeats 1000000 in
set_option maxRecDepth 100000 in
theorem c_M_rights_1 (l : Launch) (D : va_G) (ty : Nat → ClassId) (L : List Nat) (ad : Nat → Nat) (g : Nat → va_E) (a : Nat → Nat → Int32) (dn pn en qn mz : Nat) (nw lo : Int32) (tr : Int64) (x f u w : Int32) (hM : RM ty L ad g a dn pn en qn mz nw lo tr) (h : ¬ (0 ≤ x.toInt ∧ x.toInt < 3)) : m_E l yX9_rights wsX9_rights 1 22 D ty [.ref (ad 1000), .int x, .int f, .int u, .int w] L ad g (some (.int (-1))) g := by
  intro sz
  refine Met.ofW (cc := cX9_rights) (maxL := 5) (ret := (some .int)) (by decide) rfl ?_
  intro p e s m args below meth c s₁ B hml hv
  have hx := B.exec
  have hb := B.bytes
  have hrt := B.returns
  have hts := atoms_spec (ws := wsX9_rights) B.pre
  have hown : s.vm.findClass RX9 = some m.cls := findClass_of_methodNamed B.named
  have hlocks := B.notSynchronized
  obtain ⟨rfl, hB⟩ := m_start hv
  generalize va_A (m_w L ad g) sz = A at hB ⊢
  generalize s.heap = H at hB ⊢
  generalize ([] : List Loc) = locs at hB ⊢
  have hl := lv_entry ([.ref (ad 1000), .int x, .int f, .int u, .int w]) (n := 5) (Nat.le_of_ble_eq_true rfl)
  rw [lg_entry_eq]
  generalize (lg_sl ([.ref (ad 1000), .int x, .int f, .int u, .int w]) ++ List.replicate (5 - (lg_sl ([.ref (ad 1000), .int x, .int f, .int u, .int w])).length) Slot.unset).toArray = ls at hl ⊢
  have hl : lv_has ls 5 [(0, .ref (ad 1000)), (1, .int x), (2, .int f), (3, .int u), (4, .int w)] := hl
  obtain ⟨hL, h_1000, h_1002, h_1004, h_1005, h_1007, h_1008, h_1009, h_1010, h_1011, h_1012, h_1013, h_1014, h_1015, h_1016, h_1019, h_1020, h_1021, h_1022, h_1024, h_1025, h_1026, h_1027, h_1028, h_1029, h_1030, h_1032⟩ := id hM
  have l0 : (0 : Int32).toInt = 0 := by decide
  have l2 : (2 : Int32).toInt = 2 := by decide
  have l3 : (3 : Int32).toInt = 3 := by decide
  have l1000000 : (1000000 : Int32).toInt = 1000000 := by decide
  refine lv_iload_n hx hb dX9_rights_0 rfl (lv_at hl 1 rfl) ?_
  refine lv_iconst (v := 0) hx hb dX9_rights_1 (by decide) ?_
  refine lv_iconst (v := 2) hx hb dX9_rights_2 (by decide) ?_
  refine m_callSE (As := [.int x, .int 0, .int 2]) (rest := []) (c_M_in_f l D ty L ad _ _ _ _ (by omega)) ⟨hx, hb, hml, hown, hts⟩ (va_cwS 3 hts gX9_rights_X9_in rfl rfl rfl (by decide +kernel) ⟨Nat.le_of_ble_eq_true rfl, Nat.le_of_ble_eq_true rfl⟩) hB rfl hl.1 rfl (Nat.le_of_ble_eq_true rfl) dX9_rights_3 ⟨Nat.le_of_ble_eq_true rfl, Nat.le_of_ble_eq_true rfl⟩ (fun H locs hB => ?_)
  refine b_if_eq_t 39 hx hb dX9_rights_6 (by decide) (by decide) ?_
  refine lv_iconst (v := (-1)) hx hb dX9_rights_39 (by decide) ?_
  exact m_iret hx hb hrt hlocks hB (Nat.le_refl _) (Nat.le_refl _) dX9_rights_40 ⟨rfl, rfl, rfl, rfl⟩
set_option maxHeartbeats 1000000 in
set_option maxRecDepth 100000 in
theorem c_M_rights_2 (l : Launch) (D : va_G) (ty : Nat → ClassId) (L : List Nat) (ad : Nat → Nat) (g : Nat → va_E) (a : Nat → Nat → Int32) (dn pn en qn mz : Nat) (nw lo : Int32) (tr : Int64) (x f u w : Int32) (hM : RM ty L ad g a dn pn en qn mz nw lo tr) (h1 : 0 ≤ x.toInt ∧ x.toInt < 3) (h : ¬ (0 ≤ f.toInt ∧ f.toInt < 4)) : m_E l yX9_rights wsX9_rights 1 22 D ty [.ref (ad 1000), .int x, .int f, .int u, .int w] L ad g (some (.int (-1))) g := by
  intro sz
  refine Met.ofW (cc := cX9_rights) (maxL := 5) (ret := (some .int)) (by decide) rfl ?_
  intro p e s m args below meth c s₁ B hml hv
  have hx := B.exec
  have hb := B.bytes
  have hrt := B.returns
  have hts := atoms_spec (ws := wsX9_rights) B.pre
  have hown : s.vm.findClass RX9 = some m.cls := findClass_of_methodNamed B.named
  have hlocks := B.notSynchronized
  obtain ⟨rfl, hB⟩ := m_start hv
  generalize va_A (m_w L ad g) sz = A at hB ⊢
  generalize s.heap = H at hB ⊢
  generalize ([] : List Loc) = locs at hB ⊢
  have hl := lv_entry ([.ref (ad 1000), .int x, .int f, .int u, .int w]) (n := 5) (Nat.le_of_ble_eq_true rfl)
  rw [lg_entry_eq]
  generalize (lg_sl ([.ref (ad 1000), .int x, .int f, .int u, .int w]) ++ List.replicate (5 - (lg_sl ([.ref (ad 1000), .int x, .int f, .int u, .int w])).length) Slot.unset).toArray = ls at hl ⊢
  have hl : lv_has ls 5 [(0, .ref (ad 1000)), (1, .int x), (2, .int f), (3, .int u), (4, .int w)] := hl
  obtain ⟨hL, h_1000, h_1002, h_1004, h_1005, h_1007, h_1008, h_1009, h_1010, h_1011, h_1012, h_1013, h_1014, h_1015, h_1016, h_1019, h_1020, h_1021, h_1022, h_1024, h_1025, h_1026, h_1027, h_1028, h_1029, h_1030, h_1032⟩ := id hM
  have l0 : (0 : Int32).toInt = 0 := by decide
  have l2 : (2 : Int32).toInt = 2 := by decide
  have l3 : (3 : Int32).toInt = 3 := by decide
  have l1000000 : (1000000 : Int32).toInt = 1000000 := by decide
  refine lv_iload_n hx hb dX9_rights_0 rfl (lv_at hl 1 rfl) ?_
  refine lv_iconst (v := 0) hx hb dX9_rights_1 (by decide) ?_
  refine lv_iconst (v := 2) hx hb dX9_rights_2 (by decide) ?_
  refine m_callSE (As := [.int x, .int 0, .int 2]) (rest := []) (c_M_in_t l D ty L ad _ _ _ _ (by omega) (by omega)) ⟨hx, hb, hml, hown, hts⟩ (va_cwS 3 hts gX9_rights_X9_in rfl rfl rfl (by decide +kernel) ⟨Nat.le_of_ble_eq_true rfl, Nat.le_of_ble_eq_true rfl⟩) hB rfl hl.1 rfl (Nat.le_of_ble_eq_true rfl) dX9_rights_3 ⟨Nat.le_of_ble_eq_true rfl, Nat.le_of_ble_eq_true rfl⟩ (fun H locs hB => ?_)
  refine b_if_eq_f 39 hx hb dX9_rights_6 (by decide) (by decide) ?_
  refine lv_iload_n hx hb dX9_rights_9 rfl (lv_at hl 2 rfl) ?_
  refine lv_iconst (v := 0) hx hb dX9_rights_10 (by decide) ?_
  refine lv_iconst (v := 3) hx hb dX9_rights_11 (by decide) ?_
  refine m_callSE (As := [.int f, .int 0, .int 3]) (rest := []) (c_M_in_f l D ty L ad _ _ _ _ (by omega)) ⟨hx, hb, hml, hown, hts⟩ (va_cwS 3 hts gX9_rights_X9_in rfl rfl rfl (by decide +kernel) ⟨Nat.le_of_ble_eq_true rfl, Nat.le_of_ble_eq_true rfl⟩) hB rfl hl.1 rfl (Nat.le_of_ble_eq_true rfl) dX9_rights_12 ⟨Nat.le_of_ble_eq_true rfl, Nat.le_of_ble_eq_true rfl⟩ (fun H locs hB => ?_)
  refine b_if_eq_t 39 hx hb dX9_rights_15 (by decide) (by decide) ?_
  refine lv_iconst (v := (-1)) hx hb dX9_rights_39 (by decide) ?_
  exact m_iret hx hb hrt hlocks hB (Nat.le_refl _) (Nat.le_refl _) dX9_rights_40 ⟨rfl, rfl, rfl, rfl⟩
set_option maxHeartbeats 1000000 in
set_option maxRecDepth 100000 in
theorem c_M_rights_3 (l : Launch) (D : va_G) (ty : Nat → ClassId) (L : List Nat) (ad : Nat → Nat) (g : Nat → va_E) (a : Nat → Nat → Int32) (dn pn en qn mz : Nat) (nw lo : Int32) (tr : Int64) (x f u w : Int32) (hM : RM ty L ad g a dn pn en qn mz nw lo tr) (h1 : 0 ≤ x.toInt ∧ x.toInt < 3) (h2 : 0 ≤ f.toInt ∧ f.toInt < 4) (h : ¬ (0 ≤ u.toInt ∧ u.toInt < 1000001)) : m_E l yX9_rights wsX9_rights 1 22 D ty [.ref (ad 1000), .int x, .int f, .int u, .int w] L ad g (some (.int (-1))) g := by
  intro sz
  refine Met.ofW (cc := cX9_rights) (maxL := 5) (ret := (some .int)) (by decide) rfl ?_
  intro p e s m args below meth c s₁ B hml hv
  have hx := B.exec
  have hb := B.bytes
  have hrt := B.returns
  have hts := atoms_spec (ws := wsX9_rights) B.pre
  have hown : s.vm.findClass RX9 = some m.cls := findClass_of_methodNamed B.named
  have hlocks := B.notSynchronized
  obtain ⟨rfl, hB⟩ := m_start hv
  generalize va_A (m_w L ad g) sz = A at hB ⊢
  generalize s.heap = H at hB ⊢
  generalize ([] : List Loc) = locs at hB ⊢
  have hl := lv_entry ([.ref (ad 1000), .int x, .int f, .int u, .int w]) (n := 5) (Nat.le_of_ble_eq_true rfl)
  rw [lg_entry_eq]
  generalize (lg_sl ([.ref (ad 1000), .int x, .int f, .int u, .int w]) ++ List.replicate (5 - (lg_sl ([.ref (ad 1000), .int x, .int f, .int u, .int w])).length) Slot.unset).toArray = ls at hl ⊢
  have hl : lv_has ls 5 [(0, .ref (ad 1000)), (1, .int x), (2, .int f), (3, .int u), (4, .int w)] := hl
  obtain ⟨hL, h_1000, h_1002, h_1004, h_1005, h_1007, h_1008, h_1009, h_1010, h_1011, h_1012, h_1013, h_1014, h_1015, h_1016, h_1019, h_1020, h_1021, h_1022, h_1024, h_1025, h_1026, h_1027, h_1028, h_1029, h_1030, h_1032⟩ := id hM
  have l0 : (0 : Int32).toInt = 0 := by decide
  have l2 : (2 : Int32).toInt = 2 := by decide
  have l3 : (3 : Int32).toInt = 3 := by decide
  have l1000000 : (1000000 : Int32).toInt = 1000000 := by decide
  refine lv_iload_n hx hb dX9_rights_0 rfl (lv_at hl 1 rfl) ?_
  refine lv_iconst (v := 0) hx hb dX9_rights_1 (by decide) ?_
  refine lv_iconst (v := 2) hx hb dX9_rights_2 (by decide) ?_
  refine m_callSE (As := [.int x, .int 0, .int 2]) (rest := []) (c_M_in_t l D ty L ad _ _ _ _ (by omega) (by omega)) ⟨hx, hb, hml, hown, hts⟩ (va_cwS 3 hts gX9_rights_X9_in rfl rfl rfl (by decide +kernel) ⟨Nat.le_of_ble_eq_true rfl, Nat.le_of_ble_eq_true rfl⟩) hB rfl hl.1 rfl (Nat.le_of_ble_eq_true rfl) dX9_rights_3 ⟨Nat.le_of_ble_eq_true rfl, Nat.le_of_ble_eq_true rfl⟩ (fun H locs hB => ?_)
  refine b_if_eq_f 39 hx hb dX9_rights_6 (by decide) (by decide) ?_
  refine lv_iload_n hx hb dX9_rights_9 rfl (lv_at hl 2 rfl) ?_
  refine lv_iconst (v := 0) hx hb dX9_rights_10 (by decide) ?_
  refine lv_iconst (v := 3) hx hb dX9_rights_11 (by decide) ?_
  refine m_callSE (As := [.int f, .int 0, .int 3]) (rest := []) (c_M_in_t l D ty L ad _ _ _ _ (by omega) (by omega)) ⟨hx, hb, hml, hown, hts⟩ (va_cwS 3 hts gX9_rights_X9_in rfl rfl rfl (by decide +kernel) ⟨Nat.le_of_ble_eq_true rfl, Nat.le_of_ble_eq_true rfl⟩) hB rfl hl.1 rfl (Nat.le_of_ble_eq_true rfl) dX9_rights_12 ⟨Nat.le_of_ble_eq_true rfl, Nat.le_of_ble_eq_true rfl⟩ (fun H locs hB => ?_)
  refine b_if_eq_f 39 hx hb dX9_rights_15 (by decide) (by decide) ?_
  refine lv_iload_n hx hb dX9_rights_18 rfl (lv_at hl 3 rfl) ?_
  refine lv_iconst (v := 0) hx hb dX9_rights_19 (by decide) ?_
  refine lv_ldc hx hb hown (hts (.constant RX9 112 (1000000)) (by decide +kernel)) dX9_rights_20 ?_
  refine m_callSE (As := [.int u, .int 0, .int 1000000]) (rest := []) (c_M_in_f l D ty L ad _ _ _ _ (by omega)) ⟨hx, hb, hml, hown, hts⟩ (va_cwS 3 hts gX9_rights_X9_in rfl rfl rfl (by decide +kernel) ⟨Nat.le_of_ble_eq_true rfl, Nat.le_of_ble_eq_true rfl⟩) hB rfl hl.1 rfl (Nat.le_of_ble_eq_true rfl) dX9_rights_22 ⟨Nat.le_of_ble_eq_true rfl, Nat.le_of_ble_eq_true rfl⟩ (fun H locs hB => ?_)
  refine b_if_eq_t 39 hx hb dX9_rights_25 (by decide) (by decide) ?_
  refine lv_iconst (v := (-1)) hx hb dX9_rights_39 (by decide) ?_
  exact m_iret hx hb hrt hlocks hB (Nat.le_refl _) (Nat.le_refl _) dX9_rights_40 ⟨rfl, rfl, rfl, rfl⟩
set_option maxHeartbeats 1000000 in
set_option maxRecDepth 100000 in
theorem c_M_rights_4 (l : Launch) (D : va_G) (ty : Nat → ClassId) (L : List Nat) (ad : Nat → Nat) (g : Nat → va_E) (a : Nat → Nat → Int32) (dn pn en qn mz : Nat) (nw lo : Int32) (tr : Int64) (x f u w : Int32) (hM : RM ty L ad g a dn pn en qn mz nw lo tr) (h1 : 0 ≤ x.toInt ∧ x.toInt < 3) (h2 : 0 ≤ f.toInt ∧ f.toInt < 4) (h3 : 0 ≤ u.toInt ∧ u.toInt < 1000001) (h : ¬ (0 ≤ w.toInt ∧ w.toInt < 1000001)) : m_E l yX9_rights wsX9_rights 1 22 D ty [.ref (ad 1000), .int x, .int f, .int u, .int w] L ad g (some (.int (-1))) g := by
  intro sz
  refine Met.ofW (cc := cX9_rights) (maxL := 5) (ret := (some .int)) (by decide) rfl ?_
  intro p e s m args below meth c s₁ B hml hv
  have hx := B.exec
  have hb := B.bytes
  have hrt := B.returns
  have hts := atoms_spec (ws := wsX9_rights) B.pre
  have hown : s.vm.findClass RX9 = some m.cls := findClass_of_methodNamed B.named
  have hlocks := B.notSynchronized
  obtain ⟨rfl, hB⟩ := m_start hv
  generalize va_A (m_w L ad g) sz = A at hB ⊢
  generalize s.heap = H at hB ⊢
  generalize ([] : List Loc) = locs at hB ⊢
  have hl := lv_entry ([.ref (ad 1000), .int x, .int f, .int u, .int w]) (n := 5) (Nat.le_of_ble_eq_true rfl)
  rw [lg_entry_eq]
  generalize (lg_sl ([.ref (ad 1000), .int x, .int f, .int u, .int w]) ++ List.replicate (5 - (lg_sl ([.ref (ad 1000), .int x, .int f, .int u, .int w])).length) Slot.unset).toArray = ls at hl ⊢
  have hl : lv_has ls 5 [(0, .ref (ad 1000)), (1, .int x), (2, .int f), (3, .int u), (4, .int w)] := hl
  obtain ⟨hL, h_1000, h_1002, h_1004, h_1005, h_1007, h_1008, h_1009, h_1010, h_1011, h_1012, h_1013, h_1014, h_1015, h_1016, h_1019, h_1020, h_1021, h_1022, h_1024, h_1025, h_1026, h_1027, h_1028, h_1029, h_1030, h_1032⟩ := id hM
  have l0 : (0 : Int32).toInt = 0 := by decide
  have l2 : (2 : Int32).toInt = 2 := by decide
  have l3 : (3 : Int32).toInt = 3 := by decide
  have l1000000 : (1000000 : Int32).toInt = 1000000 := by decide
  refine lv_iload_n hx hb dX9_rights_0 rfl (lv_at hl 1 rfl) ?_
  refine lv_iconst (v := 0) hx hb dX9_rights_1 (by decide) ?_
  refine lv_iconst (v := 2) hx hb dX9_rights_2 (by decide) ?_
  refine m_callSE (As := [.int x, .int 0, .int 2]) (rest := []) (c_M_in_t l D ty L ad _ _ _ _ (by omega) (by omega)) ⟨hx, hb, hml, hown, hts⟩ (va_cwS 3 hts gX9_rights_X9_in rfl rfl rfl (by decide +kernel) ⟨Nat.le_of_ble_eq_true rfl, Nat.le_of_ble_eq_true rfl⟩) hB rfl hl.1 rfl (Nat.le_of_ble_eq_true rfl) dX9_rights_3 ⟨Nat.le_of_ble_eq_true rfl, Nat.le_of_ble_eq_true rfl⟩ (fun H locs hB => ?_)
  refine b_if_eq_f 39 hx hb dX9_rights_6 (by decide) (by decide) ?_
  refine lv_iload_n hx hb dX9_rights_9 rfl (lv_at hl 2 rfl) ?_
  refine lv_iconst (v := 0) hx hb dX9_rights_10 (by decide) ?_
  refine lv_iconst (v := 3) hx hb dX9_rights_11 (by decide) ?_
  refine m_callSE (As := [.int f, .int 0, .int 3]) (rest := []) (c_M_in_t l D ty L ad _ _ _ _ (by omega) (by omega)) ⟨hx, hb, hml, hown, hts⟩ (va_cwS 3 hts gX9_rights_X9_in rfl rfl rfl (by decide +kernel) ⟨Nat.le_of_ble_eq_true rfl, Nat.le_of_ble_eq_true rfl⟩) hB rfl hl.1 rfl (Nat.le_of_ble_eq_true rfl) dX9_rights_12 ⟨Nat.le_of_ble_eq_true rfl, Nat.le_of_ble_eq_true rfl⟩ (fun H locs hB => ?_)
  refine b_if_eq_f 39 hx hb dX9_rights_15 (by decide) (by decide) ?_
  refine lv_iload_n hx hb dX9_rights_18 rfl (lv_at hl 3 rfl) ?_
  refine lv_iconst (v := 0) hx hb dX9_rights_19 (by decide) ?_
  refine lv_ldc hx hb hown (hts (.constant RX9 112 (1000000)) (by decide +kernel)) dX9_rights_20 ?_
  refine m_callSE (As := [.int u, .int 0, .int 1000000]) (rest := []) (c_M_in_t l D ty L ad _ _ _ _ (by omega) (by omega)) ⟨hx, hb, hml, hown, hts⟩ (va_cwS 3 hts gX9_rights_X9_in rfl rfl rfl (by decide +kernel) ⟨Nat.le_of_ble_eq_true rfl, Nat.le_of_ble_eq_true rfl⟩) hB rfl hl.1 rfl (Nat.le_of_ble_eq_true rfl) dX9_rights_22 ⟨Nat.le_of_ble_eq_true rfl, Nat.le_of_ble_eq_true rfl⟩ (fun H locs hB => ?_)
  refine b_if_eq_f 39 hx hb dX9_rights_25 (by decide) (by decide) ?_
  refine lv_iload hx hb dX9_rights_28 (lv_at hl 4 rfl) ?_
  refine lv_iconst (v := 0) hx hb dX9_rights_30 (by decide) ?_
  refine lv_ldc hx hb hown (hts (.constant RX9 112 (1000000)) (by decide +kernel)) dX9_rights_31 ?_
  refine m_callSE (As := [.int w, .int 0, .int 1000000]) (rest := []) (c_M_in_f l D ty L ad _ _ _ _ (by omega)) ⟨hx, hb, hml, hown, hts⟩ (va_cwS 3 hts gX9_rights_X9_in rfl rfl rfl (by decide +kernel) ⟨Nat.le_of_ble_eq_true rfl, Nat.le_of_ble_eq_true rfl⟩) hB rfl hl.1 rfl (Nat.le_of_ble_eq_true rfl) dX9_rights_33 ⟨Nat.le_of_ble_eq_true rfl, Nat.le_of_ble_eq_true rfl⟩ (fun H locs hB => ?_)
  refine b_if_ne_f 41 hx hb dX9_rights_36 (by decide) (by decide) ?_
  refine lv_iconst (v := (-1)) hx hb dX9_rights_39 (by decide) ?_
  exact m_iret hx hb hrt hlocks hB (Nat.le_refl _) (Nat.le_refl _) dX9_rights_40 ⟨rfl, rfl, rfl, rfl⟩
set_option maxRecDepth 20000 in
theorem in_X9_rights_X9 : ∀ w ∈ wsX90, w ∈ wsX9_rights := by decide +kernel
set_option maxHeartbeats 1000000 in
set_option maxRecDepth 100000 in
theorem c_M_rights_ok (l : Launch) (D : va_G) (ty : Nat → ClassId) (L : List Nat) (ad : Nat → Nat) (g : Nat → va_E) (a : Nat → Nat → Int32) (dn pn en qn mz : Nat) (nw lo : Int32) (tr : Int64) (x f : Nat) (u w : Int32) (hM : RM ty L ad g a dn pn en qn mz nw lo tr) (h1 : x < 3) (h2 : f < 4) (h3 : 0 ≤ u.toInt ∧ u.toInt < 1000001) (h4 : 0 ≤ w.toInt ∧ w.toInt < 1000001) : m_C l yX9_rights wsX9_rights 1 22 0 0 D ty [.ref (ad 1000), .int (nI x), .int (nI f), .int u, .int w] L ad g (fun v1 L1 ad1 g1 => v1 = (some (.int 1)) ∧ L1 = L ∧ ad1 = ad ∧ (∀ x, x < 1000 → g1 x = g x) ∧ RM ty L ad g1 (va_up (va_up a 3 (upd (a 3) (x * 4 + f) u)) 4 (upd (a 4) (x * 4 + f) w)) dn pn en qn mz nw lo tr) := by
  intro sz
  refine Met.ofW (cc := cX9_rights) (maxL := 5) (ret := (some .int)) (by decide) rfl ?_
  intro p e s m args below meth c s₁ B hml hv
  have hx := B.exec
  have hb := B.bytes
  have hrt := B.returns
  have hts := atoms_spec (ws := wsX9_rights) B.pre
  have hown : s.vm.findClass RX9 = some m.cls := findClass_of_methodNamed B.named
  have hlocks := B.notSynchronized
  obtain ⟨rfl, hB⟩ := m_start hv
  generalize va_A (m_w L ad g) sz = A at hB ⊢
  generalize s.heap = H at hB ⊢
  generalize ([] : List Loc) = locs at hB ⊢
  have hl := lv_entry ([.ref (ad 1000), .int (nI x), .int (nI f), .int u, .int w]) (n := 5) (Nat.le_of_ble_eq_true rfl)
  rw [lg_entry_eq]
  generalize (lg_sl ([.ref (ad 1000), .int (nI x), .int (nI f), .int u, .int w]) ++ List.replicate (5 - (lg_sl ([.ref (ad 1000), .int (nI x), .int (nI f), .int u, .int w])).length) Slot.unset).toArray = ls at hl ⊢
  have hl : lv_has ls 5 [(0, .ref (ad 1000)), (1, .int (nI x)), (2, .int (nI f)), (3, .int u), (4, .int w)] := hl
  obtain ⟨hL, h_1000, h_1002, h_1004, h_1005, h_1007, h_1008, h_1009, h_1010, h_1011, h_1012, h_1013, h_1014, h_1015, h_1016, h_1019, h_1020, h_1021, h_1022, h_1024, h_1025, h_1026, h_1027, h_1028, h_1029, h_1030, h_1032⟩ := id hM
  have l0 : (0 : Int32).toInt = 0 := by decide
  have l2 : (2 : Int32).toInt = 2 := by decide
  have l3 : (3 : Int32).toInt = 3 := by decide
  have l1000000 : (1000000 : Int32).toInt = 1000000 := by decide
  have tI_x : (nI x).toInt = (x : Int) := nI_toInt (by omega)
  have tI_f : (nI f).toInt = (f : Int) := nI_toInt (by omega)
  refine lv_iload_n hx hb dX9_rights_0 rfl (lv_at hl 1 rfl) ?_
  refine lv_iconst (v := 0) hx hb dX9_rights_1 (by decide) ?_
  refine lv_iconst (v := 2) hx hb dX9_rights_2 (by decide) ?_
  refine m_callSE (As := [.int (nI x), .int 0, .int 2]) (rest := []) (c_M_in_t l D ty L ad _ _ _ _ (by omega) (by omega)) ⟨hx, hb, hml, hown, hts⟩ (va_cwS 3 hts gX9_rights_X9_in rfl rfl rfl (by decide +kernel) ⟨Nat.le_of_ble_eq_true rfl, Nat.le_of_ble_eq_true rfl⟩) hB rfl hl.1 rfl (Nat.le_of_ble_eq_true rfl) dX9_rights_3 ⟨Nat.le_of_ble_eq_true rfl, Nat.le_of_ble_eq_true rfl⟩ (fun H locs hB => ?_)
  refine b_if_eq_f 39 hx hb dX9_rights_6 (by decide) (by decide) ?_
  refine lv_iload_n hx hb dX9_rights_9 rfl (lv_at hl 2 rfl) ?_
  refine lv_iconst (v := 0) hx hb dX9_rights_10 (by decide) ?_
  refine lv_iconst (v := 3) hx hb dX9_rights_11 (by decide) ?_
  refine m_callSE (As := [.int (nI f), .int 0, .int 3]) (rest := []) (c_M_in_t l D ty L ad _ _ _ _ (by omega) (by omega)) ⟨hx, hb, hml, hown, hts⟩ (va_cwS 3 hts gX9_rights_X9_in rfl rfl rfl (by decide +kernel) ⟨Nat.le_of_ble_eq_true rfl, Nat.le_of_ble_eq_true rfl⟩) hB rfl hl.1 rfl (Nat.le_of_ble_eq_true rfl) dX9_rights_12 ⟨Nat.le_of_ble_eq_true rfl, Nat.le_of_ble_eq_true rfl⟩ (fun H locs hB => ?_)
  refine b_if_eq_f 39 hx hb dX9_rights_15 (by decide) (by decide) ?_
  refine lv_iload_n hx hb dX9_rights_18 rfl (lv_at hl 3 rfl) ?_
  refine lv_iconst (v := 0) hx hb dX9_rights_19 (by decide) ?_
  refine lv_ldc hx hb hown (hts (.constant RX9 112 (1000000)) (by decide +kernel)) dX9_rights_20 ?_
  refine m_callSE (As := [.int u, .int 0, .int 1000000]) (rest := []) (c_M_in_t l D ty L ad _ _ _ _ (by omega) (by omega)) ⟨hx, hb, hml, hown, hts⟩ (va_cwS 3 hts gX9_rights_X9_in rfl rfl rfl (by decide +kernel) ⟨Nat.le_of_ble_eq_true rfl, Nat.le_of_ble_eq_true rfl⟩) hB rfl hl.1 rfl (Nat.le_of_ble_eq_true rfl) dX9_rights_22 ⟨Nat.le_of_ble_eq_true rfl, Nat.le_of_ble_eq_true rfl⟩ (fun H locs hB => ?_)
  refine b_if_eq_f 39 hx hb dX9_rights_25 (by decide) (by decide) ?_
  refine lv_iload hx hb dX9_rights_28 (lv_at hl 4 rfl) ?_
  refine lv_iconst (v := 0) hx hb dX9_rights_30 (by decide) ?_
  refine lv_ldc hx hb hown (hts (.constant RX9 112 (1000000)) (by decide +kernel)) dX9_rights_31 ?_
  refine m_callSE (As := [.int w, .int 0, .int 1000000]) (rest := []) (c_M_in_t l D ty L ad _ _ _ _ (by omega) (by omega)) ⟨hx, hb, hml, hown, hts⟩ (va_cwS 3 hts gX9_rights_X9_in rfl rfl rfl (by decide +kernel) ⟨Nat.le_of_ble_eq_true rfl, Nat.le_of_ble_eq_true rfl⟩) hB rfl hl.1 rfl (Nat.le_of_ble_eq_true rfl) dX9_rights_33 ⟨Nat.le_of_ble_eq_true rfl, Nat.le_of_ble_eq_true rfl⟩ (fun H locs hB => ?_)
  refine b_if_ne_t 41 hx hb dX9_rights_36 (by decide) (by decide) ?_
  refine lv_aload_n hx hb dX9_rights_41 rfl (lv_at hl 0 rfl) ?_
  refine m_get (C := RX9) (T := TX9) (N := 33) (ci := 9) hx hb hts in_X9_rights_X9 hown hB (hL 1000 (by decide)) h_1000 rfl 3 (by decide) (hts (.fieldLink RX9 13 "PaperRoomModel" "rightFrom" "[I") (by decide +kernel)) (fun _ h9 => h9) rfl dX9_rights_42 ?_
  refine lv_iconst (v := 4) hx hb dX9_rights_45 (by decide) ?_
  refine lv_iload_n hx hb dX9_rights_46 rfl (lv_at hl 1 rfl) ?_
  refine lv_imul hx hb dX9_rights_47 ?_
  refine b_topi (w := nI (x * 4)) ((pk_mul 4 x).trans (by rw [Nat.mul_comm])) ?_
  refine lv_iload_n hx hb dX9_rights_48 rfl (lv_at hl 2 rfl) ?_
  refine lv_iadd hx hb dX9_rights_49 ?_
  refine b_topi (w := nI ((x * 4) + f)) (nI_add (x * 4) f) ?_
  refine lv_iload_n hx hb dX9_rights_50 rfl (lv_at hl 3 rfl) ?_
  refine n_iast hx hb hB (hL 1004 (by decide)) h_1004 ((x * 4) + f) rfl (by omega) (by omega) dX9_rights_51 (fun H locs hB => ?_)
  replace hB : m_B D ty A s L ad (va_up g 1004 (.inl (ty 0, 12, .inl (upd (a 3) ((x * 4) + f) u)))) H locs := hB
  refine lv_aload_n hx hb dX9_rights_52 rfl (lv_at hl 0 rfl) ?_
  refine m_get (C := RX9) (T := TX9) (N := 33) (ci := 9) hx hb hts in_X9_rights_X9 hown hB (hL 1000 (by decide)) ((va_up_ne _ _ (by decide)).trans h_1000) rfl 4 (by decide) (hts (.fieldLink RX9 16 "PaperRoomModel" "rightTo" "[I") (by decide +kernel)) (fun _ h9 => h9) rfl dX9_rights_53 ?_
  refine lv_iconst (v := 4) hx hb dX9_rights_56 (by decide) ?_
  refine lv_iload_n hx hb dX9_rights_57 rfl (lv_at hl 1 rfl) ?_
  refine lv_imul hx hb dX9_rights_58 ?_
  refine b_topi (w := nI (x * 4)) ((pk_mul 4 x).trans (by rw [Nat.mul_comm])) ?_
  refine lv_iload_n hx hb dX9_rights_59 rfl (lv_at hl 2 rfl) ?_
  refine lv_iadd hx hb dX9_rights_60 ?_
  refine b_topi (w := nI ((x * 4) + f)) (nI_add (x * 4) f) ?_
  refine lv_iload hx hb dX9_rights_61 (lv_at hl 4 rfl) ?_
  refine n_iast hx hb hB (hL 1005 (by decide)) ((va_up_ne _ _ (by decide)).trans h_1005) ((x * 4) + f) rfl (by omega) (by omega) dX9_rights_63 (fun H locs hB => ?_)
  replace hB : m_B D ty A s L ad (va_up (va_up g 1004 (.inl (ty 0, 12, .inl (upd (a 3) ((x * 4) + f) u)))) 1005 (.inl (ty 0, 12, .inl (upd (a 4) ((x * 4) + f) w)))) H locs := hB
  refine lv_iconst (v := 1) hx hb dX9_rights_64 (by decide) ?_
  exact m_iret hx hb hrt hlocks hB (Nat.le_refl _) (Nat.le_refl _) dX9_rights_65 ⟨rfl, rfl, rfl, (fun x hx => ((va_up_ne _ _ (by omega)).trans ((va_up_ne _ _ (by omega)).trans rfl))), ⟨hL, ((va_up_ne _ _ (by decide)).trans ((va_up_ne _ _ (by decide)).trans h_1000)), ((va_up_ne _ _ (by decide)).trans ((va_up_ne _ _ (by decide)).trans h_1002)), ((va_up_ne _ _ (by decide)).trans (va_up_self _ _ _)), (va_up_self _ _ _), ((va_up_ne _ _ (by decide)).trans ((va_up_ne _ _ (by decide)).trans h_1007)), ((va_up_ne _ _ (by decide)).trans ((va_up_ne _ _ (by decide)).trans h_1008)), ((va_up_ne _ _ (by decide)).trans ((va_up_ne _ _ (by decide)).trans h_1009)), ((va_up_ne _ _ (by decide)).trans ((va_up_ne _ _ (by decide)).trans h_1010)), ((va_up_ne _ _ (by decide)).trans ((va_up_ne _ _ (by decide)).trans h_1011)), ((va_up_ne _ _ (by decide)).trans ((va_up_ne _ _ (by decide)).trans h_1012)), ((va_up_ne _ _ (by decide)).trans ((va_up_ne _ _ (by decide)).trans h_1013)), ((va_up_ne _ _ (by decide)).trans ((va_up_ne _ _ (by decide)).trans h_1014)), ((va_up_ne _ _ (by decide)).trans ((va_up_ne _ _ (by decide)).trans h_1015)), ((va_up_ne _ _ (by decide)).trans ((va_up_ne _ _ (by decide)).trans h_1016)), ((va_up_ne _ _ (by decide)).trans ((va_up_ne _ _ (by decide)).trans h_1019)), ((va_up_ne _ _ (by decide)).trans ((va_up_ne _ _ (by decide)).trans h_1020)), ((va_up_ne _ _ (by decide)).trans ((va_up_ne _ _ (by decide)).trans h_1021)), ((va_up_ne _ _ (by decide)).trans ((va_up_ne _ _ (by decide)).trans h_1022)), ((va_up_ne _ _ (by decide)).trans ((va_up_ne _ _ (by decide)).trans h_1024)), ((va_up_ne _ _ (by decide)).trans ((va_up_ne _ _ (by decide)).trans h_1025)), ((va_up_ne _ _ (by decide)).trans ((va_up_ne _ _ (by decide)).trans h_1026)), ((va_up_ne _ _ (by decide)).trans ((va_up_ne _ _ (by decide)).trans h_1027)), ((va_up_ne _ _ (by decide)).trans ((va_up_ne _ _ (by decide)).trans h_1028)), ((va_up_ne _ _ (by decide)).trans ((va_up_ne _ _ (by decide)).trans h_1029)), ((va_up_ne _ _ (by decide)).trans ((va_up_ne _ _ (by decide)).trans h_1030)), ((va_up_ne _ _ (by decide)).trans ((va_up_ne _ _ (by decide)).trans h_1032))⟩⟩
set_option maxHeartbeats 1000000 in
set_option maxRecDepth 100000 in
theorem c_M_tick_bad (l : Launch) (D : va_G) (ty : Nat → ClassId) (L : List Nat) (ad : Nat → Nat) (g : Nat → va_E) (a : Nat → Nat → Int32) (dn pn en qn mz : Nat) (nw lo : Int32) (tr : Int64) (n : Int32) (hM : RM ty L ad g a dn pn en qn mz nw lo tr) (h : ¬ (1 ≤ n.toInt ∧ n.toInt ≤ 1000)) : m_E l yX9_tick wsX9_tick 1 22 D ty [.ref (ad 1000), .int n] L ad g (some (.int (-1))) g := by
  intro sz
  refine Met.ofW (cc := cX9_tick) (maxL := 2) (ret := (some .int)) (by decide) rfl ?_
  intro p e s m args below meth c s₁ B hml hv
  have hx := B.exec
  have hb := B.bytes
  have hrt := B.returns
  have hts := atoms_spec (ws := wsX9_tick) B.pre
  have hown : s.vm.findClass RX9 = some m.cls := findClass_of_methodNamed B.named
  have hlocks := B.notSynchronized
  obtain ⟨rfl, hB⟩ := m_start hv
  generalize va_A (m_w L ad g) sz = A at hB ⊢
  generalize s.heap = H at hB ⊢
  generalize ([] : List Loc) = locs at hB ⊢
  have hl := lv_entry ([.ref (ad 1000), .int n]) (n := 2) (Nat.le_of_ble_eq_true rfl)
  rw [lg_entry_eq]
  generalize (lg_sl ([.ref (ad 1000), .int n]) ++ List.replicate (2 - (lg_sl ([.ref (ad 1000), .int n])).length) Slot.unset).toArray = ls at hl ⊢
  have hl : lv_has ls 2 [(0, .ref (ad 1000)), (1, .int n)] := hl
  obtain ⟨hL, h_1000, h_1002, h_1004, h_1005, h_1007, h_1008, h_1009, h_1010, h_1011, h_1012, h_1013, h_1014, h_1015, h_1016, h_1019, h_1020, h_1021, h_1022, h_1024, h_1025, h_1026, h_1027, h_1028, h_1029, h_1030, h_1032⟩ := id hM
  have l1 : (1 : Int32).toInt = 1 := by decide
  have l1000 : (1000 : Int32).toInt = 1000 := by decide
  refine lv_iload_n hx hb dX9_tick_0 rfl (lv_at hl 1 rfl) ?_
  refine lv_iconst (v := 1) hx hb dX9_tick_1 (by decide) ?_
  refine lv_sipush (v := 1000) hx hb dX9_tick_2 (by decide) ?_
  refine m_callSE (As := [.int n, .int 1, .int 1000]) (rest := []) (c_M_in_f l D ty L ad _ _ _ _ (by omega)) ⟨hx, hb, hml, hown, hts⟩ (va_cwS 3 hts gX9_tick_X9_in rfl rfl rfl (by decide +kernel) ⟨Nat.le_of_ble_eq_true rfl, Nat.le_of_ble_eq_true rfl⟩) hB rfl hl.1 rfl (Nat.le_of_ble_eq_true rfl) dX9_tick_5 ⟨Nat.le_of_ble_eq_true rfl, Nat.le_of_ble_eq_true rfl⟩ (fun H locs hB => ?_)
  refine b_if_ne_f 13 hx hb dX9_tick_8 (by decide) (by decide) ?_
  refine lv_iconst (v := (-1)) hx hb dX9_tick_11 (by decide) ?_
  exact m_iret hx hb hrt hlocks hB (Nat.le_refl _) (Nat.le_refl _) dX9_tick_12 ⟨rfl, rfl, rfl, rfl⟩
set_option maxRecDepth 20000 in
theorem in_X9_tick_X9 : ∀ w ∈ wsX90, w ∈ wsX9_tick := by decide +kernel
set_option maxHeartbeats 1000000 in
set_option maxRecDepth 100000 in
theorem c_M_tick_ok (l : Launch) (D : va_G) (ty : Nat → ClassId) (L : List Nat) (ad : Nat → Nat) (g : Nat → va_E) (a : Nat → Nat → Int32) (dn pn en qn mz : Nat) (nw lo : Int32) (tr : Int64) (n : Int32) (hM : RM ty L ad g a dn pn en qn mz nw lo tr) (h : 1 ≤ n.toInt ∧ n.toInt ≤ 1000) : m_C l yX9_tick wsX9_tick 1 22 0 0 D ty [.ref (ad 1000), .int n] L ad g (fun v1 L1 ad1 g1 => v1 = (some (.int (nw + n))) ∧ L1 = L ∧ ad1 = ad ∧ (∀ x, x < 1000 → g1 x = g x) ∧ RM ty L ad g1 a dn pn en qn mz (nw + n) lo tr) := by
  intro sz
  refine Met.ofW (cc := cX9_tick) (maxL := 2) (ret := (some .int)) (by decide) rfl ?_
  intro p e s m args below meth c s₁ B hml hv
  have hx := B.exec
  have hb := B.bytes
  have hrt := B.returns
  have hts := atoms_spec (ws := wsX9_tick) B.pre
  have hown : s.vm.findClass RX9 = some m.cls := findClass_of_methodNamed B.named
  have hlocks := B.notSynchronized
  obtain ⟨rfl, hB⟩ := m_start hv
  generalize va_A (m_w L ad g) sz = A at hB ⊢
  generalize s.heap = H at hB ⊢
  generalize ([] : List Loc) = locs at hB ⊢
  have hl := lv_entry ([.ref (ad 1000), .int n]) (n := 2) (Nat.le_of_ble_eq_true rfl)
  rw [lg_entry_eq]
  generalize (lg_sl ([.ref (ad 1000), .int n]) ++ List.replicate (2 - (lg_sl ([.ref (ad 1000), .int n])).length) Slot.unset).toArray = ls at hl ⊢
  have hl : lv_has ls 2 [(0, .ref (ad 1000)), (1, .int n)] := hl
  obtain ⟨hL, h_1000, h_1002, h_1004, h_1005, h_1007, h_1008, h_1009, h_1010, h_1011, h_1012, h_1013, h_1014, h_1015, h_1016, h_1019, h_1020, h_1021, h_1022, h_1024, h_1025, h_1026, h_1027, h_1028, h_1029, h_1030, h_1032⟩ := id hM
  have l1 : (1 : Int32).toInt = 1 := by decide
  have l1000 : (1000 : Int32).toInt = 1000 := by decide
  refine lv_iload_n hx hb dX9_tick_0 rfl (lv_at hl 1 rfl) ?_
  refine lv_iconst (v := 1) hx hb dX9_tick_1 (by decide) ?_
  refine lv_sipush (v := 1000) hx hb dX9_tick_2 (by decide) ?_
  refine m_callSE (As := [.int n, .int 1, .int 1000]) (rest := []) (c_M_in_t l D ty L ad _ _ _ _ (by omega) (by omega)) ⟨hx, hb, hml, hown, hts⟩ (va_cwS 3 hts gX9_tick_X9_in rfl rfl rfl (by decide +kernel) ⟨Nat.le_of_ble_eq_true rfl, Nat.le_of_ble_eq_true rfl⟩) hB rfl hl.1 rfl (Nat.le_of_ble_eq_true rfl) dX9_tick_5 ⟨Nat.le_of_ble_eq_true rfl, Nat.le_of_ble_eq_true rfl⟩ (fun H locs hB => ?_)
  refine b_if_ne_t 13 hx hb dX9_tick_8 (by decide) (by decide) ?_
  refine lv_aload_n hx hb dX9_tick_13 rfl (lv_at hl 0 rfl) ?_
  refine lv_dup hx hb dX9_tick_14 rfl ?_
  refine m_get (C := RX9) (T := TX9) (N := 33) (ci := 9) hx hb hts in_X9_tick_X9 hown hB (hL 1000 (by decide)) h_1000 rfl 2 (by decide) (hts (.fieldLink RX9 86 "PaperRoomModel" "now" "I") (by decide +kernel)) (fun _ h9 => h9) rfl dX9_tick_15 ?_
  refine lv_iload_n hx hb dX9_tick_18 rfl (lv_at hl 1 rfl) ?_
  refine lv_iadd hx hb dX9_tick_19 ?_
  refine m_put (C := RX9) (T := TX9) (N := 33) (ci := 9) (v := .int (nw + n)) (ft := .int) hx hb hts in_X9_tick_X9 tyX9 tyX9_ok nmX9 hown hB (hL 1000 (by decide)) h_1000 rfl 2 (by decide) (hts (.fieldLink RX9 86 "PaperRoomModel" "now" "I") (by decide +kernel)) (fun _ h9 => h9) rfl (by decide +kernel) rfl rfl (Nat.le_of_ble_eq_true rfl) dX9_tick_20 (fun H locs hB => ?_)
  replace hB : m_B D ty A s L ad (va_up g 1000 (.inr (9, [.int (nI dn), .ref (ad 1002), .int (nw + n), .ref (ad 1004), .ref (ad 1005), .int (nI pn), .ref (ad 1007), .ref (ad 1008), .ref (ad 1009), .ref (ad 1010), .ref (ad 1011), .ref (ad 1012), .ref (ad 1013), .ref (ad 1014), .ref (ad 1015), .ref (ad 1016), .int (nI en), .int lo, .ref (ad 1019), .ref (ad 1020), .ref (ad 1021), .ref (ad 1022), .int (nI qn), .ref (ad 1024), .ref (ad 1025), .ref (ad 1026), .ref (ad 1027), .ref (ad 1028), .ref (ad 1029), .ref (ad 1030), .long tr, .ref (ad 1032), .int (nI mz)]))) H locs := hB
  refine lv_aload_n hx hb dX9_tick_23 rfl (lv_at hl 0 rfl) ?_
  refine m_get (C := RX9) (T := TX9) (N := 33) (ci := 9) hx hb hts in_X9_tick_X9 hown hB (hL 1000 (by decide)) (va_up_self _ _ _) rfl 2 (by decide) (hts (.fieldLink RX9 86 "PaperRoomModel" "now" "I") (by decide +kernel)) (fun _ h9 => h9) rfl dX9_tick_24 ?_
  exact m_iret hx hb hrt hlocks hB (Nat.le_refl _) (Nat.le_refl _) dX9_tick_27 ⟨rfl, rfl, rfl, (fun x hx => ((va_up_ne _ _ (by omega)).trans rfl)), ⟨hL, (va_up_self _ _ _), ((va_up_ne _ _ (by decide)).trans h_1002), ((va_up_ne _ _ (by decide)).trans h_1004), ((va_up_ne _ _ (by decide)).trans h_1005), ((va_up_ne _ _ (by decide)).trans h_1007), ((va_up_ne _ _ (by decide)).trans h_1008), ((va_up_ne _ _ (by decide)).trans h_1009), ((va_up_ne _ _ (by decide)).trans h_1010), ((va_up_ne _ _ (by decide)).trans h_1011), ((va_up_ne _ _ (by decide)).trans h_1012), ((va_up_ne _ _ (by decide)).trans h_1013), ((va_up_ne _ _ (by decide)).trans h_1014), ((va_up_ne _ _ (by decide)).trans h_1015), ((va_up_ne _ _ (by decide)).trans h_1016), ((va_up_ne _ _ (by decide)).trans h_1019), ((va_up_ne _ _ (by decide)).trans h_1020), ((va_up_ne _ _ (by decide)).trans h_1021), ((va_up_ne _ _ (by decide)).trans h_1022), ((va_up_ne _ _ (by decide)).trans h_1024), ((va_up_ne _ _ (by decide)).trans h_1025), ((va_up_ne _ _ (by decide)).trans h_1026), ((va_up_ne _ _ (by decide)).trans h_1027), ((va_up_ne _ _ (by decide)).trans h_1028), ((va_up_ne _ _ (by decide)).trans h_1029), ((va_up_ne _ _ (by decide)).trans h_1030), ((va_up_ne _ _ (by decide)).trans h_1032)⟩⟩
set_option maxRecDepth 20000 in
theorem in_X9_about_X9 : ∀ w ∈ wsX90, w ∈ wsX9_about := by decide +kernel
set_option maxHeartbeats 1000000 in
set_option maxRecDepth 100000 in
theorem c_M_about_0 (l : Launch) (D : va_G) (ty : Nat → ClassId) (L : List Nat) (ad : Nat → Nat) (g : Nat → va_E) (a : Nat → Nat → Int32) (dn pn en qn mz : Nat) (nw lo : Int32) (tr : Int64) (j : Nat) (hM : RM ty L ad g a dn pn en qn mz nw lo tr) (hj9 : j < pn) (hpn : pn ≤ 8) : m_E l yX9_about wsX9_about 2 43 D ty [.ref (ad 1000), .int (nI j), .int 0] L ad g (some (.int (a 6 j))) g := by
  intro sz
  refine Met.ofW (cc := cX9_about) (maxL := 3) (ret := (some .int)) (by decide) rfl ?_
  intro p e s m args below meth c s₁ B hml hv
  have hx := B.exec
  have hb := B.bytes
  have hrt := B.returns
  have hts := atoms_spec (ws := wsX9_about) B.pre
  have hown : s.vm.findClass RX9 = some m.cls := findClass_of_methodNamed B.named
  have hlocks := B.notSynchronized
  obtain ⟨rfl, hB⟩ := m_start hv
  generalize va_A (m_w L ad g) sz = A at hB ⊢
  generalize s.heap = H at hB ⊢
  generalize ([] : List Loc) = locs at hB ⊢
  have hl := lv_entry ([.ref (ad 1000), .int (nI j), .int 0]) (n := 3) (Nat.le_of_ble_eq_true rfl)
  rw [lg_entry_eq]
  generalize (lg_sl ([.ref (ad 1000), .int (nI j), .int 0]) ++ List.replicate (3 - (lg_sl ([.ref (ad 1000), .int (nI j), .int 0])).length) Slot.unset).toArray = ls at hl ⊢
  have hl : lv_has ls 3 [(0, .ref (ad 1000)), (1, .int (nI j)), (2, .int 0)] := hl
  obtain ⟨hL, h_1000, h_1002, h_1004, h_1005, h_1007, h_1008, h_1009, h_1010, h_1011, h_1012, h_1013, h_1014, h_1015, h_1016, h_1019, h_1020, h_1021, h_1022, h_1024, h_1025, h_1026, h_1027, h_1028, h_1029, h_1030, h_1032⟩ := id hM
  refine lv_aload_n hx hb dX9_about_0 rfl (lv_at hl 0 rfl) ?_
  refine lv_iload_n hx hb dX9_about_1 rfl (lv_at hl 1 rfl) ?_
  refine m_callVE (ci := 9) (As := [.int (nI j)]) (rest := []) (c_M_isPaper_t l D ty L ad _ a dn pn en qn mz nw lo tr j hM hj9 hpn) ⟨hx, hb, hml, hown, hts⟩ (cwV 1 hts gX9_about_X9_isPaper rfl rfl rfl (by decide +kernel) ⟨Nat.le_of_ble_eq_true rfl, Nat.le_of_ble_eq_true rfl⟩) hB (hL 1000 (by decide)) h_1000 rfl rfl hl.1 rfl (Nat.le_of_ble_eq_true rfl) dX9_about_2 ⟨Nat.le_of_ble_eq_true rfl, Nat.le_of_ble_eq_true rfl⟩ (fun H locs hB => ?_)
  refine b_if_ne_t 10 hx hb dX9_about_5 (by decide) (by decide) ?_
  refine lv_iload_n hx hb dX9_about_10 rfl (lv_at hl 2 rfl) ?_
  refine lv_tableIn (off := 33) (tgt := 44) hx hb dX9_about_11 (by decide) (by decide) (by decide) (by decide) ?_
  refine lv_aload_n hx hb dX9_about_44 rfl (lv_at hl 0 rfl) ?_
  refine m_get (C := RX9) (T := TX9) (N := 33) (ci := 9) hx hb hts in_X9_about_X9 hown hB (hL 1000 (by decide)) h_1000 rfl 6 (by decide) (hts (.fieldLink RX9 19 "PaperRoomModel" "kind" "[I") (by decide +kernel)) (fun _ h9 => h9) rfl dX9_about_45 ?_
  refine lv_iload_n hx hb dX9_about_48 rfl (lv_at hl 1 rfl) ?_
  refine n_iald hx hb hB (hL 1007 (by decide)) h_1007 j rfl (by omega) (by omega) dX9_about_49 ?_
  exact m_iret hx hb hrt hlocks hB (Nat.le_refl _) (Nat.le_refl _) dX9_about_50 ⟨rfl, rfl, rfl, rfl⟩
set_option maxHeartbeats 1000000 in
set_option maxRecDepth 100000 in
theorem c_M_about_1 (l : Launch) (D : va_G) (ty : Nat → ClassId) (L : List Nat) (ad : Nat → Nat) (g : Nat → va_E) (a : Nat → Nat → Int32) (dn pn en qn mz : Nat) (nw lo : Int32) (tr : Int64) (j : Nat) (hM : RM ty L ad g a dn pn en qn mz nw lo tr) (hj9 : j < pn) (hpn : pn ≤ 8) : m_E l yX9_about wsX9_about 2 43 D ty [.ref (ad 1000), .int (nI j), .int 1] L ad g (some (.int (a 7 j))) g := by
  intro sz
  refine Met.ofW (cc := cX9_about) (maxL := 3) (ret := (some .int)) (by decide) rfl ?_
  intro p e s m args below meth c s₁ B hml hv
  have hx := B.exec
  have hb := B.bytes
  have hrt := B.returns
  have hts := atoms_spec (ws := wsX9_about) B.pre
  have hown : s.vm.findClass RX9 = some m.cls := findClass_of_methodNamed B.named
  have hlocks := B.notSynchronized
  obtain ⟨rfl, hB⟩ := m_start hv
  generalize va_A (m_w L ad g) sz = A at hB ⊢
  generalize s.heap = H at hB ⊢
  generalize ([] : List Loc) = locs at hB ⊢
  have hl := lv_entry ([.ref (ad 1000), .int (nI j), .int 1]) (n := 3) (Nat.le_of_ble_eq_true rfl)
  rw [lg_entry_eq]
  generalize (lg_sl ([.ref (ad 1000), .int (nI j), .int 1]) ++ List.replicate (3 - (lg_sl ([.ref (ad 1000), .int (nI j), .int 1])).length) Slot.unset).toArray = ls at hl ⊢
  have hl : lv_has ls 3 [(0, .ref (ad 1000)), (1, .int (nI j)), (2, .int 1)] := hl
  obtain ⟨hL, h_1000, h_1002, h_1004, h_1005, h_1007, h_1008, h_1009, h_1010, h_1011, h_1012, h_1013, h_1014, h_1015, h_1016, h_1019, h_1020, h_1021, h_1022, h_1024, h_1025, h_1026, h_1027, h_1028, h_1029, h_1030, h_1032⟩ := id hM
  refine lv_aload_n hx hb dX9_about_0 rfl (lv_at hl 0 rfl) ?_
  refine lv_iload_n hx hb dX9_about_1 rfl (lv_at hl 1 rfl) ?_
  refine m_callVE (ci := 9) (As := [.int (nI j)]) (rest := []) (c_M_isPaper_t l D ty L ad _ a dn pn en qn mz nw lo tr j hM hj9 hpn) ⟨hx, hb, hml, hown, hts⟩ (cwV 1 hts gX9_about_X9_isPaper rfl rfl rfl (by decide +kernel) ⟨Nat.le_of_ble_eq_true rfl, Nat.le_of_ble_eq_true rfl⟩) hB (hL 1000 (by decide)) h_1000 rfl rfl hl.1 rfl (Nat.le_of_ble_eq_true rfl) dX9_about_2 ⟨Nat.le_of_ble_eq_true rfl, Nat.le_of_ble_eq_true rfl⟩ (fun H locs hB => ?_)
  refine b_if_ne_t 10 hx hb dX9_about_5 (by decide) (by decide) ?_
  refine lv_iload_n hx hb dX9_about_10 rfl (lv_at hl 2 rfl) ?_
  refine lv_tableIn (off := 40) (tgt := 51) hx hb dX9_about_11 (by decide) (by decide) (by decide) (by decide) ?_
  refine lv_aload_n hx hb dX9_about_51 rfl (lv_at hl 0 rfl) ?_
  refine m_get (C := RX9) (T := TX9) (N := 33) (ci := 9) hx hb hts in_X9_about_X9 hown hB (hL 1000 (by decide)) h_1000 rfl 7 (by decide) (hts (.fieldLink RX9 22 "PaperRoomModel" "folder" "[I") (by decide +kernel)) (fun _ h9 => h9) rfl dX9_about_52 ?_
  refine lv_iload_n hx hb dX9_about_55 rfl (lv_at hl 1 rfl) ?_
  refine n_iald hx hb hB (hL 1008 (by decide)) h_1008 j rfl (by omega) (by omega) dX9_about_56 ?_
  exact m_iret hx hb hrt hlocks hB (Nat.le_refl _) (Nat.le_refl _) dX9_about_57 ⟨rfl, rfl, rfl, rfl⟩
set_option maxHeartbeats 1000000 in
set_option maxRecDepth 100000 in
theorem c_M_about_2 (l : Launch) (D : va_G) (ty : Nat → ClassId) (L : List Nat) (ad : Nat → Nat) (g : Nat → va_E) (a : Nat → Nat → Int32) (dn pn en qn mz : Nat) (nw lo : Int32) (tr : Int64) (j : Nat) (hM : RM ty L ad g a dn pn en qn mz nw lo tr) (hj9 : j < pn) (hpn : pn ≤ 8) : m_E l yX9_about wsX9_about 2 43 D ty [.ref (ad 1000), .int (nI j), .int 2] L ad g (some (.int (a 10 j))) g := by
  intro sz
  refine Met.ofW (cc := cX9_about) (maxL := 3) (ret := (some .int)) (by decide) rfl ?_
  intro p e s m args below meth c s₁ B hml hv
  have hx := B.exec
  have hb := B.bytes
  have hrt := B.returns
  have hts := atoms_spec (ws := wsX9_about) B.pre
  have hown : s.vm.findClass RX9 = some m.cls := findClass_of_methodNamed B.named
  have hlocks := B.notSynchronized
  obtain ⟨rfl, hB⟩ := m_start hv
  generalize va_A (m_w L ad g) sz = A at hB ⊢
  generalize s.heap = H at hB ⊢
  generalize ([] : List Loc) = locs at hB ⊢
  have hl := lv_entry ([.ref (ad 1000), .int (nI j), .int 2]) (n := 3) (Nat.le_of_ble_eq_true rfl)
  rw [lg_entry_eq]
  generalize (lg_sl ([.ref (ad 1000), .int (nI j), .int 2]) ++ List.replicate (3 - (lg_sl ([.ref (ad 1000), .int (nI j), .int 2])).length) Slot.unset).toArray = ls at hl ⊢
  have hl : lv_has ls 3 [(0, .ref (ad 1000)), (1, .int (nI j)), (2, .int 2)] := hl
  obtain ⟨hL, h_1000, h_1002, h_1004, h_1005, h_1007, h_1008, h_1009, h_1010, h_1011, h_1012, h_1013, h_1014, h_1015, h_1016, h_1019, h_1020, h_1021, h_1022, h_1024, h_1025, h_1026, h_1027, h_1028, h_1029, h_1030, h_1032⟩ := id hM
  refine lv_aload_n hx hb dX9_about_0 rfl (lv_at hl 0 rfl) ?_
  refine lv_iload_n hx hb dX9_about_1 rfl (lv_at hl 1 rfl) ?_
  refine m_callVE (ci := 9) (As := [.int (nI j)]) (rest := []) (c_M_isPaper_t l D ty L ad _ a dn pn en qn mz nw lo tr j hM hj9 hpn) ⟨hx, hb, hml, hown, hts⟩ (cwV 1 hts gX9_about_X9_isPaper rfl rfl rfl (by decide +kernel) ⟨Nat.le_of_ble_eq_true rfl, Nat.le_of_ble_eq_true rfl⟩) hB (hL 1000 (by decide)) h_1000 rfl rfl hl.1 rfl (Nat.le_of_ble_eq_true rfl) dX9_about_2 ⟨Nat.le_of_ble_eq_true rfl, Nat.le_of_ble_eq_true rfl⟩ (fun H locs hB => ?_)
  refine b_if_ne_t 10 hx hb dX9_about_5 (by decide) (by decide) ?_
  refine lv_iload_n hx hb dX9_about_10 rfl (lv_at hl 2 rfl) ?_
  refine lv_tableIn (off := 47) (tgt := 58) hx hb dX9_about_11 (by decide) (by decide) (by decide) (by decide) ?_
  refine lv_aload_n hx hb dX9_about_58 rfl (lv_at hl 0 rfl) ?_
  refine m_get (C := RX9) (T := TX9) (N := 33) (ci := 9) hx hb hts in_X9_about_X9 hown hB (hL 1000 (by decide)) h_1000 rfl 10 (by decide) (hts (.fieldLink RX9 32 "PaperRoomModel" "versions" "[I") (by decide +kernel)) (fun _ h9 => h9) rfl dX9_about_59 ?_
  refine lv_iload_n hx hb dX9_about_62 rfl (lv_at hl 1 rfl) ?_
  refine n_iald hx hb hB (hL 1011 (by decide)) h_1011 j rfl (by omega) (by omega) dX9_about_63 ?_
  exact m_iret hx hb hrt hlocks hB (Nat.le_refl _) (Nat.le_refl _) dX9_about_64 ⟨rfl, rfl, rfl, rfl⟩
set_option maxHeartbeats 1000000 in
set_option maxRecDepth 100000 in
theorem c_M_about_4 (l : Launch) (D : va_G) (ty : Nat → ClassId) (L : List Nat) (ad : Nat → Nat) (g : Nat → va_E) (a : Nat → Nat → Int32) (dn pn en qn mz : Nat) (nw lo : Int32) (tr : Int64) (j : Nat) (hM : RM ty L ad g a dn pn en qn mz nw lo tr) (hj9 : j < pn) (hpn : pn ≤ 8) : m_E l yX9_about wsX9_about 2 43 D ty [.ref (ad 1000), .int (nI j), .int 4] L ad g (some (.int (a 8 j))) g := by
  intro sz
  refine Met.ofW (cc := cX9_about) (maxL := 3) (ret := (some .int)) (by decide) rfl ?_
  intro p e s m args below meth c s₁ B hml hv
  have hx := B.exec
  have hb := B.bytes
  have hrt := B.returns
  have hts := atoms_spec (ws := wsX9_about) B.pre
  have hown : s.vm.findClass RX9 = some m.cls := findClass_of_methodNamed B.named
  have hlocks := B.notSynchronized
  obtain ⟨rfl, hB⟩ := m_start hv
  generalize va_A (m_w L ad g) sz = A at hB ⊢
  generalize s.heap = H at hB ⊢
  generalize ([] : List Loc) = locs at hB ⊢
  have hl := lv_entry ([.ref (ad 1000), .int (nI j), .int 4]) (n := 3) (Nat.le_of_ble_eq_true rfl)
  rw [lg_entry_eq]
  generalize (lg_sl ([.ref (ad 1000), .int (nI j), .int 4]) ++ List.replicate (3 - (lg_sl ([.ref (ad 1000), .int (nI j), .int 4])).length) Slot.unset).toArray = ls at hl ⊢
  have hl : lv_has ls 3 [(0, .ref (ad 1000)), (1, .int (nI j)), (2, .int 4)] := hl
  obtain ⟨hL, h_1000, h_1002, h_1004, h_1005, h_1007, h_1008, h_1009, h_1010, h_1011, h_1012, h_1013, h_1014, h_1015, h_1016, h_1019, h_1020, h_1021, h_1022, h_1024, h_1025, h_1026, h_1027, h_1028, h_1029, h_1030, h_1032⟩ := id hM
  refine lv_aload_n hx hb dX9_about_0 rfl (lv_at hl 0 rfl) ?_
  refine lv_iload_n hx hb dX9_about_1 rfl (lv_at hl 1 rfl) ?_
  refine m_callVE (ci := 9) (As := [.int (nI j)]) (rest := []) (c_M_isPaper_t l D ty L ad _ a dn pn en qn mz nw lo tr j hM hj9 hpn) ⟨hx, hb, hml, hown, hts⟩ (cwV 1 hts gX9_about_X9_isPaper rfl rfl rfl (by decide +kernel) ⟨Nat.le_of_ble_eq_true rfl, Nat.le_of_ble_eq_true rfl⟩) hB (hL 1000 (by decide)) h_1000 rfl rfl hl.1 rfl (Nat.le_of_ble_eq_true rfl) dX9_about_2 ⟨Nat.le_of_ble_eq_true rfl, Nat.le_of_ble_eq_true rfl⟩ (fun H locs hB => ?_)
  refine b_if_ne_t 10 hx hb dX9_about_5 (by decide) (by decide) ?_
  refine lv_iload_n hx hb dX9_about_10 rfl (lv_at hl 2 rfl) ?_
  refine lv_tableIn (off := 69) (tgt := 80) hx hb dX9_about_11 (by decide) (by decide) (by decide) (by decide) ?_
  refine lv_aload_n hx hb dX9_about_80 rfl (lv_at hl 0 rfl) ?_
  refine m_get (C := RX9) (T := TX9) (N := 33) (ci := 9) hx hb hts in_X9_about_X9 hown hB (hL 1000 (by decide)) h_1000 rfl 8 (by decide) (hts (.fieldLink RX9 25 "PaperRoomModel" "letsGo" "[I") (by decide +kernel)) (fun _ h9 => h9) rfl dX9_about_81 ?_
  refine lv_iload_n hx hb dX9_about_84 rfl (lv_at hl 1 rfl) ?_
  refine n_iald hx hb hB (hL 1009 (by decide)) h_1009 j rfl (by omega) (by omega) dX9_about_85 ?_
  exact m_iret hx hb hrt hlocks hB (Nat.le_refl _) (Nat.le_refl _) dX9_about_86 ⟨rfl, rfl, rfl, rfl⟩
set_option maxHeartbeats 1000000 in
set_option maxRecDepth 100000 in
theorem c_M_about_3 (l : Launch) (D : va_G) (ty : Nat → ClassId) (L : List Nat) (ad : Nat → Nat) (g : Nat → va_E) (a : Nat → Nat → Int32) (dn pn en qn mz : Nat) (nw lo : Int32) (tr : Int64) (j : Nat) (hM : RM ty L ad g a dn pn en qn mz nw lo tr) (hj9 : j < pn) (hpn : pn ≤ 8) (hw : a 9 j = 0 ∨ a 9 j = 1) : m_E l yX9_about wsX9_about 2 43 D ty [.ref (ad 1000), .int (nI j), .int 3] L ad g (some (.int (a 9 j))) g := by
  intro sz
  refine Met.ofW (cc := cX9_about) (maxL := 3) (ret := (some .int)) (by decide) rfl ?_
  intro p e s m args below meth c s₁ B hml hv
  have hx := B.exec
  have hb := B.bytes
  have hrt := B.returns
  have hts := atoms_spec (ws := wsX9_about) B.pre
  have hown : s.vm.findClass RX9 = some m.cls := findClass_of_methodNamed B.named
  have hlocks := B.notSynchronized
  obtain ⟨rfl, hB⟩ := m_start hv
  generalize va_A (m_w L ad g) sz = A at hB ⊢
  generalize s.heap = H at hB ⊢
  generalize ([] : List Loc) = locs at hB ⊢
  have hl := lv_entry ([.ref (ad 1000), .int (nI j), .int 3]) (n := 3) (Nat.le_of_ble_eq_true rfl)
  rw [lg_entry_eq]
  generalize (lg_sl ([.ref (ad 1000), .int (nI j), .int 3]) ++ List.replicate (3 - (lg_sl ([.ref (ad 1000), .int (nI j), .int 3])).length) Slot.unset).toArray = ls at hl ⊢
  have hl : lv_has ls 3 [(0, .ref (ad 1000)), (1, .int (nI j)), (2, .int 3)] := hl
  obtain ⟨hL, h_1000, h_1002, h_1004, h_1005, h_1007, h_1008, h_1009, h_1010, h_1011, h_1012, h_1013, h_1014, h_1015, h_1016, h_1019, h_1020, h_1021, h_1022, h_1024, h_1025, h_1026, h_1027, h_1028, h_1029, h_1030, h_1032⟩ := id hM
  rcases hw with hw | hw
  · skip
    refine lv_aload_n hx hb dX9_about_0 rfl (lv_at hl 0 rfl) ?_
    refine lv_iload_n hx hb dX9_about_1 rfl (lv_at hl 1 rfl) ?_
    refine m_callVE (ci := 9) (As := [.int (nI j)]) (rest := []) (c_M_isPaper_t l D ty L ad _ a dn pn en qn mz nw lo tr j hM hj9 hpn) ⟨hx, hb, hml, hown, hts⟩ (cwV 1 hts gX9_about_X9_isPaper rfl rfl rfl (by decide +kernel) ⟨Nat.le_of_ble_eq_true rfl, Nat.le_of_ble_eq_true rfl⟩) hB (hL 1000 (by decide)) h_1000 rfl rfl hl.1 rfl (Nat.le_of_ble_eq_true rfl) dX9_about_2 ⟨Nat.le_of_ble_eq_true rfl, Nat.le_of_ble_eq_true rfl⟩ (fun H locs hB => ?_)
    refine b_if_ne_t 10 hx hb dX9_about_5 (by decide) (by decide) ?_
    refine lv_iload_n hx hb dX9_about_10 rfl (lv_at hl 2 rfl) ?_
    refine lv_tableIn (off := 54) (tgt := 65) hx hb dX9_about_11 (by decide) (by decide) (by decide) (by decide) ?_
    refine lv_aload_n hx hb dX9_about_65 rfl (lv_at hl 0 rfl) ?_
    refine m_get (C := RX9) (T := TX9) (N := 33) (ci := 9) hx hb hts in_X9_about_X9 hown hB (hL 1000 (by decide)) h_1000 rfl 9 (by decide) (hts (.fieldLink RX9 28 "PaperRoomModel" "isWithdrawn" "[Z") (by decide +kernel)) (fun _ h9 => h9) rfl dX9_about_66 ?_
    refine lv_iload_n hx hb dX9_about_69 rfl (lv_at hl 1 rfl) ?_
    refine n_zald hx hb hB (hL 1010 (by decide)) h_1010 j rfl (by omega) (by omega) dX9_about_70 ?_
    refine b_if_eq_t 78 hx hb dX9_about_71 (by decide) (by rw [hw]; decide) ?_
    refine lv_iconst (v := 0) hx hb dX9_about_78 (by decide) ?_
    exact m_iret hx hb hrt hlocks hB (Nat.le_refl _) (Nat.le_refl _) dX9_about_79 ⟨by rw [hw], rfl, rfl, rfl⟩
  · skip
    refine lv_aload_n hx hb dX9_about_0 rfl (lv_at hl 0 rfl) ?_
    refine lv_iload_n hx hb dX9_about_1 rfl (lv_at hl 1 rfl) ?_
    refine m_callVE (ci := 9) (As := [.int (nI j)]) (rest := []) (c_M_isPaper_t l D ty L ad _ a dn pn en qn mz nw lo tr j hM hj9 hpn) ⟨hx, hb, hml, hown, hts⟩ (cwV 1 hts gX9_about_X9_isPaper rfl rfl rfl (by decide +kernel) ⟨Nat.le_of_ble_eq_true rfl, Nat.le_of_ble_eq_true rfl⟩) hB (hL 1000 (by decide)) h_1000 rfl rfl hl.1 rfl (Nat.le_of_ble_eq_true rfl) dX9_about_2 ⟨Nat.le_of_ble_eq_true rfl, Nat.le_of_ble_eq_true rfl⟩ (fun H locs hB => ?_)
    refine b_if_ne_t 10 hx hb dX9_about_5 (by decide) (by decide) ?_
    refine lv_iload_n hx hb dX9_about_10 rfl (lv_at hl 2 rfl) ?_
    refine lv_tableIn (off := 54) (tgt := 65) hx hb dX9_about_11 (by decide) (by decide) (by decide) (by decide) ?_
    refine lv_aload_n hx hb dX9_about_65 rfl (lv_at hl 0 rfl) ?_
    refine m_get (C := RX9) (T := TX9) (N := 33) (ci := 9) hx hb hts in_X9_about_X9 hown hB (hL 1000 (by decide)) h_1000 rfl 9 (by decide) (hts (.fieldLink RX9 28 "PaperRoomModel" "isWithdrawn" "[Z") (by decide +kernel)) (fun _ h9 => h9) rfl dX9_about_66 ?_
    refine lv_iload_n hx hb dX9_about_69 rfl (lv_at hl 1 rfl) ?_
    refine n_zald hx hb hB (hL 1010 (by decide)) h_1010 j rfl (by omega) (by omega) dX9_about_70 ?_
    refine b_if_eq_f 78 hx hb dX9_about_71 (by decide) (by rw [hw]; decide) ?_
    refine lv_iconst (v := 1) hx hb dX9_about_74 (by decide) ?_
    refine lv_goto (tgt := 79) hx hb dX9_about_75 (by decide) ?_
    exact m_iret hx hb hrt hlocks hB (Nat.le_refl _) (Nat.le_refl _) dX9_about_79 ⟨by rw [hw], rfl, rfl, rfl⟩
set_option maxHeartbeats 1000000 in
set_option maxRecDepth 100000 in
theorem c_M_about_x (l : Launch) (D : va_G) (ty : Nat → ClassId) (L : List Nat) (ad : Nat → Nat) (g : Nat → va_E) (a : Nat → Nat → Int32) (dn pn en qn mz : Nat) (nw lo : Int32) (tr : Int64) (j : Nat) (w : Int32) (hM : RM ty L ad g a dn pn en qn mz nw lo tr) (hj9 : j < pn) (hpn : pn ≤ 8) (hw : w.toInt < 0 ∨ 4 < w.toInt) : m_E l yX9_about wsX9_about 2 43 D ty [.ref (ad 1000), .int (nI j), .int w] L ad g (some (.int (-1))) g := by
  intro sz
  refine Met.ofW (cc := cX9_about) (maxL := 3) (ret := (some .int)) (by decide) rfl ?_
  intro p e s m args below meth c s₁ B hml hv
  have hx := B.exec
  have hb := B.bytes
  have hrt := B.returns
  have hts := atoms_spec (ws := wsX9_about) B.pre
  have hown : s.vm.findClass RX9 = some m.cls := findClass_of_methodNamed B.named
  have hlocks := B.notSynchronized
  obtain ⟨rfl, hB⟩ := m_start hv
  generalize va_A (m_w L ad g) sz = A at hB ⊢
  generalize s.heap = H at hB ⊢
  generalize ([] : List Loc) = locs at hB ⊢
  have hl := lv_entry ([.ref (ad 1000), .int (nI j), .int w]) (n := 3) (Nat.le_of_ble_eq_true rfl)
  rw [lg_entry_eq]
  generalize (lg_sl ([.ref (ad 1000), .int (nI j), .int w]) ++ List.replicate (3 - (lg_sl ([.ref (ad 1000), .int (nI j), .int w])).length) Slot.unset).toArray = ls at hl ⊢
  have hl : lv_has ls 3 [(0, .ref (ad 1000)), (1, .int (nI j)), (2, .int w)] := hl
  obtain ⟨hL, h_1000, h_1002, h_1004, h_1005, h_1007, h_1008, h_1009, h_1010, h_1011, h_1012, h_1013, h_1014, h_1015, h_1016, h_1019, h_1020, h_1021, h_1022, h_1024, h_1025, h_1026, h_1027, h_1028, h_1029, h_1030, h_1032⟩ := id hM
  refine lv_aload_n hx hb dX9_about_0 rfl (lv_at hl 0 rfl) ?_
  refine lv_iload_n hx hb dX9_about_1 rfl (lv_at hl 1 rfl) ?_
  refine m_callVE (ci := 9) (As := [.int (nI j)]) (rest := []) (c_M_isPaper_t l D ty L ad _ a dn pn en qn mz nw lo tr j hM hj9 hpn) ⟨hx, hb, hml, hown, hts⟩ (cwV 1 hts gX9_about_X9_isPaper rfl rfl rfl (by decide +kernel) ⟨Nat.le_of_ble_eq_true rfl, Nat.le_of_ble_eq_true rfl⟩) hB (hL 1000 (by decide)) h_1000 rfl rfl hl.1 rfl (Nat.le_of_ble_eq_true rfl) dX9_about_2 ⟨Nat.le_of_ble_eq_true rfl, Nat.le_of_ble_eq_true rfl⟩ (fun H locs hB => ?_)
  refine b_if_ne_t 10 hx hb dX9_about_5 (by decide) (by decide) ?_
  refine lv_iload_n hx hb dX9_about_10 rfl (lv_at hl 2 rfl) ?_
  refine lv_tableOut (tgt := 87) hx hb dX9_about_11 (by omega) (by decide) ?_
  refine lv_iconst (v := (-1)) hx hb dX9_about_87 (by decide) ?_
  exact m_iret hx hb hrt hlocks hB (Nat.le_refl _) (Nat.le_refl _) dX9_about_88 ⟨rfl, rfl, rfl, rfl⟩
set_option maxHeartbeats 1000000 in
set_option maxRecDepth 100000 in
theorem c_M_about_bad (l : Launch) (D : va_G) (ty : Nat → ClassId) (L : List Nat) (ad : Nat → Nat) (g : Nat → va_E) (a : Nat → Nat → Int32) (dn pn en qn mz : Nat) (nw lo : Int32) (tr : Int64) (i w : Int32) (hM : RM ty L ad g a dn pn en qn mz nw lo tr) (hi : ¬ (0 ≤ i.toInt ∧ i.toInt < pn)) (hpn : pn ≤ 8) : m_E l yX9_about wsX9_about 2 43 D ty [.ref (ad 1000), .int i, .int w] L ad g (some (.int (-1))) g := by
  intro sz
  refine Met.ofW (cc := cX9_about) (maxL := 3) (ret := (some .int)) (by decide) rfl ?_
  intro p e s m args below meth c s₁ B hml hv
  have hx := B.exec
  have hb := B.bytes
  have hrt := B.returns
  have hts := atoms_spec (ws := wsX9_about) B.pre
  have hown : s.vm.findClass RX9 = some m.cls := findClass_of_methodNamed B.named
  have hlocks := B.notSynchronized
  obtain ⟨rfl, hB⟩ := m_start hv
  generalize va_A (m_w L ad g) sz = A at hB ⊢
  generalize s.heap = H at hB ⊢
  generalize ([] : List Loc) = locs at hB ⊢
  have hl := lv_entry ([.ref (ad 1000), .int i, .int w]) (n := 3) (Nat.le_of_ble_eq_true rfl)
  rw [lg_entry_eq]
  generalize (lg_sl ([.ref (ad 1000), .int i, .int w]) ++ List.replicate (3 - (lg_sl ([.ref (ad 1000), .int i, .int w])).length) Slot.unset).toArray = ls at hl ⊢
  have hl : lv_has ls 3 [(0, .ref (ad 1000)), (1, .int i), (2, .int w)] := hl
  obtain ⟨hL, h_1000, h_1002, h_1004, h_1005, h_1007, h_1008, h_1009, h_1010, h_1011, h_1012, h_1013, h_1014, h_1015, h_1016, h_1019, h_1020, h_1021, h_1022, h_1024, h_1025, h_1026, h_1027, h_1028, h_1029, h_1030, h_1032⟩ := id hM
  refine lv_aload_n hx hb dX9_about_0 rfl (lv_at hl 0 rfl) ?_
  refine lv_iload_n hx hb dX9_about_1 rfl (lv_at hl 1 rfl) ?_
  refine m_callVE (ci := 9) (As := [.int i]) (rest := []) (c_M_isPaper_f l D ty L ad _ a dn pn en qn mz nw lo tr _ hM hi hpn) ⟨hx, hb, hml, hown, hts⟩ (cwV 1 hts gX9_about_X9_isPaper rfl rfl rfl (by decide +kernel) ⟨Nat.le_of_ble_eq_true rfl, Nat.le_of_ble_eq_true rfl⟩) hB (hL 1000 (by decide)) h_1000 rfl rfl hl.1 rfl (Nat.le_of_ble_eq_true rfl) dX9_about_2 ⟨Nat.le_of_ble_eq_true rfl, Nat.le_of_ble_eq_true rfl⟩ (fun H locs hB => ?_)
  refine b_if_ne_f 10 hx hb dX9_about_5 (by decide) (by decide) ?_
  refine lv_iconst (v := (-1)) hx hb dX9_about_8 (by decide) ?_
  exact m_iret hx hb hrt hlocks hB (Nat.le_refl _) (Nat.le_refl _) dX9_about_9 ⟨rfl, rfl, rfl, rfl⟩
set_option maxRecDepth 20000 in
theorem in_X9_sees_X9 : ∀ w ∈ wsX90, w ∈ wsX9_sees := by decide +kernel
set_option maxHeartbeats 1000000 in
set_option maxRecDepth 100000 in
theorem c_M_sees (l : Launch) (D : va_G) (ty : Nat → ClassId) (L : List Nat) (ad : Nat → Nat) (g : Nat → va_E) (a : Nat → Nat → Int32) (dn pn en qn mz : Nat) (nw lo : Int32) (tr : Int64) (b j fo : Nat) (hM : RM ty L ad g a dn pn en qn mz nw lo tr) (hb6 : b < 6) (hj8 : j < 8) (hfo : a 7 j = nI fo) (hfo4 : fo < 4) (hw : a 9 j = 0 ∨ a 9 j = 1) : m_E l yX9_sees wsX9_sees 0 0 D ty [.ref (ad 1000), .int (nI b), .int (nI j)] L ad g (some (.int (zb (seeB (a 6 j) (a 9 j) (a 8 j) (a 3) (a 4) (b % 3 * 4 + fo) nw)))) g := by
  intro sz
  refine Met.ofW (cc := cX9_sees) (maxL := 4) (ret := (some .boolean)) (by decide) rfl ?_
  intro p e s m args below meth c s₁ B hml hv
  have hx := B.exec
  have hb := B.bytes
  have hrt := B.returns
  have hts := atoms_spec (ws := wsX9_sees) B.pre
  have hown : s.vm.findClass RX9 = some m.cls := findClass_of_methodNamed B.named
  have hlocks := B.notSynchronized
  obtain ⟨rfl, hB⟩ := m_start hv
  generalize va_A (m_w L ad g) sz = A at hB ⊢
  generalize s.heap = H at hB ⊢
  generalize ([] : List Loc) = locs at hB ⊢
  have hl := lv_entry ([.ref (ad 1000), .int (nI b), .int (nI j)]) (n := 4) (Nat.le_of_ble_eq_true rfl)
  rw [lg_entry_eq]
  generalize (lg_sl ([.ref (ad 1000), .int (nI b), .int (nI j)]) ++ List.replicate (4 - (lg_sl ([.ref (ad 1000), .int (nI b), .int (nI j)])).length) Slot.unset).toArray = ls at hl ⊢
  have hl : lv_has ls 4 [(0, .ref (ad 1000)), (1, .int (nI b)), (2, .int (nI j))] := hl
  obtain ⟨hL, h_1000, h_1002, h_1004, h_1005, h_1007, h_1008, h_1009, h_1010, h_1011, h_1012, h_1013, h_1014, h_1015, h_1016, h_1019, h_1020, h_1021, h_1022, h_1024, h_1025, h_1026, h_1027, h_1028, h_1029, h_1030, h_1032⟩ := id hM
  have tI_b : (nI b).toInt = (b : Int) := nI_toInt (by omega)
  have tI_j : (nI j).toInt = (j : Int) := nI_toInt (by omega)
  refine lv_iconst (v := 4) hx hb dX9_sees_0 (by decide) ?_
  refine lv_iload_n hx hb dX9_sees_1 rfl (lv_at hl 1 rfl) ?_
  refine lv_iconst (v := 3) hx hb dX9_sees_2 (by decide) ?_
  refine lv_irem hx hb dX9_sees_3 (by decide) ?_
  refine b_topi (w := nI (b % 3)) (i_rem3 b (by omega)) ?_
  refine lv_imul hx hb dX9_sees_4 ?_
  refine b_topi (w := nI (b % 3 * 4)) ((pk_mul 4 (b % 3)).trans (by rw [Nat.mul_comm])) ?_
  refine lv_aload_n hx hb dX9_sees_5 rfl (lv_at hl 0 rfl) ?_
  refine m_get (C := RX9) (T := TX9) (N := 33) (ci := 9) hx hb hts in_X9_sees_X9 hown hB (hL 1000 (by decide)) h_1000 rfl 7 (by decide) (hts (.fieldLink RX9 22 "PaperRoomModel" "folder" "[I") (by decide +kernel)) (fun _ h9 => h9) rfl dX9_sees_6 ?_
  refine lv_iload_n hx hb dX9_sees_9 rfl (lv_at hl 2 rfl) ?_
  refine n_iald hx hb hB (hL 1008 (by decide)) h_1008 j rfl (by omega) (by omega) dX9_sees_10 ?_
  refine b_topi (w := nI fo) (hfo) ?_
  refine lv_iadd hx hb dX9_sees_11 ?_
  refine b_topi (w := nI ((b % 3 * 4) + fo)) (nI_add (b % 3 * 4) fo) ?_
  refine lv_istore_n (lv' := [(3, .int (nI ((b % 3 * 4) + fo))), (0, .ref (ad 1000)), (1, .int (nI b)), (2, .int (nI j))]) hx hb dX9_sees_12 rfl hl (by decide) rfl (fun ls hl => ?_)
  rcases hw with hw | hw
  · skip
    rcases (show nw.toInt < (a 3 (b % 3 * 4 + fo)).toInt ∨ (¬ nw.toInt < (a 3 (b % 3 * 4 + fo)).toInt ∧ (a 4 (b % 3 * 4 + fo)).toInt ≤ nw.toInt) ∨ (¬ nw.toInt < (a 3 (b % 3 * 4 + fo)).toInt ∧ ¬ (a 4 (b % 3 * 4 + fo)).toInt ≤ nw.toInt) by omega) with h9 | h9 | h9
    · skip
      refine lv_aload_n hx hb dX9_sees_13 rfl (lv_at hl 1 rfl) ?_
      refine m_get (C := RX9) (T := TX9) (N := 33) (ci := 9) hx hb hts in_X9_sees_X9 hown hB (hL 1000 (by decide)) h_1000 rfl 9 (by decide) (hts (.fieldLink RX9 28 "PaperRoomModel" "isWithdrawn" "[Z") (by decide +kernel)) (fun _ h9 => h9) rfl dX9_sees_14 ?_
      refine lv_iload_n hx hb dX9_sees_17 rfl (lv_at hl 3 rfl) ?_
      refine n_zald hx hb hB (hL 1010 (by decide)) h_1010 j rfl (by omega) (by omega) dX9_sees_18 ?_
      refine b_if_ne_f 75 hx hb dX9_sees_19 (by decide) (by rw [hw]; decide) ?_
      refine lv_aload_n hx hb dX9_sees_22 rfl (lv_at hl 1 rfl) ?_
      refine m_get (C := RX9) (T := TX9) (N := 33) (ci := 9) hx hb hts in_X9_sees_X9 hown hB (hL 1000 (by decide)) h_1000 rfl 2 (by decide) (hts (.fieldLink RX9 86 "PaperRoomModel" "now" "I") (by decide +kernel)) (fun _ h9 => h9) rfl dX9_sees_23 ?_
      refine lv_aload_n hx hb dX9_sees_26 rfl (lv_at hl 1 rfl) ?_
      refine m_get (C := RX9) (T := TX9) (N := 33) (ci := 9) hx hb hts in_X9_sees_X9 hown hB (hL 1000 (by decide)) h_1000 rfl 3 (by decide) (hts (.fieldLink RX9 13 "PaperRoomModel" "rightFrom" "[I") (by decide +kernel)) (fun _ h9 => h9) rfl dX9_sees_27 ?_
      refine lv_iload_n hx hb dX9_sees_30 rfl (lv_at hl 0 rfl) ?_
      refine n_iald hx hb hB (hL 1004 (by decide)) h_1004 ((b % 3 * 4) + fo) rfl (by omega) (by omega) dX9_sees_31 ?_
      refine b_icmp_lt_t 75 hx hb dX9_sees_32 (by decide) (by omega) ?_
      refine lv_iconst (v := 0) hx hb dX9_sees_75 (by decide) ?_
      exact m_zret hx hb hrt hlocks hB (Nat.le_refl _) (Nat.le_refl _) dX9_sees_76 rfl ⟨zf (by rw [seeB, opn, cv, df (P := (a 3 (b % 3 * 4 + fo)).toInt ≤ _) (by omega)]; simp), rfl, rfl, rfl⟩
    · skip
      refine lv_aload_n hx hb dX9_sees_13 rfl (lv_at hl 1 rfl) ?_
      refine m_get (C := RX9) (T := TX9) (N := 33) (ci := 9) hx hb hts in_X9_sees_X9 hown hB (hL 1000 (by decide)) h_1000 rfl 9 (by decide) (hts (.fieldLink RX9 28 "PaperRoomModel" "isWithdrawn" "[Z") (by decide +kernel)) (fun _ h9 => h9) rfl dX9_sees_14 ?_
      refine lv_iload_n hx hb dX9_sees_17 rfl (lv_at hl 3 rfl) ?_
      refine n_zald hx hb hB (hL 1010 (by decide)) h_1010 j rfl (by omega) (by omega) dX9_sees_18 ?_
      refine b_if_ne_f 75 hx hb dX9_sees_19 (by decide) (by rw [hw]; decide) ?_
      refine lv_aload_n hx hb dX9_sees_22 rfl (lv_at hl 1 rfl) ?_
      refine m_get (C := RX9) (T := TX9) (N := 33) (ci := 9) hx hb hts in_X9_sees_X9 hown hB (hL 1000 (by decide)) h_1000 rfl 2 (by decide) (hts (.fieldLink RX9 86 "PaperRoomModel" "now" "I") (by decide +kernel)) (fun _ h9 => h9) rfl dX9_sees_23 ?_
      refine lv_aload_n hx hb dX9_sees_26 rfl (lv_at hl 1 rfl) ?_
      refine m_get (C := RX9) (T := TX9) (N := 33) (ci := 9) hx hb hts in_X9_sees_X9 hown hB (hL 1000 (by decide)) h_1000 rfl 3 (by decide) (hts (.fieldLink RX9 13 "PaperRoomModel" "rightFrom" "[I") (by decide +kernel)) (fun _ h9 => h9) rfl dX9_sees_27 ?_
      refine lv_iload_n hx hb dX9_sees_30 rfl (lv_at hl 0 rfl) ?_
      refine n_iald hx hb hB (hL 1004 (by decide)) h_1004 ((b % 3 * 4) + fo) rfl (by omega) (by omega) dX9_sees_31 ?_
      refine b_icmp_lt_f 75 hx hb dX9_sees_32 (by decide) (by omega) ?_
      refine lv_aload_n hx hb dX9_sees_35 rfl (lv_at hl 1 rfl) ?_
      refine m_get (C := RX9) (T := TX9) (N := 33) (ci := 9) hx hb hts in_X9_sees_X9 hown hB (hL 1000 (by decide)) h_1000 rfl 2 (by decide) (hts (.fieldLink RX9 86 "PaperRoomModel" "now" "I") (by decide +kernel)) (fun _ h9 => h9) rfl dX9_sees_36 ?_
      refine lv_aload_n hx hb dX9_sees_39 rfl (lv_at hl 1 rfl) ?_
      refine m_get (C := RX9) (T := TX9) (N := 33) (ci := 9) hx hb hts in_X9_sees_X9 hown hB (hL 1000 (by decide)) h_1000 rfl 4 (by decide) (hts (.fieldLink RX9 16 "PaperRoomModel" "rightTo" "[I") (by decide +kernel)) (fun _ h9 => h9) rfl dX9_sees_40 ?_
      refine lv_iload_n hx hb dX9_sees_43 rfl (lv_at hl 0 rfl) ?_
      refine n_iald hx hb hB (hL 1005 (by decide)) h_1005 ((b % 3 * 4) + fo) rfl (by omega) (by omega) dX9_sees_44 ?_
      refine b_icmp_ge_t 75 hx hb dX9_sees_45 (by decide) (by omega) ?_
      refine lv_iconst (v := 0) hx hb dX9_sees_75 (by decide) ?_
      exact m_zret hx hb hrt hlocks hB (Nat.le_refl _) (Nat.le_refl _) dX9_sees_76 rfl ⟨zf (by rw [seeB, opn, cv, df (P := nw.toInt < _) (by omega)]; simp), rfl, rfl, rfl⟩
    · skip
      have hop : opn (a 9 j) (a 3) (a 4) (b % 3 * 4 + fo) nw = true := by rw [opn, cv, dt hw, dt (by omega), dt (by omega)]; rfl
      by_cases hk : a 6 j = 1
      · skip
        rcases (show nw.toInt < (a 8 j).toInt ∨ (a 8 j).toInt ≤ nw.toInt by omega) with h8 | h8
        · skip
          refine lv_aload_n hx hb dX9_sees_13 rfl (lv_at hl 1 rfl) ?_
          refine m_get (C := RX9) (T := TX9) (N := 33) (ci := 9) hx hb hts in_X9_sees_X9 hown hB (hL 1000 (by decide)) h_1000 rfl 9 (by decide) (hts (.fieldLink RX9 28 "PaperRoomModel" "isWithdrawn" "[Z") (by decide +kernel)) (fun _ h9 => h9) rfl dX9_sees_14 ?_
          refine lv_iload_n hx hb dX9_sees_17 rfl (lv_at hl 3 rfl) ?_
          refine n_zald hx hb hB (hL 1010 (by decide)) h_1010 j rfl (by omega) (by omega) dX9_sees_18 ?_
          refine b_if_ne_f 75 hx hb dX9_sees_19 (by decide) (by rw [hw]; decide) ?_
          refine lv_aload_n hx hb dX9_sees_22 rfl (lv_at hl 1 rfl) ?_
          refine m_get (C := RX9) (T := TX9) (N := 33) (ci := 9) hx hb hts in_X9_sees_X9 hown hB (hL 1000 (by decide)) h_1000 rfl 2 (by decide) (hts (.fieldLink RX9 86 "PaperRoomModel" "now" "I") (by decide +kernel)) (fun _ h9 => h9) rfl dX9_sees_23 ?_
          refine lv_aload_n hx hb dX9_sees_26 rfl (lv_at hl 1 rfl) ?_
          refine m_get (C := RX9) (T := TX9) (N := 33) (ci := 9) hx hb hts in_X9_sees_X9 hown hB (hL 1000 (by decide)) h_1000 rfl 3 (by decide) (hts (.fieldLink RX9 13 "PaperRoomModel" "rightFrom" "[I") (by decide +kernel)) (fun _ h9 => h9) rfl dX9_sees_27 ?_
          refine lv_iload_n hx hb dX9_sees_30 rfl (lv_at hl 0 rfl) ?_
          refine n_iald hx hb hB (hL 1004 (by decide)) h_1004 ((b % 3 * 4) + fo) rfl (by omega) (by omega) dX9_sees_31 ?_
          refine b_icmp_lt_f 75 hx hb dX9_sees_32 (by decide) (by omega) ?_
          refine lv_aload_n hx hb dX9_sees_35 rfl (lv_at hl 1 rfl) ?_
          refine m_get (C := RX9) (T := TX9) (N := 33) (ci := 9) hx hb hts in_X9_sees_X9 hown hB (hL 1000 (by decide)) h_1000 rfl 2 (by decide) (hts (.fieldLink RX9 86 "PaperRoomModel" "now" "I") (by decide +kernel)) (fun _ h9 => h9) rfl dX9_sees_36 ?_
          refine lv_aload_n hx hb dX9_sees_39 rfl (lv_at hl 1 rfl) ?_
          refine m_get (C := RX9) (T := TX9) (N := 33) (ci := 9) hx hb hts in_X9_sees_X9 hown hB (hL 1000 (by decide)) h_1000 rfl 4 (by decide) (hts (.fieldLink RX9 16 "PaperRoomModel" "rightTo" "[I") (by decide +kernel)) (fun _ h9 => h9) rfl dX9_sees_40 ?_
          refine lv_iload_n hx hb dX9_sees_43 rfl (lv_at hl 0 rfl) ?_
          refine n_iald hx hb hB (hL 1005 (by decide)) h_1005 ((b % 3 * 4) + fo) rfl (by omega) (by omega) dX9_sees_44 ?_
          refine b_icmp_ge_f 75 hx hb dX9_sees_45 (by decide) (by omega) ?_
          refine lv_aload_n hx hb dX9_sees_48 rfl (lv_at hl 1 rfl) ?_
          refine m_get (C := RX9) (T := TX9) (N := 33) (ci := 9) hx hb hts in_X9_sees_X9 hown hB (hL 1000 (by decide)) h_1000 rfl 6 (by decide) (hts (.fieldLink RX9 19 "PaperRoomModel" "kind" "[I") (by decide +kernel)) (fun _ h9 => h9) rfl dX9_sees_49 ?_
          refine lv_iload_n hx hb dX9_sees_52 rfl (lv_at hl 3 rfl) ?_
          refine n_iald hx hb hB (hL 1007 (by decide)) h_1007 j rfl (by omega) (by omega) dX9_sees_53 ?_
          refine lv_iconst (v := 1) hx hb dX9_sees_54 (by decide) ?_
          refine b_icmp_ne_f 71 hx hb dX9_sees_55 (by decide) (by rw [hk]) ?_
          refine lv_aload_n hx hb dX9_sees_58 rfl (lv_at hl 1 rfl) ?_
          refine m_get (C := RX9) (T := TX9) (N := 33) (ci := 9) hx hb hts in_X9_sees_X9 hown hB (hL 1000 (by decide)) h_1000 rfl 2 (by decide) (hts (.fieldLink RX9 86 "PaperRoomModel" "now" "I") (by decide +kernel)) (fun _ h9 => h9) rfl dX9_sees_59 ?_
          refine lv_aload_n hx hb dX9_sees_62 rfl (lv_at hl 1 rfl) ?_
          refine m_get (C := RX9) (T := TX9) (N := 33) (ci := 9) hx hb hts in_X9_sees_X9 hown hB (hL 1000 (by decide)) h_1000 rfl 8 (by decide) (hts (.fieldLink RX9 25 "PaperRoomModel" "letsGo" "[I") (by decide +kernel)) (fun _ h9 => h9) rfl dX9_sees_63 ?_
          refine lv_iload_n hx hb dX9_sees_66 rfl (lv_at hl 3 rfl) ?_
          refine n_iald hx hb hB (hL 1009 (by decide)) h_1009 j rfl (by omega) (by omega) dX9_sees_67 ?_
          refine b_icmp_lt_t 75 hx hb dX9_sees_68 (by decide) (by omega) ?_
          refine lv_iconst (v := 0) hx hb dX9_sees_75 (by decide) ?_
          exact m_zret hx hb hrt hlocks hB (Nat.le_refl _) (Nat.le_refl _) dX9_sees_76 rfl ⟨zf (by rw [seeB, df (P := ¬ a 6 j = 1) (fun h => h hk), df (by omega)]; simp), rfl, rfl, rfl⟩
        · skip
          refine lv_aload_n hx hb dX9_sees_13 rfl (lv_at hl 1 rfl) ?_
          refine m_get (C := RX9) (T := TX9) (N := 33) (ci := 9) hx hb hts in_X9_sees_X9 hown hB (hL 1000 (by decide)) h_1000 rfl 9 (by decide) (hts (.fieldLink RX9 28 "PaperRoomModel" "isWithdrawn" "[Z") (by decide +kernel)) (fun _ h9 => h9) rfl dX9_sees_14 ?_
          refine lv_iload_n hx hb dX9_sees_17 rfl (lv_at hl 3 rfl) ?_
          refine n_zald hx hb hB (hL 1010 (by decide)) h_1010 j rfl (by omega) (by omega) dX9_sees_18 ?_
          refine b_if_ne_f 75 hx hb dX9_sees_19 (by decide) (by rw [hw]; decide) ?_
          refine lv_aload_n hx hb dX9_sees_22 rfl (lv_at hl 1 rfl) ?_
          refine m_get (C := RX9) (T := TX9) (N := 33) (ci := 9) hx hb hts in_X9_sees_X9 hown hB (hL 1000 (by decide)) h_1000 rfl 2 (by decide) (hts (.fieldLink RX9 86 "PaperRoomModel" "now" "I") (by decide +kernel)) (fun _ h9 => h9) rfl dX9_sees_23 ?_
          refine lv_aload_n hx hb dX9_sees_26 rfl (lv_at hl 1 rfl) ?_
          refine m_get (C := RX9) (T := TX9) (N := 33) (ci := 9) hx hb hts in_X9_sees_X9 hown hB (hL 1000 (by decide)) h_1000 rfl 3 (by decide) (hts (.fieldLink RX9 13 "PaperRoomModel" "rightFrom" "[I") (by decide +kernel)) (fun _ h9 => h9) rfl dX9_sees_27 ?_
          refine lv_iload_n hx hb dX9_sees_30 rfl (lv_at hl 0 rfl) ?_
          refine n_iald hx hb hB (hL 1004 (by decide)) h_1004 ((b % 3 * 4) + fo) rfl (by omega) (by omega) dX9_sees_31 ?_
          refine b_icmp_lt_f 75 hx hb dX9_sees_32 (by decide) (by omega) ?_
          refine lv_aload_n hx hb dX9_sees_35 rfl (lv_at hl 1 rfl) ?_
          refine m_get (C := RX9) (T := TX9) (N := 33) (ci := 9) hx hb hts in_X9_sees_X9 hown hB (hL 1000 (by decide)) h_1000 rfl 2 (by decide) (hts (.fieldLink RX9 86 "PaperRoomModel" "now" "I") (by decide +kernel)) (fun _ h9 => h9) rfl dX9_sees_36 ?_
          refine lv_aload_n hx hb dX9_sees_39 rfl (lv_at hl 1 rfl) ?_
          refine m_get (C := RX9) (T := TX9) (N := 33) (ci := 9) hx hb hts in_X9_sees_X9 hown hB (hL 1000 (by decide)) h_1000 rfl 4 (by decide) (hts (.fieldLink RX9 16 "PaperRoomModel" "rightTo" "[I") (by decide +kernel)) (fun _ h9 => h9) rfl dX9_sees_40 ?_
          refine lv_iload_n hx hb dX9_sees_43 rfl (lv_at hl 0 rfl) ?_
          refine n_iald hx hb hB (hL 1005 (by decide)) h_1005 ((b % 3 * 4) + fo) rfl (by omega) (by omega) dX9_sees_44 ?_
          refine b_icmp_ge_f 75 hx hb dX9_sees_45 (by decide) (by omega) ?_
          refine lv_aload_n hx hb dX9_sees_48 rfl (lv_at hl 1 rfl) ?_
          refine m_get (C := RX9) (T := TX9) (N := 33) (ci := 9) hx hb hts in_X9_sees_X9 hown hB (hL 1000 (by decide)) h_1000 rfl 6 (by decide) (hts (.fieldLink RX9 19 "PaperRoomModel" "kind" "[I") (by decide +kernel)) (fun _ h9 => h9) rfl dX9_sees_49 ?_
          refine lv_iload_n hx hb dX9_sees_52 rfl (lv_at hl 3 rfl) ?_
          refine n_iald hx hb hB (hL 1007 (by decide)) h_1007 j rfl (by omega) (by omega) dX9_sees_53 ?_
          refine lv_iconst (v := 1) hx hb dX9_sees_54 (by decide) ?_
          refine b_icmp_ne_f 71 hx hb dX9_sees_55 (by decide) (by rw [hk]) ?_
          refine lv_aload_n hx hb dX9_sees_58 rfl (lv_at hl 1 rfl) ?_
          refine m_get (C := RX9) (T := TX9) (N := 33) (ci := 9) hx hb hts in_X9_sees_X9 hown hB (hL 1000 (by decide)) h_1000 rfl 2 (by decide) (hts (.fieldLink RX9 86 "PaperRoomModel" "now" "I") (by decide +kernel)) (fun _ h9 => h9) rfl dX9_sees_59 ?_
          refine lv_aload_n hx hb dX9_sees_62 rfl (lv_at hl 1 rfl) ?_
          refine m_get (C := RX9) (T := TX9) (N := 33) (ci := 9) hx hb hts in_X9_sees_X9 hown hB (hL 1000 (by decide)) h_1000 rfl 8 (by decide) (hts (.fieldLink RX9 25 "PaperRoomModel" "letsGo" "[I") (by decide +kernel)) (fun _ h9 => h9) rfl dX9_sees_63 ?_
          refine lv_iload_n hx hb dX9_sees_66 rfl (lv_at hl 3 rfl) ?_
          refine n_iald hx hb hB (hL 1009 (by decide)) h_1009 j rfl (by omega) (by omega) dX9_sees_67 ?_
          refine b_icmp_lt_f 75 hx hb dX9_sees_68 (by decide) (by omega) ?_
          refine lv_iconst (v := 1) hx hb dX9_sees_71 (by decide) ?_
          refine lv_goto (tgt := 76) hx hb dX9_sees_72 (by decide) ?_
          exact m_zret hx hb hrt hlocks hB (Nat.le_refl _) (Nat.le_refl _) dX9_sees_76 rfl ⟨zt (by rw [seeB, hop, dt h8]; simp), rfl, rfl, rfl⟩
      · skip
        refine lv_aload_n hx hb dX9_sees_13 rfl (lv_at hl 1 rfl) ?_
        refine m_get (C := RX9) (T := TX9) (N := 33) (ci := 9) hx hb hts in_X9_sees_X9 hown hB (hL 1000 (by decide)) h_1000 rfl 9 (by decide) (hts (.fieldLink RX9 28 "PaperRoomModel" "isWithdrawn" "[Z") (by decide +kernel)) (fun _ h9 => h9) rfl dX9_sees_14 ?_
        refine lv_iload_n hx hb dX9_sees_17 rfl (lv_at hl 3 rfl) ?_
        refine n_zald hx hb hB (hL 1010 (by decide)) h_1010 j rfl (by omega) (by omega) dX9_sees_18 ?_
        refine b_if_ne_f 75 hx hb dX9_sees_19 (by decide) (by rw [hw]; decide) ?_
        refine lv_aload_n hx hb dX9_sees_22 rfl (lv_at hl 1 rfl) ?_
        refine m_get (C := RX9) (T := TX9) (N := 33) (ci := 9) hx hb hts in_X9_sees_X9 hown hB (hL 1000 (by decide)) h_1000 rfl 2 (by decide) (hts (.fieldLink RX9 86 "PaperRoomModel" "now" "I") (by decide +kernel)) (fun _ h9 => h9) rfl dX9_sees_23 ?_
        refine lv_aload_n hx hb dX9_sees_26 rfl (lv_at hl 1 rfl) ?_
        refine m_get (C := RX9) (T := TX9) (N := 33) (ci := 9) hx hb hts in_X9_sees_X9 hown hB (hL 1000 (by decide)) h_1000 rfl 3 (by decide) (hts (.fieldLink RX9 13 "PaperRoomModel" "rightFrom" "[I") (by decide +kernel)) (fun _ h9 => h9) rfl dX9_sees_27 ?_
        refine lv_iload_n hx hb dX9_sees_30 rfl (lv_at hl 0 rfl) ?_
        refine n_iald hx hb hB (hL 1004 (by decide)) h_1004 ((b % 3 * 4) + fo) rfl (by omega) (by omega) dX9_sees_31 ?_
        refine b_icmp_lt_f 75 hx hb dX9_sees_32 (by decide) (by omega) ?_
        refine lv_aload_n hx hb dX9_sees_35 rfl (lv_at hl 1 rfl) ?_
        refine m_get (C := RX9) (T := TX9) (N := 33) (ci := 9) hx hb hts in_X9_sees_X9 hown hB (hL 1000 (by decide)) h_1000 rfl 2 (by decide) (hts (.fieldLink RX9 86 "PaperRoomModel" "now" "I") (by decide +kernel)) (fun _ h9 => h9) rfl dX9_sees_36 ?_
        refine lv_aload_n hx hb dX9_sees_39 rfl (lv_at hl 1 rfl) ?_
        refine m_get (C := RX9) (T := TX9) (N := 33) (ci := 9) hx hb hts in_X9_sees_X9 hown hB (hL 1000 (by decide)) h_1000 rfl 4 (by decide) (hts (.fieldLink RX9 16 "PaperRoomModel" "rightTo" "[I") (by decide +kernel)) (fun _ h9 => h9) rfl dX9_sees_40 ?_
        refine lv_iload_n hx hb dX9_sees_43 rfl (lv_at hl 0 rfl) ?_
        refine n_iald hx hb hB (hL 1005 (by decide)) h_1005 ((b % 3 * 4) + fo) rfl (by omega) (by omega) dX9_sees_44 ?_
        refine b_icmp_ge_f 75 hx hb dX9_sees_45 (by decide) (by omega) ?_
        refine lv_aload_n hx hb dX9_sees_48 rfl (lv_at hl 1 rfl) ?_
        refine m_get (C := RX9) (T := TX9) (N := 33) (ci := 9) hx hb hts in_X9_sees_X9 hown hB (hL 1000 (by decide)) h_1000 rfl 6 (by decide) (hts (.fieldLink RX9 19 "PaperRoomModel" "kind" "[I") (by decide +kernel)) (fun _ h9 => h9) rfl dX9_sees_49 ?_
        refine lv_iload_n hx hb dX9_sees_52 rfl (lv_at hl 3 rfl) ?_
        refine n_iald hx hb hB (hL 1007 (by decide)) h_1007 j rfl (by omega) (by omega) dX9_sees_53 ?_
        refine lv_iconst (v := 1) hx hb dX9_sees_54 (by decide) ?_
        refine b_icmp_ne_t 71 hx hb dX9_sees_55 (by decide) (fun h8 => hk ((i_eq _ _).mpr h8)) ?_
        refine lv_iconst (v := 1) hx hb dX9_sees_71 (by decide) ?_
        refine lv_goto (tgt := 76) hx hb dX9_sees_72 (by decide) ?_
        exact m_zret hx hb hrt hlocks hB (Nat.le_refl _) (Nat.le_refl _) dX9_sees_76 rfl ⟨zt (by rw [seeB, hop, dt hk]; rfl), rfl, rfl, rfl⟩
  · skip
    refine lv_aload_n hx hb dX9_sees_13 rfl (lv_at hl 1 rfl) ?_
    refine m_get (C := RX9) (T := TX9) (N := 33) (ci := 9) hx hb hts in_X9_sees_X9 hown hB (hL 1000 (by decide)) h_1000 rfl 9 (by decide) (hts (.fieldLink RX9 28 "PaperRoomModel" "isWithdrawn" "[Z") (by decide +kernel)) (fun _ h9 => h9) rfl dX9_sees_14 ?_
    refine lv_iload_n hx hb dX9_sees_17 rfl (lv_at hl 3 rfl) ?_
    refine n_zald hx hb hB (hL 1010 (by decide)) h_1010 j rfl (by omega) (by omega) dX9_sees_18 ?_
    refine b_if_ne_t 75 hx hb dX9_sees_19 (by decide) (by rw [hw]; decide) ?_
    refine lv_iconst (v := 0) hx hb dX9_sees_75 (by decide) ?_
    exact m_zret hx hb hrt hlocks hB (Nat.le_refl _) (Nat.le_refl _) dX9_sees_76 rfl ⟨zf (by rw [seeB, opn, df (P := a 9 j = 0) (by rw [hw]; decide)]; rfl), rfl, rfl, rfl⟩
set_option maxRecDepth 20000 in
theorem in_X9_may_X9 : ∀ w ∈ wsX90, w ∈ wsX9_may := by decide +kernel
set_option maxHeartbeats 1000000 in
set_option maxRecDepth 100000 in
theorem c_M_may_0 (l : Launch) (D : va_G) (ty : Nat → ClassId) (L : List Nat) (ad : Nat → Nat) (g : Nat → va_E) (a : Nat → Nat → Int32) (dn pn en qn mz : Nat) (nw lo : Int32) (tr : Int64) (b j fo : Nat) (hM : RM ty L ad g a dn pn en qn mz nw lo tr) (hj9 : j < pn) (hpn : pn ≤ 8) (hb6 : b < 6) (hfo : a 7 j = nI fo) (hfo4 : fo < 4) (hw : a 9 j = 0 ∨ a 9 j = 1) (hkd : a 6 j = 0) : m_C l yX9_may wsX9_may 2 43 0 0 D ty [.ref (ad 1000), .int (nI b), .int (nI j)] L ad g (fun v1 L1 ad1 g1 => v1 = (some (.int (zb (seeB (a 6 j) (a 9 j) (a 8 j) (a 3) (a 4) (b % 3 * 4 + fo) nw)))) ∧ L1 = L ∧ ad1 = ad ∧ (∀ x, x < 1000 → g1 x = g x) ∧ RM ty L ad g1 a dn pn en qn mz nw lo (tr + 1)) := by
  intro sz
  refine Met.ofW (cc := cX9_may) (maxL := 3) (ret := (some .int)) (by decide) rfl ?_
  intro p e s m args below meth c s₁ B hml hv
  have hx := B.exec
  have hb := B.bytes
  have hrt := B.returns
  have hts := atoms_spec (ws := wsX9_may) B.pre
  have hown : s.vm.findClass RX9 = some m.cls := findClass_of_methodNamed B.named
  have hlocks := B.notSynchronized
  obtain ⟨rfl, hB⟩ := m_start hv
  generalize va_A (m_w L ad g) sz = A at hB ⊢
  generalize s.heap = H at hB ⊢
  generalize ([] : List Loc) = locs at hB ⊢
  have hl := lv_entry ([.ref (ad 1000), .int (nI b), .int (nI j)]) (n := 3) (Nat.le_of_ble_eq_true rfl)
  rw [lg_entry_eq]
  generalize (lg_sl ([.ref (ad 1000), .int (nI b), .int (nI j)]) ++ List.replicate (3 - (lg_sl ([.ref (ad 1000), .int (nI b), .int (nI j)])).length) Slot.unset).toArray = ls at hl ⊢
  have hl : lv_has ls 3 [(0, .ref (ad 1000)), (1, .int (nI b)), (2, .int (nI j))] := hl
  obtain ⟨hL, h_1000, h_1002, h_1004, h_1005, h_1007, h_1008, h_1009, h_1010, h_1011, h_1012, h_1013, h_1014, h_1015, h_1016, h_1019, h_1020, h_1021, h_1022, h_1024, h_1025, h_1026, h_1027, h_1028, h_1029, h_1030, h_1032⟩ := id hM
  have hj8 : j < 8 := by omega
  refine lv_iload_n hx hb dX9_may_0 rfl (lv_at hl 1 rfl) ?_
  refine m_callSE (As := [.int (nI b)]) (rest := []) (c_M_isBidder_t l D ty L ad _ b hb6) ⟨hx, hb, hml, hown, hts⟩ (va_cwS 1 hts gX9_may_X9_isBidder rfl rfl rfl (by decide +kernel) ⟨Nat.le_of_ble_eq_true rfl, Nat.le_of_ble_eq_true rfl⟩) hB rfl hl.1 rfl (Nat.le_of_ble_eq_true rfl) dX9_may_1 ⟨Nat.le_of_ble_eq_true rfl, Nat.le_of_ble_eq_true rfl⟩ (fun H locs hB => ?_)
  refine b_if_eq_f 15 hx hb dX9_may_4 (by decide) (by decide) ?_
  refine lv_aload_n hx hb dX9_may_7 rfl (lv_at hl 0 rfl) ?_
  refine lv_iload_n hx hb dX9_may_8 rfl (lv_at hl 2 rfl) ?_
  refine m_callVE (ci := 9) (As := [.int (nI j)]) (rest := []) (c_M_isPaper_t l D ty L ad _ a dn pn en qn mz nw lo tr j hM hj9 hpn) ⟨hx, hb, hml, hown, hts⟩ (cwV 1 hts gX9_may_X9_isPaper rfl rfl rfl (by decide +kernel) ⟨Nat.le_of_ble_eq_true rfl, Nat.le_of_ble_eq_true rfl⟩) hB (hL 1000 (by decide)) h_1000 rfl rfl hl.1 rfl (Nat.le_of_ble_eq_true rfl) dX9_may_9 ⟨Nat.le_of_ble_eq_true rfl, Nat.le_of_ble_eq_true rfl⟩ (fun H locs hB => ?_)
  refine b_if_ne_t 17 hx hb dX9_may_12 (by decide) (by decide) ?_
  refine lv_aload_n hx hb dX9_may_17 rfl (lv_at hl 0 rfl) ?_
  refine lv_dup hx hb dX9_may_18 rfl ?_
  refine m_get (C := RX9) (T := TX9) (N := 33) (ci := 9) hx hb hts in_X9_may_X9 hown hB (hL 1000 (by decide)) h_1000 rfl 30 (by decide) (hts (.fieldLink RX9 116 "PaperRoomModel" "trace" "J") (by decide +kernel)) (fun _ h9 => h9) rfl dX9_may_19 ?_
  refine lv_aload_n hx hb dX9_may_22 rfl (lv_at hl 0 rfl) ?_
  refine m_get (C := RX9) (T := TX9) (N := 33) (ci := 9) hx hb hts in_X9_may_X9 hown hB (hL 1000 (by decide)) h_1000 rfl 6 (by decide) (hts (.fieldLink RX9 19 "PaperRoomModel" "kind" "[I") (by decide +kernel)) (fun _ h9 => h9) rfl dX9_may_23 ?_
  refine lv_iload_n hx hb dX9_may_26 rfl (lv_at hl 2 rfl) ?_
  refine n_iald hx hb hB (hL 1007 (by decide)) h_1007 j rfl (by omega) (by omega) dX9_may_27 ?_
  refine b_if_ne_f 35 hx hb dX9_may_28 (by decide) (by rw [hkd] <;> decide) ?_
  refine lv_lconst (v := 1) hx hb dX9_may_31 (by decide) ?_
  refine lv_goto (tgt := 54) hx hb dX9_may_32 (by decide) ?_
  refine lv_ladd hx hb dX9_may_54 ?_
  refine m_put (C := RX9) (T := TX9) (N := 33) (ci := 9) (v := .long (tr + 1)) (ft := .long) hx hb hts in_X9_may_X9 tyX9 tyX9_ok nmX9 hown hB (hL 1000 (by decide)) h_1000 rfl 30 (by decide) (hts (.fieldLink RX9 116 "PaperRoomModel" "trace" "J") (by decide +kernel)) (fun _ h9 => h9) rfl (by decide +kernel) rfl rfl (Nat.le_of_ble_eq_true rfl) dX9_may_55 (fun H locs hB => ?_)
  replace hB : m_B D ty A s L ad (va_up g 1000 (.inr (9, [.int (nI dn), .ref (ad 1002), .int nw, .ref (ad 1004), .ref (ad 1005), .int (nI pn), .ref (ad 1007), .ref (ad 1008), .ref (ad 1009), .ref (ad 1010), .ref (ad 1011), .ref (ad 1012), .ref (ad 1013), .ref (ad 1014), .ref (ad 1015), .ref (ad 1016), .int (nI en), .int lo, .ref (ad 1019), .ref (ad 1020), .ref (ad 1021), .ref (ad 1022), .int (nI qn), .ref (ad 1024), .ref (ad 1025), .ref (ad 1026), .ref (ad 1027), .ref (ad 1028), .ref (ad 1029), .ref (ad 1030), .long (tr + 1), .ref (ad 1032), .int (nI mz)]))) H locs := hB
  refine lv_aload_n hx hb dX9_may_58 rfl (lv_at hl 0 rfl) ?_
  refine lv_iload_n hx hb dX9_may_59 rfl (lv_at hl 1 rfl) ?_
  refine lv_iload_n hx hb dX9_may_60 rfl (lv_at hl 2 rfl) ?_
  rcases bool2 (seeB (a 6 j) (a 9 j) (a 8 j) (a 3) (a 4) (b % 3 * 4 + fo) nw) with hs | hs
  · skip
    refine m_callVE (ci := 9) (As := [.int (nI b), .int (nI j)]) (rest := []) (c_M_sees l D ty L ad _ a dn pn en qn mz nw lo _ b j fo ⟨hL, (va_up_self _ _ _), ((va_up_ne _ _ (by decide)).trans h_1002), ((va_up_ne _ _ (by decide)).trans h_1004), ((va_up_ne _ _ (by decide)).trans h_1005), ((va_up_ne _ _ (by decide)).trans h_1007), ((va_up_ne _ _ (by decide)).trans h_1008), ((va_up_ne _ _ (by decide)).trans h_1009), ((va_up_ne _ _ (by decide)).trans h_1010), ((va_up_ne _ _ (by decide)).trans h_1011), ((va_up_ne _ _ (by decide)).trans h_1012), ((va_up_ne _ _ (by decide)).trans h_1013), ((va_up_ne _ _ (by decide)).trans h_1014), ((va_up_ne _ _ (by decide)).trans h_1015), ((va_up_ne _ _ (by decide)).trans h_1016), ((va_up_ne _ _ (by decide)).trans h_1019), ((va_up_ne _ _ (by decide)).trans h_1020), ((va_up_ne _ _ (by decide)).trans h_1021), ((va_up_ne _ _ (by decide)).trans h_1022), ((va_up_ne _ _ (by decide)).trans h_1024), ((va_up_ne _ _ (by decide)).trans h_1025), ((va_up_ne _ _ (by decide)).trans h_1026), ((va_up_ne _ _ (by decide)).trans h_1027), ((va_up_ne _ _ (by decide)).trans h_1028), ((va_up_ne _ _ (by decide)).trans h_1029), ((va_up_ne _ _ (by decide)).trans h_1030), ((va_up_ne _ _ (by decide)).trans h_1032)⟩ hb6 (by omega) hfo hfo4 hw) ⟨hx, hb, hml, hown, hts⟩ (cwV 2 hts gX9_may_X9_sees rfl rfl rfl (by decide +kernel) ⟨Nat.le_of_ble_eq_true rfl, Nat.le_of_ble_eq_true rfl⟩) hB (hL 1000 (by decide)) (va_up_self _ _ _) rfl rfl hl.1 rfl (Nat.le_of_ble_eq_true rfl) dX9_may_61 ⟨Nat.le_of_ble_eq_true rfl, Nat.le_of_ble_eq_true rfl⟩ (fun H locs hB => ?_)
    refine b_if_eq_f 71 hx hb dX9_may_64 (by decide) (by rw [hs]; decide) ?_
    refine lv_iconst (v := 1) hx hb dX9_may_67 (by decide) ?_
    refine lv_goto (tgt := 72) hx hb dX9_may_68 (by decide) ?_
    exact m_iret hx hb hrt hlocks hB (Nat.le_refl _) (Nat.le_refl _) dX9_may_72 ⟨(zt hs), rfl, rfl, (fun x hx => ((va_up_ne _ _ (by omega)).trans rfl)), ⟨hL, (va_up_self _ _ _), ((va_up_ne _ _ (by decide)).trans h_1002), ((va_up_ne _ _ (by decide)).trans h_1004), ((va_up_ne _ _ (by decide)).trans h_1005), ((va_up_ne _ _ (by decide)).trans h_1007), ((va_up_ne _ _ (by decide)).trans h_1008), ((va_up_ne _ _ (by decide)).trans h_1009), ((va_up_ne _ _ (by decide)).trans h_1010), ((va_up_ne _ _ (by decide)).trans h_1011), ((va_up_ne _ _ (by decide)).trans h_1012), ((va_up_ne _ _ (by decide)).trans h_1013), ((va_up_ne _ _ (by decide)).trans h_1014), ((va_up_ne _ _ (by decide)).trans h_1015), ((va_up_ne _ _ (by decide)).trans h_1016), ((va_up_ne _ _ (by decide)).trans h_1019), ((va_up_ne _ _ (by decide)).trans h_1020), ((va_up_ne _ _ (by decide)).trans h_1021), ((va_up_ne _ _ (by decide)).trans h_1022), ((va_up_ne _ _ (by decide)).trans h_1024), ((va_up_ne _ _ (by decide)).trans h_1025), ((va_up_ne _ _ (by decide)).trans h_1026), ((va_up_ne _ _ (by decide)).trans h_1027), ((va_up_ne _ _ (by decide)).trans h_1028), ((va_up_ne _ _ (by decide)).trans h_1029), ((va_up_ne _ _ (by decide)).trans h_1030), ((va_up_ne _ _ (by decide)).trans h_1032)⟩⟩
  · skip
    refine m_callVE (ci := 9) (As := [.int (nI b), .int (nI j)]) (rest := []) (c_M_sees l D ty L ad _ a dn pn en qn mz nw lo _ b j fo ⟨hL, (va_up_self _ _ _), ((va_up_ne _ _ (by decide)).trans h_1002), ((va_up_ne _ _ (by decide)).trans h_1004), ((va_up_ne _ _ (by decide)).trans h_1005), ((va_up_ne _ _ (by decide)).trans h_1007), ((va_up_ne _ _ (by decide)).trans h_1008), ((va_up_ne _ _ (by decide)).trans h_1009), ((va_up_ne _ _ (by decide)).trans h_1010), ((va_up_ne _ _ (by decide)).trans h_1011), ((va_up_ne _ _ (by decide)).trans h_1012), ((va_up_ne _ _ (by decide)).trans h_1013), ((va_up_ne _ _ (by decide)).trans h_1014), ((va_up_ne _ _ (by decide)).trans h_1015), ((va_up_ne _ _ (by decide)).trans h_1016), ((va_up_ne _ _ (by decide)).trans h_1019), ((va_up_ne _ _ (by decide)).trans h_1020), ((va_up_ne _ _ (by decide)).trans h_1021), ((va_up_ne _ _ (by decide)).trans h_1022), ((va_up_ne _ _ (by decide)).trans h_1024), ((va_up_ne _ _ (by decide)).trans h_1025), ((va_up_ne _ _ (by decide)).trans h_1026), ((va_up_ne _ _ (by decide)).trans h_1027), ((va_up_ne _ _ (by decide)).trans h_1028), ((va_up_ne _ _ (by decide)).trans h_1029), ((va_up_ne _ _ (by decide)).trans h_1030), ((va_up_ne _ _ (by decide)).trans h_1032)⟩ hb6 (by omega) hfo hfo4 hw) ⟨hx, hb, hml, hown, hts⟩ (cwV 2 hts gX9_may_X9_sees rfl rfl rfl (by decide +kernel) ⟨Nat.le_of_ble_eq_true rfl, Nat.le_of_ble_eq_true rfl⟩) hB (hL 1000 (by decide)) (va_up_self _ _ _) rfl rfl hl.1 rfl (Nat.le_of_ble_eq_true rfl) dX9_may_61 ⟨Nat.le_of_ble_eq_true rfl, Nat.le_of_ble_eq_true rfl⟩ (fun H locs hB => ?_)
    refine b_if_eq_t 71 hx hb dX9_may_64 (by decide) (by rw [hs]; decide) ?_
    refine lv_iconst (v := 0) hx hb dX9_may_71 (by decide) ?_
    exact m_iret hx hb hrt hlocks hB (Nat.le_refl _) (Nat.le_refl _) dX9_may_72 ⟨(zf hs), rfl, rfl, (fun x hx => ((va_up_ne _ _ (by omega)).trans rfl)), ⟨hL, (va_up_self _ _ _), ((va_up_ne _ _ (by decide)).trans h_1002), ((va_up_ne _ _ (by decide)).trans h_1004), ((va_up_ne _ _ (by decide)).trans h_1005), ((va_up_ne _ _ (by decide)).trans h_1007), ((va_up_ne _ _ (by decide)).trans h_1008), ((va_up_ne _ _ (by decide)).trans h_1009), ((va_up_ne _ _ (by decide)).trans h_1010), ((va_up_ne _ _ (by decide)).trans h_1011), ((va_up_ne _ _ (by decide)).trans h_1012), ((va_up_ne _ _ (by decide)).trans h_1013), ((va_up_ne _ _ (by decide)).trans h_1014), ((va_up_ne _ _ (by decide)).trans h_1015), ((va_up_ne _ _ (by decide)).trans h_1016), ((va_up_ne _ _ (by decide)).trans h_1019), ((va_up_ne _ _ (by decide)).trans h_1020), ((va_up_ne _ _ (by decide)).trans h_1021), ((va_up_ne _ _ (by decide)).trans h_1022), ((va_up_ne _ _ (by decide)).trans h_1024), ((va_up_ne _ _ (by decide)).trans h_1025), ((va_up_ne _ _ (by decide)).trans h_1026), ((va_up_ne _ _ (by decide)).trans h_1027), ((va_up_ne _ _ (by decide)).trans h_1028), ((va_up_ne _ _ (by decide)).trans h_1029), ((va_up_ne _ _ (by decide)).trans h_1030), ((va_up_ne _ _ (by decide)).trans h_1032)⟩⟩
set_option maxHeartbeats 1000000 in
set_option maxRecDepth 100000 in
theorem c_M_may_1 (l : Launch) (D : va_G) (ty : Nat → ClassId) (L : List Nat) (ad : Nat → Nat) (g : Nat → va_E) (a : Nat → Nat → Int32) (dn pn en qn mz : Nat) (nw lo : Int32) (tr : Int64) (b j fo : Nat) (hM : RM ty L ad g a dn pn en qn mz nw lo tr) (hj9 : j < pn) (hpn : pn ≤ 8) (hb6 : b < 6) (hfo : a 7 j = nI fo) (hfo4 : fo < 4) (hw : a 9 j = 0 ∨ a 9 j = 1) (hkd : a 6 j = 1) : m_C l yX9_may wsX9_may 2 43 0 0 D ty [.ref (ad 1000), .int (nI b), .int (nI j)] L ad g (fun v1 L1 ad1 g1 => v1 = (some (.int (zb (seeB (a 6 j) (a 9 j) (a 8 j) (a 3) (a 4) (b % 3 * 4 + fo) nw)))) ∧ L1 = L ∧ ad1 = ad ∧ (∀ x, x < 1000 → g1 x = g x) ∧ RM ty L ad g1 a dn pn en qn mz nw lo (tr + 11)) := by
  intro sz
  refine Met.ofW (cc := cX9_may) (maxL := 3) (ret := (some .int)) (by decide) rfl ?_
  intro p e s m args below meth c s₁ B hml hv
  have hx := B.exec
  have hb := B.bytes
  have hrt := B.returns
  have hts := atoms_spec (ws := wsX9_may) B.pre
  have hown : s.vm.findClass RX9 = some m.cls := findClass_of_methodNamed B.named
  have hlocks := B.notSynchronized
  obtain ⟨rfl, hB⟩ := m_start hv
  generalize va_A (m_w L ad g) sz = A at hB ⊢
  generalize s.heap = H at hB ⊢
  generalize ([] : List Loc) = locs at hB ⊢
  have hl := lv_entry ([.ref (ad 1000), .int (nI b), .int (nI j)]) (n := 3) (Nat.le_of_ble_eq_true rfl)
  rw [lg_entry_eq]
  generalize (lg_sl ([.ref (ad 1000), .int (nI b), .int (nI j)]) ++ List.replicate (3 - (lg_sl ([.ref (ad 1000), .int (nI b), .int (nI j)])).length) Slot.unset).toArray = ls at hl ⊢
  have hl : lv_has ls 3 [(0, .ref (ad 1000)), (1, .int (nI b)), (2, .int (nI j))] := hl
  obtain ⟨hL, h_1000, h_1002, h_1004, h_1005, h_1007, h_1008, h_1009, h_1010, h_1011, h_1012, h_1013, h_1014, h_1015, h_1016, h_1019, h_1020, h_1021, h_1022, h_1024, h_1025, h_1026, h_1027, h_1028, h_1029, h_1030, h_1032⟩ := id hM
  have hj8 : j < 8 := by omega
  refine lv_iload_n hx hb dX9_may_0 rfl (lv_at hl 1 rfl) ?_
  refine m_callSE (As := [.int (nI b)]) (rest := []) (c_M_isBidder_t l D ty L ad _ b hb6) ⟨hx, hb, hml, hown, hts⟩ (va_cwS 1 hts gX9_may_X9_isBidder rfl rfl rfl (by decide +kernel) ⟨Nat.le_of_ble_eq_true rfl, Nat.le_of_ble_eq_true rfl⟩) hB rfl hl.1 rfl (Nat.le_of_ble_eq_true rfl) dX9_may_1 ⟨Nat.le_of_ble_eq_true rfl, Nat.le_of_ble_eq_true rfl⟩ (fun H locs hB => ?_)
  refine b_if_eq_f 15 hx hb dX9_may_4 (by decide) (by decide) ?_
  refine lv_aload_n hx hb dX9_may_7 rfl (lv_at hl 0 rfl) ?_
  refine lv_iload_n hx hb dX9_may_8 rfl (lv_at hl 2 rfl) ?_
  refine m_callVE (ci := 9) (As := [.int (nI j)]) (rest := []) (c_M_isPaper_t l D ty L ad _ a dn pn en qn mz nw lo tr j hM hj9 hpn) ⟨hx, hb, hml, hown, hts⟩ (cwV 1 hts gX9_may_X9_isPaper rfl rfl rfl (by decide +kernel) ⟨Nat.le_of_ble_eq_true rfl, Nat.le_of_ble_eq_true rfl⟩) hB (hL 1000 (by decide)) h_1000 rfl rfl hl.1 rfl (Nat.le_of_ble_eq_true rfl) dX9_may_9 ⟨Nat.le_of_ble_eq_true rfl, Nat.le_of_ble_eq_true rfl⟩ (fun H locs hB => ?_)
  refine b_if_ne_t 17 hx hb dX9_may_12 (by decide) (by decide) ?_
  refine lv_aload_n hx hb dX9_may_17 rfl (lv_at hl 0 rfl) ?_
  refine lv_dup hx hb dX9_may_18 rfl ?_
  refine m_get (C := RX9) (T := TX9) (N := 33) (ci := 9) hx hb hts in_X9_may_X9 hown hB (hL 1000 (by decide)) h_1000 rfl 30 (by decide) (hts (.fieldLink RX9 116 "PaperRoomModel" "trace" "J") (by decide +kernel)) (fun _ h9 => h9) rfl dX9_may_19 ?_
  refine lv_aload_n hx hb dX9_may_22 rfl (lv_at hl 0 rfl) ?_
  refine m_get (C := RX9) (T := TX9) (N := 33) (ci := 9) hx hb hts in_X9_may_X9 hown hB (hL 1000 (by decide)) h_1000 rfl 6 (by decide) (hts (.fieldLink RX9 19 "PaperRoomModel" "kind" "[I") (by decide +kernel)) (fun _ h9 => h9) rfl dX9_may_23 ?_
  refine lv_iload_n hx hb dX9_may_26 rfl (lv_at hl 2 rfl) ?_
  refine n_iald hx hb hB (hL 1007 (by decide)) h_1007 j rfl (by omega) (by omega) dX9_may_27 ?_
  refine b_if_ne_t 35 hx hb dX9_may_28 (by decide) (by rw [hkd] <;> decide) ?_
  refine lv_aload_n hx hb dX9_may_35 rfl (lv_at hl 0 rfl) ?_
  refine m_get (C := RX9) (T := TX9) (N := 33) (ci := 9) hx hb hts in_X9_may_X9 hown hB (hL 1000 (by decide)) h_1000 rfl 6 (by decide) (hts (.fieldLink RX9 19 "PaperRoomModel" "kind" "[I") (by decide +kernel)) (fun _ h9 => h9) rfl dX9_may_36 ?_
  refine lv_iload_n hx hb dX9_may_39 rfl (lv_at hl 2 rfl) ?_
  refine n_iald hx hb hB (hL 1007 (by decide)) h_1007 j rfl (by omega) (by omega) dX9_may_40 ?_
  refine lv_iconst (v := 1) hx hb dX9_may_41 (by decide) ?_
  refine b_icmp_ne_f 51 hx hb dX9_may_42 (by decide) (by rw [hkd] <;> decide) ?_
  refine lv_ldc2 hx hb hown (hts (.constantLong RX9 120 (11)) (by decide +kernel)) dX9_may_45 ?_
  refine lv_goto (tgt := 54) hx hb dX9_may_48 (by decide) ?_
  refine lv_ladd hx hb dX9_may_54 ?_
  refine m_put (C := RX9) (T := TX9) (N := 33) (ci := 9) (v := .long (tr + 11)) (ft := .long) hx hb hts in_X9_may_X9 tyX9 tyX9_ok nmX9 hown hB (hL 1000 (by decide)) h_1000 rfl 30 (by decide) (hts (.fieldLink RX9 116 "PaperRoomModel" "trace" "J") (by decide +kernel)) (fun _ h9 => h9) rfl (by decide +kernel) rfl rfl (Nat.le_of_ble_eq_true rfl) dX9_may_55 (fun H locs hB => ?_)
  replace hB : m_B D ty A s L ad (va_up g 1000 (.inr (9, [.int (nI dn), .ref (ad 1002), .int nw, .ref (ad 1004), .ref (ad 1005), .int (nI pn), .ref (ad 1007), .ref (ad 1008), .ref (ad 1009), .ref (ad 1010), .ref (ad 1011), .ref (ad 1012), .ref (ad 1013), .ref (ad 1014), .ref (ad 1015), .ref (ad 1016), .int (nI en), .int lo, .ref (ad 1019), .ref (ad 1020), .ref (ad 1021), .ref (ad 1022), .int (nI qn), .ref (ad 1024), .ref (ad 1025), .ref (ad 1026), .ref (ad 1027), .ref (ad 1028), .ref (ad 1029), .ref (ad 1030), .long (tr + 11), .ref (ad 1032), .int (nI mz)]))) H locs := hB
  refine lv_aload_n hx hb dX9_may_58 rfl (lv_at hl 0 rfl) ?_
  refine lv_iload_n hx hb dX9_may_59 rfl (lv_at hl 1 rfl) ?_
  refine lv_iload_n hx hb dX9_may_60 rfl (lv_at hl 2 rfl) ?_
  rcases bool2 (seeB (a 6 j) (a 9 j) (a 8 j) (a 3) (a 4) (b % 3 * 4 + fo) nw) with hs | hs
  · skip
    refine m_callVE (ci := 9) (As := [.int (nI b), .int (nI j)]) (rest := []) (c_M_sees l D ty L ad _ a dn pn en qn mz nw lo _ b j fo ⟨hL, (va_up_self _ _ _), ((va_up_ne _ _ (by decide)).trans h_1002), ((va_up_ne _ _ (by decide)).trans h_1004), ((va_up_ne _ _ (by decide)).trans h_1005), ((va_up_ne _ _ (by decide)).trans h_1007), ((va_up_ne _ _ (by decide)).trans h_1008), ((va_up_ne _ _ (by decide)).trans h_1009), ((va_up_ne _ _ (by decide)).trans h_1010), ((va_up_ne _ _ (by decide)).trans h_1011), ((va_up_ne _ _ (by decide)).trans h_1012), ((va_up_ne _ _ (by decide)).trans h_1013), ((va_up_ne _ _ (by decide)).trans h_1014), ((va_up_ne _ _ (by decide)).trans h_1015), ((va_up_ne _ _ (by decide)).trans h_1016), ((va_up_ne _ _ (by decide)).trans h_1019), ((va_up_ne _ _ (by decide)).trans h_1020), ((va_up_ne _ _ (by decide)).trans h_1021), ((va_up_ne _ _ (by decide)).trans h_1022), ((va_up_ne _ _ (by decide)).trans h_1024), ((va_up_ne _ _ (by decide)).trans h_1025), ((va_up_ne _ _ (by decide)).trans h_1026), ((va_up_ne _ _ (by decide)).trans h_1027), ((va_up_ne _ _ (by decide)).trans h_1028), ((va_up_ne _ _ (by decide)).trans h_1029), ((va_up_ne _ _ (by decide)).trans h_1030), ((va_up_ne _ _ (by decide)).trans h_1032)⟩ hb6 (by omega) hfo hfo4 hw) ⟨hx, hb, hml, hown, hts⟩ (cwV 2 hts gX9_may_X9_sees rfl rfl rfl (by decide +kernel) ⟨Nat.le_of_ble_eq_true rfl, Nat.le_of_ble_eq_true rfl⟩) hB (hL 1000 (by decide)) (va_up_self _ _ _) rfl rfl hl.1 rfl (Nat.le_of_ble_eq_true rfl) dX9_may_61 ⟨Nat.le_of_ble_eq_true rfl, Nat.le_of_ble_eq_true rfl⟩ (fun H locs hB => ?_)
    refine b_if_eq_f 71 hx hb dX9_may_64 (by decide) (by rw [hs]; decide) ?_
    refine lv_iconst (v := 1) hx hb dX9_may_67 (by decide) ?_
    refine lv_goto (tgt := 72) hx hb dX9_may_68 (by decide) ?_
    exact m_iret hx hb hrt hlocks hB (Nat.le_refl _) (Nat.le_refl _) dX9_may_72 ⟨(zt hs), rfl, rfl, (fun x hx => ((va_up_ne _ _ (by omega)).trans rfl)), ⟨hL, (va_up_self _ _ _), ((va_up_ne _ _ (by decide)).trans h_1002), ((va_up_ne _ _ (by decide)).trans h_1004), ((va_up_ne _ _ (by decide)).trans h_1005), ((va_up_ne _ _ (by decide)).trans h_1007), ((va_up_ne _ _ (by decide)).trans h_1008), ((va_up_ne _ _ (by decide)).trans h_1009), ((va_up_ne _ _ (by decide)).trans h_1010), ((va_up_ne _ _ (by decide)).trans h_1011), ((va_up_ne _ _ (by decide)).trans h_1012), ((va_up_ne _ _ (by decide)).trans h_1013), ((va_up_ne _ _ (by decide)).trans h_1014), ((va_up_ne _ _ (by decide)).trans h_1015), ((va_up_ne _ _ (by decide)).trans h_1016), ((va_up_ne _ _ (by decide)).trans h_1019), ((va_up_ne _ _ (by decide)).trans h_1020), ((va_up_ne _ _ (by decide)).trans h_1021), ((va_up_ne _ _ (by decide)).trans h_1022), ((va_up_ne _ _ (by decide)).trans h_1024), ((va_up_ne _ _ (by decide)).trans h_1025), ((va_up_ne _ _ (by decide)).trans h_1026), ((va_up_ne _ _ (by decide)).trans h_1027), ((va_up_ne _ _ (by decide)).trans h_1028), ((va_up_ne _ _ (by decide)).trans h_1029), ((va_up_ne _ _ (by decide)).trans h_1030), ((va_up_ne _ _ (by decide)).trans h_1032)⟩⟩
  · skip
    refine m_callVE (ci := 9) (As := [.int (nI b), .int (nI j)]) (rest := []) (c_M_sees l D ty L ad _ a dn pn en qn mz nw lo _ b j fo ⟨hL, (va_up_self _ _ _), ((va_up_ne _ _ (by decide)).trans h_1002), ((va_up_ne _ _ (by decide)).trans h_1004), ((va_up_ne _ _ (by decide)).trans h_1005), ((va_up_ne _ _ (by decide)).trans h_1007), ((va_up_ne _ _ (by decide)).trans h_1008), ((va_up_ne _ _ (by decide)).trans h_1009), ((va_up_ne _ _ (by decide)).trans h_1010), ((va_up_ne _ _ (by decide)).trans h_1011), ((va_up_ne _ _ (by decide)).trans h_1012), ((va_up_ne _ _ (by decide)).trans h_1013), ((va_up_ne _ _ (by decide)).trans h_1014), ((va_up_ne _ _ (by decide)).trans h_1015), ((va_up_ne _ _ (by decide)).trans h_1016), ((va_up_ne _ _ (by decide)).trans h_1019), ((va_up_ne _ _ (by decide)).trans h_1020), ((va_up_ne _ _ (by decide)).trans h_1021), ((va_up_ne _ _ (by decide)).trans h_1022), ((va_up_ne _ _ (by decide)).trans h_1024), ((va_up_ne _ _ (by decide)).trans h_1025), ((va_up_ne _ _ (by decide)).trans h_1026), ((va_up_ne _ _ (by decide)).trans h_1027), ((va_up_ne _ _ (by decide)).trans h_1028), ((va_up_ne _ _ (by decide)).trans h_1029), ((va_up_ne _ _ (by decide)).trans h_1030), ((va_up_ne _ _ (by decide)).trans h_1032)⟩ hb6 (by omega) hfo hfo4 hw) ⟨hx, hb, hml, hown, hts⟩ (cwV 2 hts gX9_may_X9_sees rfl rfl rfl (by decide +kernel) ⟨Nat.le_of_ble_eq_true rfl, Nat.le_of_ble_eq_true rfl⟩) hB (hL 1000 (by decide)) (va_up_self _ _ _) rfl rfl hl.1 rfl (Nat.le_of_ble_eq_true rfl) dX9_may_61 ⟨Nat.le_of_ble_eq_true rfl, Nat.le_of_ble_eq_true rfl⟩ (fun H locs hB => ?_)
    refine b_if_eq_t 71 hx hb dX9_may_64 (by decide) (by rw [hs]; decide) ?_
    refine lv_iconst (v := 0) hx hb dX9_may_71 (by decide) ?_
    exact m_iret hx hb hrt hlocks hB (Nat.le_refl _) (Nat.le_refl _) dX9_may_72 ⟨(zf hs), rfl, rfl, (fun x hx => ((va_up_ne _ _ (by omega)).trans rfl)), ⟨hL, (va_up_self _ _ _), ((va_up_ne _ _ (by decide)).trans h_1002), ((va_up_ne _ _ (by decide)).trans h_1004), ((va_up_ne _ _ (by decide)).trans h_1005), ((va_up_ne _ _ (by decide)).trans h_1007), ((va_up_ne _ _ (by decide)).trans h_1008), ((va_up_ne _ _ (by decide)).trans h_1009), ((va_up_ne _ _ (by decide)).trans h_1010), ((va_up_ne _ _ (by decide)).trans h_1011), ((va_up_ne _ _ (by decide)).trans h_1012), ((va_up_ne _ _ (by decide)).trans h_1013), ((va_up_ne _ _ (by decide)).trans h_1014), ((va_up_ne _ _ (by decide)).trans h_1015), ((va_up_ne _ _ (by decide)).trans h_1016), ((va_up_ne _ _ (by decide)).trans h_1019), ((va_up_ne _ _ (by decide)).trans h_1020), ((va_up_ne _ _ (by decide)).trans h_1021), ((va_up_ne _ _ (by decide)).trans h_1022), ((va_up_ne _ _ (by decide)).trans h_1024), ((va_up_ne _ _ (by decide)).trans h_1025), ((va_up_ne _ _ (by decide)).trans h_1026), ((va_up_ne _ _ (by decide)).trans h_1027), ((va_up_ne _ _ (by decide)).trans h_1028), ((va_up_ne _ _ (by decide)).trans h_1029), ((va_up_ne _ _ (by decide)).trans h_1030), ((va_up_ne _ _ (by decide)).trans h_1032)⟩⟩
set_option maxHeartbeats 1000000 in
set_option maxRecDepth 100000 in
theorem c_M_may_2 (l : Launch) (D : va_G) (ty : Nat → ClassId) (L : List Nat) (ad : Nat → Nat) (g : Nat → va_E) (a : Nat → Nat → Int32) (dn pn en qn mz : Nat) (nw lo : Int32) (tr : Int64) (b j fo : Nat) (hM : RM ty L ad g a dn pn en qn mz nw lo tr) (hj9 : j < pn) (hpn : pn ≤ 8) (hb6 : b < 6) (hfo : a 7 j = nI fo) (hfo4 : fo < 4) (hw : a 9 j = 0 ∨ a 9 j = 1) (hkd : a 6 j = 2) : m_C l yX9_may wsX9_may 2 43 0 0 D ty [.ref (ad 1000), .int (nI b), .int (nI j)] L ad g (fun v1 L1 ad1 g1 => v1 = (some (.int (zb (seeB (a 6 j) (a 9 j) (a 8 j) (a 3) (a 4) (b % 3 * 4 + fo) nw)))) ∧ L1 = L ∧ ad1 = ad ∧ (∀ x, x < 1000 → g1 x = g x) ∧ RM ty L ad g1 a dn pn en qn mz nw lo (tr + 101)) := by
  intro sz
  refine Met.ofW (cc := cX9_may) (maxL := 3) (ret := (some .int)) (by decide) rfl ?_
  intro p e s m args below meth c s₁ B hml hv
  have hx := B.exec
  have hb := B.bytes
  have hrt := B.returns
  have hts := atoms_spec (ws := wsX9_may) B.pre
  have hown : s.vm.findClass RX9 = some m.cls := findClass_of_methodNamed B.named
  have hlocks := B.notSynchronized
  obtain ⟨rfl, hB⟩ := m_start hv
  generalize va_A (m_w L ad g) sz = A at hB ⊢
  generalize s.heap = H at hB ⊢
  generalize ([] : List Loc) = locs at hB ⊢
  have hl := lv_entry ([.ref (ad 1000), .int (nI b), .int (nI j)]) (n := 3) (Nat.le_of_ble_eq_true rfl)
  rw [lg_entry_eq]
  generalize (lg_sl ([.ref (ad 1000), .int (nI b), .int (nI j)]) ++ List.replicate (3 - (lg_sl ([.ref (ad 1000), .int (nI b), .int (nI j)])).length) Slot.unset).toArray = ls at hl ⊢
  have hl : lv_has ls 3 [(0, .ref (ad 1000)), (1, .int (nI b)), (2, .int (nI j))] := hl
  obtain ⟨hL, h_1000, h_1002, h_1004, h_1005, h_1007, h_1008, h_1009, h_1010, h_1011, h_1012, h_1013, h_1014, h_1015, h_1016, h_1019, h_1020, h_1021, h_1022, h_1024, h_1025, h_1026, h_1027, h_1028, h_1029, h_1030, h_1032⟩ := id hM
  have hj8 : j < 8 := by omega
  refine lv_iload_n hx hb dX9_may_0 rfl (lv_at hl 1 rfl) ?_
  refine m_callSE (As := [.int (nI b)]) (rest := []) (c_M_isBidder_t l D ty L ad _ b hb6) ⟨hx, hb, hml, hown, hts⟩ (va_cwS 1 hts gX9_may_X9_isBidder rfl rfl rfl (by decide +kernel) ⟨Nat.le_of_ble_eq_true rfl, Nat.le_of_ble_eq_true rfl⟩) hB rfl hl.1 rfl (Nat.le_of_ble_eq_true rfl) dX9_may_1 ⟨Nat.le_of_ble_eq_true rfl, Nat.le_of_ble_eq_true rfl⟩ (fun H locs hB => ?_)
  refine b_if_eq_f 15 hx hb dX9_may_4 (by decide) (by decide) ?_
  refine lv_aload_n hx hb dX9_may_7 rfl (lv_at hl 0 rfl) ?_
  refine lv_iload_n hx hb dX9_may_8 rfl (lv_at hl 2 rfl) ?_
  refine m_callVE (ci := 9) (As := [.int (nI j)]) (rest := []) (c_M_isPaper_t l D ty L ad _ a dn pn en qn mz nw lo tr j hM hj9 hpn) ⟨hx, hb, hml, hown, hts⟩ (cwV 1 hts gX9_may_X9_isPaper rfl rfl rfl (by decide +kernel) ⟨Nat.le_of_ble_eq_true rfl, Nat.le_of_ble_eq_true rfl⟩) hB (hL 1000 (by decide)) h_1000 rfl rfl hl.1 rfl (Nat.le_of_ble_eq_true rfl) dX9_may_9 ⟨Nat.le_of_ble_eq_true rfl, Nat.le_of_ble_eq_true rfl⟩ (fun H locs hB => ?_)
  refine b_if_ne_t 17 hx hb dX9_may_12 (by decide) (by decide) ?_
  refine lv_aload_n hx hb dX9_may_17 rfl (lv_at hl 0 rfl) ?_
  refine lv_dup hx hb dX9_may_18 rfl ?_
  refine m_get (C := RX9) (T := TX9) (N := 33) (ci := 9) hx hb hts in_X9_may_X9 hown hB (hL 1000 (by decide)) h_1000 rfl 30 (by decide) (hts (.fieldLink RX9 116 "PaperRoomModel" "trace" "J") (by decide +kernel)) (fun _ h9 => h9) rfl dX9_may_19 ?_
  refine lv_aload_n hx hb dX9_may_22 rfl (lv_at hl 0 rfl) ?_
  refine m_get (C := RX9) (T := TX9) (N := 33) (ci := 9) hx hb hts in_X9_may_X9 hown hB (hL 1000 (by decide)) h_1000 rfl 6 (by decide) (hts (.fieldLink RX9 19 "PaperRoomModel" "kind" "[I") (by decide +kernel)) (fun _ h9 => h9) rfl dX9_may_23 ?_
  refine lv_iload_n hx hb dX9_may_26 rfl (lv_at hl 2 rfl) ?_
  refine n_iald hx hb hB (hL 1007 (by decide)) h_1007 j rfl (by omega) (by omega) dX9_may_27 ?_
  refine b_if_ne_t 35 hx hb dX9_may_28 (by decide) (by rw [hkd] <;> decide) ?_
  refine lv_aload_n hx hb dX9_may_35 rfl (lv_at hl 0 rfl) ?_
  refine m_get (C := RX9) (T := TX9) (N := 33) (ci := 9) hx hb hts in_X9_may_X9 hown hB (hL 1000 (by decide)) h_1000 rfl 6 (by decide) (hts (.fieldLink RX9 19 "PaperRoomModel" "kind" "[I") (by decide +kernel)) (fun _ h9 => h9) rfl dX9_may_36 ?_
  refine lv_iload_n hx hb dX9_may_39 rfl (lv_at hl 2 rfl) ?_
  refine n_iald hx hb hB (hL 1007 (by decide)) h_1007 j rfl (by omega) (by omega) dX9_may_40 ?_
  refine lv_iconst (v := 1) hx hb dX9_may_41 (by decide) ?_
  refine b_icmp_ne_t 51 hx hb dX9_may_42 (by decide) (by rw [hkd] <;> decide) ?_
  refine lv_ldc2 hx hb hown (hts (.constantLong RX9 122 (101)) (by decide +kernel)) dX9_may_51 ?_
  refine lv_ladd hx hb dX9_may_54 ?_
  refine m_put (C := RX9) (T := TX9) (N := 33) (ci := 9) (v := .long (tr + 101)) (ft := .long) hx hb hts in_X9_may_X9 tyX9 tyX9_ok nmX9 hown hB (hL 1000 (by decide)) h_1000 rfl 30 (by decide) (hts (.fieldLink RX9 116 "PaperRoomModel" "trace" "J") (by decide +kernel)) (fun _ h9 => h9) rfl (by decide +kernel) rfl rfl (Nat.le_of_ble_eq_true rfl) dX9_may_55 (fun H locs hB => ?_)
  replace hB : m_B D ty A s L ad (va_up g 1000 (.inr (9, [.int (nI dn), .ref (ad 1002), .int nw, .ref (ad 1004), .ref (ad 1005), .int (nI pn), .ref (ad 1007), .ref (ad 1008), .ref (ad 1009), .ref (ad 1010), .ref (ad 1011), .ref (ad 1012), .ref (ad 1013), .ref (ad 1014), .ref (ad 1015), .ref (ad 1016), .int (nI en), .int lo, .ref (ad 1019), .ref (ad 1020), .ref (ad 1021), .ref (ad 1022), .int (nI qn), .ref (ad 1024), .ref (ad 1025), .ref (ad 1026), .ref (ad 1027), .ref (ad 1028), .ref (ad 1029), .ref (ad 1030), .long (tr + 101), .ref (ad 1032), .int (nI mz)]))) H locs := hB
  refine lv_aload_n hx hb dX9_may_58 rfl (lv_at hl 0 rfl) ?_
  refine lv_iload_n hx hb dX9_may_59 rfl (lv_at hl 1 rfl) ?_
  refine lv_iload_n hx hb dX9_may_60 rfl (lv_at hl 2 rfl) ?_
  rcases bool2 (seeB (a 6 j) (a 9 j) (a 8 j) (a 3) (a 4) (b % 3 * 4 + fo) nw) with hs | hs
  · skip
    refine m_callVE (ci := 9) (As := [.int (nI b), .int (nI j)]) (rest := []) (c_M_sees l D ty L ad _ a dn pn en qn mz nw lo _ b j fo ⟨hL, (va_up_self _ _ _), ((va_up_ne _ _ (by decide)).trans h_1002), ((va_up_ne _ _ (by decide)).trans h_1004), ((va_up_ne _ _ (by decide)).trans h_1005), ((va_up_ne _ _ (by decide)).trans h_1007), ((va_up_ne _ _ (by decide)).trans h_1008), ((va_up_ne _ _ (by decide)).trans h_1009), ((va_up_ne _ _ (by decide)).trans h_1010), ((va_up_ne _ _ (by decide)).trans h_1011), ((va_up_ne _ _ (by decide)).trans h_1012), ((va_up_ne _ _ (by decide)).trans h_1013), ((va_up_ne _ _ (by decide)).trans h_1014), ((va_up_ne _ _ (by decide)).trans h_1015), ((va_up_ne _ _ (by decide)).trans h_1016), ((va_up_ne _ _ (by decide)).trans h_1019), ((va_up_ne _ _ (by decide)).trans h_1020), ((va_up_ne _ _ (by decide)).trans h_1021), ((va_up_ne _ _ (by decide)).trans h_1022), ((va_up_ne _ _ (by decide)).trans h_1024), ((va_up_ne _ _ (by decide)).trans h_1025), ((va_up_ne _ _ (by decide)).trans h_1026), ((va_up_ne _ _ (by decide)).trans h_1027), ((va_up_ne _ _ (by decide)).trans h_1028), ((va_up_ne _ _ (by decide)).trans h_1029), ((va_up_ne _ _ (by decide)).trans h_1030), ((va_up_ne _ _ (by decide)).trans h_1032)⟩ hb6 (by omega) hfo hfo4 hw) ⟨hx, hb, hml, hown, hts⟩ (cwV 2 hts gX9_may_X9_sees rfl rfl rfl (by decide +kernel) ⟨Nat.le_of_ble_eq_true rfl, Nat.le_of_ble_eq_true rfl⟩) hB (hL 1000 (by decide)) (va_up_self _ _ _) rfl rfl hl.1 rfl (Nat.le_of_ble_eq_true rfl) dX9_may_61 ⟨Nat.le_of_ble_eq_true rfl, Nat.le_of_ble_eq_true rfl⟩ (fun H locs hB => ?_)
    refine b_if_eq_f 71 hx hb dX9_may_64 (by decide) (by rw [hs]; decide) ?_
    refine lv_iconst (v := 1) hx hb dX9_may_67 (by decide) ?_
    refine lv_goto (tgt := 72) hx hb dX9_may_68 (by decide) ?_
    exact m_iret hx hb hrt hlocks hB (Nat.le_refl _) (Nat.le_refl _) dX9_may_72 ⟨(zt hs), rfl, rfl, (fun x hx => ((va_up_ne _ _ (by omega)).trans rfl)), ⟨hL, (va_up_self _ _ _), ((va_up_ne _ _ (by decide)).trans h_1002), ((va_up_ne _ _ (by decide)).trans h_1004), ((va_up_ne _ _ (by decide)).trans h_1005), ((va_up_ne _ _ (by decide)).trans h_1007), ((va_up_ne _ _ (by decide)).trans h_1008), ((va_up_ne _ _ (by decide)).trans h_1009), ((va_up_ne _ _ (by decide)).trans h_1010), ((va_up_ne _ _ (by decide)).trans h_1011), ((va_up_ne _ _ (by decide)).trans h_1012), ((va_up_ne _ _ (by decide)).trans h_1013), ((va_up_ne _ _ (by decide)).trans h_1014), ((va_up_ne _ _ (by decide)).trans h_1015), ((va_up_ne _ _ (by decide)).trans h_1016), ((va_up_ne _ _ (by decide)).trans h_1019), ((va_up_ne _ _ (by decide)).trans h_1020), ((va_up_ne _ _ (by decide)).trans h_1021), ((va_up_ne _ _ (by decide)).trans h_1022), ((va_up_ne _ _ (by decide)).trans h_1024), ((va_up_ne _ _ (by decide)).trans h_1025), ((va_up_ne _ _ (by decide)).trans h_1026), ((va_up_ne _ _ (by decide)).trans h_1027), ((va_up_ne _ _ (by decide)).trans h_1028), ((va_up_ne _ _ (by decide)).trans h_1029), ((va_up_ne _ _ (by decide)).trans h_1030), ((va_up_ne _ _ (by decide)).trans h_1032)⟩⟩
  · skip
    refine m_callVE (ci := 9) (As := [.int (nI b), .int (nI j)]) (rest := []) (c_M_sees l D ty L ad _ a dn pn en qn mz nw lo _ b j fo ⟨hL, (va_up_self _ _ _), ((va_up_ne _ _ (by decide)).trans h_1002), ((va_up_ne _ _ (by decide)).trans h_1004), ((va_up_ne _ _ (by decide)).trans h_1005), ((va_up_ne _ _ (by decide)).trans h_1007), ((va_up_ne _ _ (by decide)).trans h_1008), ((va_up_ne _ _ (by decide)).trans h_1009), ((va_up_ne _ _ (by decide)).trans h_1010), ((va_up_ne _ _ (by decide)).trans h_1011), ((va_up_ne _ _ (by decide)).trans h_1012), ((va_up_ne _ _ (by decide)).trans h_1013), ((va_up_ne _ _ (by decide)).trans h_1014), ((va_up_ne _ _ (by decide)).trans h_1015), ((va_up_ne _ _ (by decide)).trans h_1016), ((va_up_ne _ _ (by decide)).trans h_1019), ((va_up_ne _ _ (by decide)).trans h_1020), ((va_up_ne _ _ (by decide)).trans h_1021), ((va_up_ne _ _ (by decide)).trans h_1022), ((va_up_ne _ _ (by decide)).trans h_1024), ((va_up_ne _ _ (by decide)).trans h_1025), ((va_up_ne _ _ (by decide)).trans h_1026), ((va_up_ne _ _ (by decide)).trans h_1027), ((va_up_ne _ _ (by decide)).trans h_1028), ((va_up_ne _ _ (by decide)).trans h_1029), ((va_up_ne _ _ (by decide)).trans h_1030), ((va_up_ne _ _ (by decide)).trans h_1032)⟩ hb6 (by omega) hfo hfo4 hw) ⟨hx, hb, hml, hown, hts⟩ (cwV 2 hts gX9_may_X9_sees rfl rfl rfl (by decide +kernel) ⟨Nat.le_of_ble_eq_true rfl, Nat.le_of_ble_eq_true rfl⟩) hB (hL 1000 (by decide)) (va_up_self _ _ _) rfl rfl hl.1 rfl (Nat.le_of_ble_eq_true rfl) dX9_may_61 ⟨Nat.le_of_ble_eq_true rfl, Nat.le_of_ble_eq_true rfl⟩ (fun H locs hB => ?_)
    refine b_if_eq_t 71 hx hb dX9_may_64 (by decide) (by rw [hs]; decide) ?_
    refine lv_iconst (v := 0) hx hb dX9_may_71 (by decide) ?_
    exact m_iret hx hb hrt hlocks hB (Nat.le_refl _) (Nat.le_refl _) dX9_may_72 ⟨(zf hs), rfl, rfl, (fun x hx => ((va_up_ne _ _ (by omega)).trans rfl)), ⟨hL, (va_up_self _ _ _), ((va_up_ne _ _ (by decide)).trans h_1002), ((va_up_ne _ _ (by decide)).trans h_1004), ((va_up_ne _ _ (by decide)).trans h_1005), ((va_up_ne _ _ (by decide)).trans h_1007), ((va_up_ne _ _ (by decide)).trans h_1008), ((va_up_ne _ _ (by decide)).trans h_1009), ((va_up_ne _ _ (by decide)).trans h_1010), ((va_up_ne _ _ (by decide)).trans h_1011), ((va_up_ne _ _ (by decide)).trans h_1012), ((va_up_ne _ _ (by decide)).trans h_1013), ((va_up_ne _ _ (by decide)).trans h_1014), ((va_up_ne _ _ (by decide)).trans h_1015), ((va_up_ne _ _ (by decide)).trans h_1016), ((va_up_ne _ _ (by decide)).trans h_1019), ((va_up_ne _ _ (by decide)).trans h_1020), ((va_up_ne _ _ (by decide)).trans h_1021), ((va_up_ne _ _ (by decide)).trans h_1022), ((va_up_ne _ _ (by decide)).trans h_1024), ((va_up_ne _ _ (by decide)).trans h_1025), ((va_up_ne _ _ (by decide)).trans h_1026), ((va_up_ne _ _ (by decide)).trans h_1027), ((va_up_ne _ _ (by decide)).trans h_1028), ((va_up_ne _ _ (by decide)).trans h_1029), ((va_up_ne _ _ (by decide)).trans h_1030), ((va_up_ne _ _ (by decide)).trans h_1032)⟩⟩
set_option maxHeartbeats 1000000 in
set_option maxRecDepth 100000 in
theorem c_M_may_b1 (l : Launch) (D : va_G) (ty : Nat → ClassId) (L : List Nat) (ad : Nat → Nat) (g : Nat → va_E) (a : Nat → Nat → Int32) (dn pn en qn mz : Nat) (nw lo : Int32) (tr : Int64) (i w : Int32) (hM : RM ty L ad g a dn pn en qn mz nw lo tr) (hi : ¬ (0 ≤ i.toInt ∧ i.toInt < 6)) : m_E l yX9_may wsX9_may 2 43 D ty [.ref (ad 1000), .int i, .int w] L ad g (some (.int (-1))) g := by
  intro sz
  refine Met.ofW (cc := cX9_may) (maxL := 3) (ret := (some .int)) (by decide) rfl ?_
  intro p e s m args below meth c s₁ B hml hv
  have hx := B.exec
  have hb := B.bytes
  have hrt := B.returns
  have hts := atoms_spec (ws := wsX9_may) B.pre
  have hown : s.vm.findClass RX9 = some m.cls := findClass_of_methodNamed B.named
  have hlocks := B.notSynchronized
  obtain ⟨rfl, hB⟩ := m_start hv
  generalize va_A (m_w L ad g) sz = A at hB ⊢
  generalize s.heap = H at hB ⊢
  generalize ([] : List Loc) = locs at hB ⊢
  have hl := lv_entry ([.ref (ad 1000), .int i, .int w]) (n := 3) (Nat.le_of_ble_eq_true rfl)
  rw [lg_entry_eq]
  generalize (lg_sl ([.ref (ad 1000), .int i, .int w]) ++ List.replicate (3 - (lg_sl ([.ref (ad 1000), .int i, .int w])).length) Slot.unset).toArray = ls at hl ⊢
  have hl : lv_has ls 3 [(0, .ref (ad 1000)), (1, .int i), (2, .int w)] := hl
  obtain ⟨hL, h_1000, h_1002, h_1004, h_1005, h_1007, h_1008, h_1009, h_1010, h_1011, h_1012, h_1013, h_1014, h_1015, h_1016, h_1019, h_1020, h_1021, h_1022, h_1024, h_1025, h_1026, h_1027, h_1028, h_1029, h_1030, h_1032⟩ := id hM
  refine lv_iload_n hx hb dX9_may_0 rfl (lv_at hl 1 rfl) ?_
  refine m_callSE (As := [.int i]) (rest := []) (c_M_isBidder_f l D ty L ad _ _ hi) ⟨hx, hb, hml, hown, hts⟩ (va_cwS 1 hts gX9_may_X9_isBidder rfl rfl rfl (by decide +kernel) ⟨Nat.le_of_ble_eq_true rfl, Nat.le_of_ble_eq_true rfl⟩) hB rfl hl.1 rfl (Nat.le_of_ble_eq_true rfl) dX9_may_1 ⟨Nat.le_of_ble_eq_true rfl, Nat.le_of_ble_eq_true rfl⟩ (fun H locs hB => ?_)
  refine b_if_eq_t 15 hx hb dX9_may_4 (by decide) (by decide) ?_
  refine lv_iconst (v := (-1)) hx hb dX9_may_15 (by decide) ?_
  exact m_iret hx hb hrt hlocks hB (Nat.le_refl _) (Nat.le_refl _) dX9_may_16 ⟨rfl, rfl, rfl, rfl⟩
set_option maxHeartbeats 1000000 in
set_option maxRecDepth 100000 in
theorem c_M_may_b2 (l : Launch) (D : va_G) (ty : Nat → ClassId) (L : List Nat) (ad : Nat → Nat) (g : Nat → va_E) (a : Nat → Nat → Int32) (dn pn en qn mz : Nat) (nw lo : Int32) (tr : Int64) (b : Nat) (i : Int32) (hM : RM ty L ad g a dn pn en qn mz nw lo tr) (hb6 : b < 6) (hi : ¬ (0 ≤ i.toInt ∧ i.toInt < pn)) (hpn : pn ≤ 8) : m_E l yX9_may wsX9_may 2 43 D ty [.ref (ad 1000), .int (nI b), .int i] L ad g (some (.int (-1))) g := by
  intro sz
  refine Met.ofW (cc := cX9_may) (maxL := 3) (ret := (some .int)) (by decide) rfl ?_
  intro p e s m args below meth c s₁ B hml hv
  have hx := B.exec
  have hb := B.bytes
  have hrt := B.returns
  have hts := atoms_spec (ws := wsX9_may) B.pre
  have hown : s.vm.findClass RX9 = some m.cls := findClass_of_methodNamed B.named
  have hlocks := B.notSynchronized
  obtain ⟨rfl, hB⟩ := m_start hv
  generalize va_A (m_w L ad g) sz = A at hB ⊢
  generalize s.heap = H at hB ⊢
  generalize ([] : List Loc) = locs at hB ⊢
  have hl := lv_entry ([.ref (ad 1000), .int (nI b), .int i]) (n := 3) (Nat.le_of_ble_eq_true rfl)
  rw [lg_entry_eq]
  generalize (lg_sl ([.ref (ad 1000), .int (nI b), .int i]) ++ List.replicate (3 - (lg_sl ([.ref (ad 1000), .int (nI b), .int i])).length) Slot.unset).toArray = ls at hl ⊢
  have hl : lv_has ls 3 [(0, .ref (ad 1000)), (1, .int (nI b)), (2, .int i)] := hl
  obtain ⟨hL, h_1000, h_1002, h_1004, h_1005, h_1007, h_1008, h_1009, h_1010, h_1011, h_1012, h_1013, h_1014, h_1015, h_1016, h_1019, h_1020, h_1021, h_1022, h_1024, h_1025, h_1026, h_1027, h_1028, h_1029, h_1030, h_1032⟩ := id hM
  refine lv_iload_n hx hb dX9_may_0 rfl (lv_at hl 1 rfl) ?_
  refine m_callSE (As := [.int (nI b)]) (rest := []) (c_M_isBidder_t l D ty L ad _ b hb6) ⟨hx, hb, hml, hown, hts⟩ (va_cwS 1 hts gX9_may_X9_isBidder rfl rfl rfl (by decide +kernel) ⟨Nat.le_of_ble_eq_true rfl, Nat.le_of_ble_eq_true rfl⟩) hB rfl hl.1 rfl (Nat.le_of_ble_eq_true rfl) dX9_may_1 ⟨Nat.le_of_ble_eq_true rfl, Nat.le_of_ble_eq_true rfl⟩ (fun H locs hB => ?_)
  refine b_if_eq_f 15 hx hb dX9_may_4 (by decide) (by decide) ?_
  refine lv_aload_n hx hb dX9_may_7 rfl (lv_at hl 0 rfl) ?_
  refine lv_iload_n hx hb dX9_may_8 rfl (lv_at hl 2 rfl) ?_
  refine m_callVE (ci := 9) (As := [.int i]) (rest := []) (c_M_isPaper_f l D ty L ad _ a dn pn en qn mz nw lo tr _ hM hi hpn) ⟨hx, hb, hml, hown, hts⟩ (cwV 1 hts gX9_may_X9_isPaper rfl rfl rfl (by decide +kernel) ⟨Nat.le_of_ble_eq_true rfl, Nat.le_of_ble_eq_true rfl⟩) hB (hL 1000 (by decide)) h_1000 rfl rfl hl.1 rfl (Nat.le_of_ble_eq_true rfl) dX9_may_9 ⟨Nat.le_of_ble_eq_true rfl, Nat.le_of_ble_eq_true rfl⟩ (fun H locs hB => ?_)
  refine b_if_ne_f 17 hx hb dX9_may_12 (by decide) (by decide) ?_
  refine lv_iconst (v := (-1)) hx hb dX9_may_15 (by decide) ?_
  exact m_iret hx hb hrt hlocks hB (Nat.le_refl _) (Nat.le_refl _) dX9_may_16 ⟨rfl, rfl, rfl, rfl⟩
