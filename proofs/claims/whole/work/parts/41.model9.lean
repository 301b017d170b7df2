set_option maxHeartbeats 1000000 in
set_option maxRecDepth 100000 in
theorem c_M_named_p (l : Launch) (D : va_G) (ty : Nat → ClassId) (L : List Nat) (ad : Nat → Nat) (g : Nat → va_E) (a : Nat → Nat → Int32) (dn pn en qn mz : Nat) (nw lo : Int32) (tr : Int64) (i v : Int32) (hM : RM ty L ad g a dn pn en qn mz nw lo tr) (hi : ¬ (0 ≤ i.toInt ∧ i.toInt < pn)) (hpn : pn ≤ 8) : m_E l yX9_named wsX9_named 3 65 D ty [.ref (ad 1000), .int i, .int v] L ad g (some (.int (-1))) g := by
  intro sz
  refine Met.ofW (cc := cX9_named) (maxL := 7) (ret := (some .int)) (by decide) rfl ?_
  intro p e s m args below meth c s₁ B hml hv
  have hx := B.exec
  have hb := B.bytes
  have hrt := B.returns
  have hts := atoms_spec (ws := wsX9_named) B.pre
  have hown : s.vm.findClass RX9 = some m.cls := findClass_of_methodNamed B.named
  have hlocks := B.notSynchronized
  obtain ⟨rfl, hB⟩ := m_start hv
  generalize va_A (m_w L ad g) sz = A at hB ⊢
  generalize s.heap = H at hB ⊢
  generalize ([] : List Loc) = locs at hB ⊢
  have hl := lv_entry ([.ref (ad 1000), .int i, .int v]) (n := 7) (Nat.le_of_ble_eq_true rfl)
  rw [lg_entry_eq]
  generalize (lg_sl ([.ref (ad 1000), .int i, .int v]) ++ List.replicate (7 - (lg_sl ([.ref (ad 1000), .int i, .int v])).length) Slot.unset).toArray = ls at hl ⊢
  have hl : lv_has ls 7 [(0, .ref (ad 1000)), (1, .int i), (2, .int v)] := hl
  obtain ⟨hL, h_1000, h_1002, h_1004, h_1005, h_1007, h_1008, h_1009, h_1010, h_1011, h_1012, h_1013, h_1014, h_1015, h_1016, h_1019, h_1020, h_1021, h_1022, h_1024, h_1025, h_1026, h_1027, h_1028, h_1029, h_1030, h_1032⟩ := id hM
  refine lv_aload_n hx hb dX9_named_0 rfl (lv_at hl 0 rfl) ?_
  refine lv_iload_n hx hb dX9_named_1 rfl (lv_at hl 1 rfl) ?_
  refine lv_iload_n hx hb dX9_named_2 rfl (lv_at hl 2 rfl) ?_
  refine m_callVE (ci := 9) (As := [.int i, .int v]) (rest := []) (c_M_isVersion_p l D ty L ad _ a dn pn en qn mz nw lo tr _ _ hM hi hpn) ⟨hx, hb, hml, hown, hts⟩ (cwV 2 hts gX9_named_X9_isVersion rfl rfl rfl (by decide +kernel) ⟨Nat.le_of_ble_eq_true rfl, Nat.le_of_ble_eq_true rfl⟩) hB (hL 1000 (by decide)) h_1000 rfl rfl hl.1 rfl (Nat.le_of_ble_eq_true rfl) dX9_named_3 ⟨Nat.le_of_ble_eq_true rfl, Nat.le_of_ble_eq_true rfl⟩ (fun H locs hB => ?_)
  refine b_if_eq_t 19 hx hb dX9_named_6 (by decide) (by decide) ?_
  refine lv_iconst (v := (-1)) hx hb dX9_named_19 (by decide) ?_
  exact m_iret hx hb hrt hlocks hB (Nat.le_refl _) (Nat.le_refl _) dX9_named_20 ⟨rfl, rfl, rfl, rfl⟩
set_option maxHeartbeats 1000000 in
set_option maxRecDepth 100000 in
theorem c_M_named_v (l : Launch) (D : va_G) (ty : Nat → ClassId) (L : List Nat) (ad : Nat → Nat) (g : Nat → va_E) (a : Nat → Nat → Int32) (dn pn en qn mz : Nat) (nw lo : Int32) (tr : Int64) (j vj : Nat) (v : Int32) (hM : RM ty L ad g a dn pn en qn mz nw lo tr) (hj9 : j < pn) (hpn : pn ≤ 8) (hvj : a 10 j = nI vj) (hv4 : vj ≤ 4) (hi : ¬ (0 ≤ v.toInt ∧ v.toInt < vj)) : m_E l yX9_named wsX9_named 3 65 D ty [.ref (ad 1000), .int (nI j), .int v] L ad g (some (.int (-1))) g := by
  intro sz
  refine Met.ofW (cc := cX9_named) (maxL := 7) (ret := (some .int)) (by decide) rfl ?_
  intro p e s m args below meth c s₁ B hml hv
  have hx := B.exec
  have hb := B.bytes
  have hrt := B.returns
  have hts := atoms_spec (ws := wsX9_named) B.pre
  have hown : s.vm.findClass RX9 = some m.cls := findClass_of_methodNamed B.named
  have hlocks := B.notSynchronized
  obtain ⟨rfl, hB⟩ := m_start hv
  generalize va_A (m_w L ad g) sz = A at hB ⊢
  generalize s.heap = H at hB ⊢
  generalize ([] : List Loc) = locs at hB ⊢
  have hl := lv_entry ([.ref (ad 1000), .int (nI j), .int v]) (n := 7) (Nat.le_of_ble_eq_true rfl)
  rw [lg_entry_eq]
  generalize (lg_sl ([.ref (ad 1000), .int (nI j), .int v]) ++ List.replicate (7 - (lg_sl ([.ref (ad 1000), .int (nI j), .int v])).length) Slot.unset).toArray = ls at hl ⊢
  have hl : lv_has ls 7 [(0, .ref (ad 1000)), (1, .int (nI j)), (2, .int v)] := hl
  obtain ⟨hL, h_1000, h_1002, h_1004, h_1005, h_1007, h_1008, h_1009, h_1010, h_1011, h_1012, h_1013, h_1014, h_1015, h_1016, h_1019, h_1020, h_1021, h_1022, h_1024, h_1025, h_1026, h_1027, h_1028, h_1029, h_1030, h_1032⟩ := id hM
  refine lv_aload_n hx hb dX9_named_0 rfl (lv_at hl 0 rfl) ?_
  refine lv_iload_n hx hb dX9_named_1 rfl (lv_at hl 1 rfl) ?_
  refine lv_iload_n hx hb dX9_named_2 rfl (lv_at hl 2 rfl) ?_
  refine m_callVE (ci := 9) (As := [.int (nI j), .int v]) (rest := []) (c_M_isVersion_f l D ty L ad _ a dn pn en qn mz nw lo tr j vj _ hM hj9 hpn hvj hv4 hi) ⟨hx, hb, hml, hown, hts⟩ (cwV 2 hts gX9_named_X9_isVersion rfl rfl rfl (by decide +kernel) ⟨Nat.le_of_ble_eq_true rfl, Nat.le_of_ble_eq_true rfl⟩) hB (hL 1000 (by decide)) h_1000 rfl rfl hl.1 rfl (Nat.le_of_ble_eq_true rfl) dX9_named_3 ⟨Nat.le_of_ble_eq_true rfl, Nat.le_of_ble_eq_true rfl⟩ (fun H locs hB => ?_)
  refine b_if_eq_t 19 hx hb dX9_named_6 (by decide) (by decide) ?_
  refine lv_iconst (v := (-1)) hx hb dX9_named_19 (by decide) ?_
  exact m_iret hx hb hrt hlocks hB (Nat.le_refl _) (Nat.le_refl _) dX9_named_20 ⟨rfl, rfl, rfl, rfl⟩
set_option maxRecDepth 20000 in
theorem in_X9_named_X9 : ∀ w ∈ wsX90, w ∈ wsX9_named := by decide +kernel
set_option maxHeartbeats 1000000 in
set_option maxRecDepth 100000 in
theorem c_M_named_k (l : Launch) (D : va_G) (ty : Nat → ClassId) (L : List Nat) (ad : Nat → Nat) (g : Nat → va_E) (a : Nat → Nat → Int32) (dn pn en qn mz : Nat) (nw lo : Int32) (tr : Int64) (j k0 vj : Nat) (hM : RM ty L ad g a dn pn en qn mz nw lo tr) (hj9 : j < pn) (hpn : pn ≤ 8) (hvj : a 10 j = nI vj) (hv4 : vj ≤ 4) (hk0 : k0 < vj) (hkd : ¬ a 6 j = 2) : m_E l yX9_named wsX9_named 3 65 D ty [.ref (ad 1000), .int (nI j), .int (nI k0)] L ad g (some (.int (-1))) g := by
  intro sz
  refine Met.ofW (cc := cX9_named) (maxL := 7) (ret := (some .int)) (by decide) rfl ?_
  intro p e s m args below meth c s₁ B hml hv
  have hx := B.exec
  have hb := B.bytes
  have hrt := B.returns
  have hts := atoms_spec (ws := wsX9_named) B.pre
  have hown : s.vm.findClass RX9 = some m.cls := findClass_of_methodNamed B.named
  have hlocks := B.notSynchronized
  obtain ⟨rfl, hB⟩ := m_start hv
  generalize va_A (m_w L ad g) sz = A at hB ⊢
  generalize s.heap = H at hB ⊢
  generalize ([] : List Loc) = locs at hB ⊢
  have hl := lv_entry ([.ref (ad 1000), .int (nI j), .int (nI k0)]) (n := 7) (Nat.le_of_ble_eq_true rfl)
  rw [lg_entry_eq]
  generalize (lg_sl ([.ref (ad 1000), .int (nI j), .int (nI k0)]) ++ List.replicate (7 - (lg_sl ([.ref (ad 1000), .int (nI j), .int (nI k0)])).length) Slot.unset).toArray = ls at hl ⊢
  have hl : lv_has ls 7 [(0, .ref (ad 1000)), (1, .int (nI j)), (2, .int (nI k0))] := hl
  obtain ⟨hL, h_1000, h_1002, h_1004, h_1005, h_1007, h_1008, h_1009, h_1010, h_1011, h_1012, h_1013, h_1014, h_1015, h_1016, h_1019, h_1020, h_1021, h_1022, h_1024, h_1025, h_1026, h_1027, h_1028, h_1029, h_1030, h_1032⟩ := id hM
  refine lv_aload_n hx hb dX9_named_0 rfl (lv_at hl 0 rfl) ?_
  refine lv_iload_n hx hb dX9_named_1 rfl (lv_at hl 1 rfl) ?_
  refine lv_iload_n hx hb dX9_named_2 rfl (lv_at hl 2 rfl) ?_
  refine m_callVE (ci := 9) (As := [.int (nI j), .int (nI k0)]) (rest := []) (c_M_isVersion_t l D ty L ad _ a dn pn en qn mz nw lo tr j k0 vj hM hj9 hpn hvj hv4 hk0) ⟨hx, hb, hml, hown, hts⟩ (cwV 2 hts gX9_named_X9_isVersion rfl rfl rfl (by decide +kernel) ⟨Nat.le_of_ble_eq_true rfl, Nat.le_of_ble_eq_true rfl⟩) hB (hL 1000 (by decide)) h_1000 rfl rfl hl.1 rfl (Nat.le_of_ble_eq_true rfl) dX9_named_3 ⟨Nat.le_of_ble_eq_true rfl, Nat.le_of_ble_eq_true rfl⟩ (fun H locs hB => ?_)
  refine b_if_eq_f 19 hx hb dX9_named_6 (by decide) (by decide) ?_
  refine lv_aload_n hx hb dX9_named_9 rfl (lv_at hl 0 rfl) ?_
  refine m_get (C := RX9) (T := TX9) (N := 33) (ci := 9) hx hb hts in_X9_named_X9 hown hB (hL 1000 (by decide)) h_1000 rfl 6 (by decide) (hts (.fieldLink RX9 19 "PaperRoomModel" "kind" "[I") (by decide +kernel)) (fun _ h9 => h9) rfl dX9_named_10 ?_
  refine lv_iload_n hx hb dX9_named_13 rfl (lv_at hl 1 rfl) ?_
  refine n_iald hx hb hB (hL 1007 (by decide)) h_1007 j rfl (by omega) (by omega) dX9_named_14 ?_
  refine lv_iconst (v := 2) hx hb dX9_named_15 (by decide) ?_
  refine b_icmp_eq_f 21 hx hb dX9_named_16 (by decide) (fun h8 => hkd ((i_eq _ _).mpr h8)) ?_
  refine lv_iconst (v := (-1)) hx hb dX9_named_19 (by decide) ?_
  exact m_iret hx hb hrt hlocks hB (Nat.le_refl _) (Nat.le_refl _) dX9_named_20 ⟨rfl, rfl, rfl, rfl⟩
set_option maxHeartbeats 1000000 in
set_option maxRecDepth 100000 in
theorem c_M_named_state (l : Launch) (D : va_G) (ty : Nat → ClassId) (L : List Nat) (ad : Nat → Nat) (g : Nat → va_E) (a : Nat → Nat → Int32) (dn pn en qn mz : Nat) (nw lo : Int32) (tr : Int64) (j k0 vj : Nat) (hM : RM ty L ad g a dn pn en qn mz nw lo tr) (hj9 : j < pn) (hpn : pn ≤ 8) (hvj : a 10 j = nI vj) (hv4 : vj ≤ 4) (hk0 : k0 < vj) (hkd : a 6 j = 2) (hd : dn = 0) : m_E l yX9_named wsX9_named 3 65 D ty [.ref (ad 1000), .int (nI j), .int (nI k0)] L ad g (some (.int (-2))) g := by
  intro sz
  refine Met.ofW (cc := cX9_named) (maxL := 7) (ret := (some .int)) (by decide) rfl ?_
  intro p e s m args below meth c s₁ B hml hv
  have hx := B.exec
  have hb := B.bytes
  have hrt := B.returns
  have hts := atoms_spec (ws := wsX9_named) B.pre
  have hown : s.vm.findClass RX9 = some m.cls := findClass_of_methodNamed B.named
  have hlocks := B.notSynchronized
  obtain ⟨rfl, hB⟩ := m_start hv
  generalize va_A (m_w L ad g) sz = A at hB ⊢
  generalize s.heap = H at hB ⊢
  generalize ([] : List Loc) = locs at hB ⊢
  have hl := lv_entry ([.ref (ad 1000), .int (nI j), .int (nI k0)]) (n := 7) (Nat.le_of_ble_eq_true rfl)
  rw [lg_entry_eq]
  generalize (lg_sl ([.ref (ad 1000), .int (nI j), .int (nI k0)]) ++ List.replicate (7 - (lg_sl ([.ref (ad 1000), .int (nI j), .int (nI k0)])).length) Slot.unset).toArray = ls at hl ⊢
  have hl : lv_has ls 7 [(0, .ref (ad 1000)), (1, .int (nI j)), (2, .int (nI k0))] := hl
  obtain ⟨hL, h_1000, h_1002, h_1004, h_1005, h_1007, h_1008, h_1009, h_1010, h_1011, h_1012, h_1013, h_1014, h_1015, h_1016, h_1019, h_1020, h_1021, h_1022, h_1024, h_1025, h_1026, h_1027, h_1028, h_1029, h_1030, h_1032⟩ := id hM
  refine lv_aload_n hx hb dX9_named_0 rfl (lv_at hl 0 rfl) ?_
  refine lv_iload_n hx hb dX9_named_1 rfl (lv_at hl 1 rfl) ?_
  refine lv_iload_n hx hb dX9_named_2 rfl (lv_at hl 2 rfl) ?_
  refine m_callVE (ci := 9) (As := [.int (nI j), .int (nI k0)]) (rest := []) (c_M_isVersion_t l D ty L ad _ a dn pn en qn mz nw lo tr j k0 vj hM hj9 hpn hvj hv4 hk0) ⟨hx, hb, hml, hown, hts⟩ (cwV 2 hts gX9_named_X9_isVersion rfl rfl rfl (by decide +kernel) ⟨Nat.le_of_ble_eq_true rfl, Nat.le_of_ble_eq_true rfl⟩) hB (hL 1000 (by decide)) h_1000 rfl rfl hl.1 rfl (Nat.le_of_ble_eq_true rfl) dX9_named_3 ⟨Nat.le_of_ble_eq_true rfl, Nat.le_of_ble_eq_true rfl⟩ (fun H locs hB => ?_)
  refine b_if_eq_f 19 hx hb dX9_named_6 (by decide) (by decide) ?_
  refine lv_aload_n hx hb dX9_named_9 rfl (lv_at hl 0 rfl) ?_
  refine m_get (C := RX9) (T := TX9) (N := 33) (ci := 9) hx hb hts in_X9_named_X9 hown hB (hL 1000 (by decide)) h_1000 rfl 6 (by decide) (hts (.fieldLink RX9 19 "PaperRoomModel" "kind" "[I") (by decide +kernel)) (fun _ h9 => h9) rfl dX9_named_10 ?_
  refine lv_iload_n hx hb dX9_named_13 rfl (lv_at hl 1 rfl) ?_
  refine n_iald hx hb hB (hL 1007 (by decide)) h_1007 j rfl (by omega) (by omega) dX9_named_14 ?_
  refine lv_iconst (v := 2) hx hb dX9_named_15 (by decide) ?_
  refine b_icmp_eq_t 21 hx hb dX9_named_16 (by decide) (by rw [hkd]) ?_
  refine lv_aload_n hx hb dX9_named_21 rfl (lv_at hl 0 rfl) ?_
  refine m_get (C := RX9) (T := TX9) (N := 33) (ci := 9) hx hb hts in_X9_named_X9 hown hB (hL 1000 (by decide)) h_1000 rfl 0 (by decide) (hts (.fieldLink RX9 101 "PaperRoomModel" "drafted" "I") (by decide +kernel)) (fun _ h9 => h9) rfl dX9_named_22 ?_
  refine b_if_ne_f 31 hx hb dX9_named_25 (by decide) (by rw [hd]; decide) ?_
  refine lv_bipush (v := (-2)) hx hb dX9_named_28 (by decide) ?_
  exact m_iret hx hb hrt hlocks hB (Nat.le_refl _) (Nat.le_refl _) dX9_named_30 ⟨rfl, rfl, rfl, rfl⟩
set_option maxHeartbeats 1000000 in
set_option maxRecDepth 100000 in
theorem c_M_named_ok (l : Launch) (D : va_G) (ty : Nat → ClassId) (L : List Nat) (ad : Nat → Nat) (g : Nat → va_E) (a : Nat → Nat → Int32) (dn pn en qn mz : Nat) (nw lo : Int32) (tr : Int64) (j k0 vj n : Nat) (f : Nat → Int32) (hM : RM ty L ad g a dn pn en qn mz nw lo tr) (hj9 : j < pn) (hpn : pn ≤ 8) (hvj : a 10 j = nI vj) (hv4 : vj ≤ 4) (hk0 : k0 < vj) (hkd : a 6 j = 2) (hd : 0 < dn) (hdn : dn ≤ 40) (hsz : a 11 (4 * j + k0) = nI n) (hn40 : n ≤ 40) (hf : ∀ i, i < n → f i = pl (a 12 (40 * (4 * j + k0) + i)) (a 13 (40 * (4 * j + k0) + i))) : m_C l yX9_named wsX9_named 3 65 0 0 D ty [.ref (ad 1000), .int (nI j), .int (nI k0)] L ad g (fun v1 L1 ad1 g1 => v1 = some (.int (nmR f (a 1) n dn 6)) ∧ L1 = L ∧ ad1 = ad ∧ (∀ x, x < 1000 → g1 x = g x) ∧ ∃ (hh : Nat → Int32) (mk : Nat), RM ty L ad g1 (va_up a 31 hh) dn pn en qn mk nw lo tr) := by
  intro sz
  refine Met.ofW (cc := cX9_named) (maxL := 7) (ret := (some .int)) (by decide) rfl ?_
  intro p e s m args below meth c s₁ B hml hv
  have hx := B.exec
  have hb := B.bytes
  have hrt := B.returns
  have hts := atoms_spec (ws := wsX9_named) B.pre
  have hown : s.vm.findClass RX9 = some m.cls := findClass_of_methodNamed B.named
  have hlocks := B.notSynchronized
  obtain ⟨rfl, hB⟩ := m_start hv
  generalize va_A (m_w L ad g) sz = A at hB ⊢
  generalize s.heap = H at hB ⊢
  generalize ([] : List Loc) = locs at hB ⊢
  have hl := lv_entry ([.ref (ad 1000), .int (nI j), .int (nI k0)]) (n := 7) (Nat.le_of_ble_eq_true rfl)
  rw [lg_entry_eq]
  generalize (lg_sl ([.ref (ad 1000), .int (nI j), .int (nI k0)]) ++ List.replicate (7 - (lg_sl ([.ref (ad 1000), .int (nI j), .int (nI k0)])).length) Slot.unset).toArray = ls at hl ⊢
  have hl : lv_has ls 7 [(0, .ref (ad 1000)), (1, .int (nI j)), (2, .int (nI k0))] := hl
  obtain ⟨hL, h_1000, h_1002, h_1004, h_1005, h_1007, h_1008, h_1009, h_1010, h_1011, h_1012, h_1013, h_1014, h_1015, h_1016, h_1019, h_1020, h_1021, h_1022, h_1024, h_1025, h_1026, h_1027, h_1028, h_1029, h_1030, h_1032⟩ := id hM
  refine lv_aload_n hx hb dX9_named_0 rfl (lv_at hl 0 rfl) ?_
  refine lv_iload_n hx hb dX9_named_1 rfl (lv_at hl 1 rfl) ?_
  refine lv_iload_n hx hb dX9_named_2 rfl (lv_at hl 2 rfl) ?_
  refine m_callVE (ci := 9) (As := [.int (nI j), .int (nI k0)]) (rest := []) (c_M_isVersion_t l D ty L ad _ a dn pn en qn mz nw lo tr j k0 vj hM hj9 hpn hvj hv4 hk0) ⟨hx, hb, hml, hown, hts⟩ (cwV 2 hts gX9_named_X9_isVersion rfl rfl rfl (by decide +kernel) ⟨Nat.le_of_ble_eq_true rfl, Nat.le_of_ble_eq_true rfl⟩) hB (hL 1000 (by decide)) h_1000 rfl rfl hl.1 rfl (Nat.le_of_ble_eq_true rfl) dX9_named_3 ⟨Nat.le_of_ble_eq_true rfl, Nat.le_of_ble_eq_true rfl⟩ (fun H locs hB => ?_)
  refine b_if_eq_f 19 hx hb dX9_named_6 (by decide) (by decide) ?_
  refine lv_aload_n hx hb dX9_named_9 rfl (lv_at hl 0 rfl) ?_
  refine m_get (C := RX9) (T := TX9) (N := 33) (ci := 9) hx hb hts in_X9_named_X9 hown hB (hL 1000 (by decide)) h_1000 rfl 6 (by decide) (hts (.fieldLink RX9 19 "PaperRoomModel" "kind" "[I") (by decide +kernel)) (fun _ h9 => h9) rfl dX9_named_10 ?_
  refine lv_iload_n hx hb dX9_named_13 rfl (lv_at hl 1 rfl) ?_
  refine n_iald hx hb hB (hL 1007 (by decide)) h_1007 j rfl (by omega) (by omega) dX9_named_14 ?_
  refine lv_iconst (v := 2) hx hb dX9_named_15 (by decide) ?_
  refine b_icmp_eq_t 21 hx hb dX9_named_16 (by decide) (by rw [hkd]) ?_
  refine lv_aload_n hx hb dX9_named_21 rfl (lv_at hl 0 rfl) ?_
  refine m_get (C := RX9) (T := TX9) (N := 33) (ci := 9) hx hb hts in_X9_named_X9 hown hB (hL 1000 (by decide)) h_1000 rfl 0 (by decide) (hts (.fieldLink RX9 101 "PaperRoomModel" "drafted" "I") (by decide +kernel)) (fun _ h9 => h9) rfl dX9_named_22 ?_
  refine b_if_ne_t 31 hx hb dX9_named_25 (by decide) (by rw [nI_toInt (by omega)]; omega) ?_
  refine lv_iconst (v := 0) hx hb dX9_named_31 (by decide) ?_
  refine lv_istore_n (lv' := [(3, .int 0), (0, .ref (ad 1000)), (1, .int (nI j)), (2, .int (nI k0))]) hx hb dX9_named_32 rfl hl (by decide) rfl (fun ls hl => ?_)
  refine lv_iconst (v := 0) hx hb dX9_named_33 (by decide) ?_
  refine lv_istore (lv' := [(4, .int 0), (3, .int 0), (0, .ref (ad 1000)), (1, .int (nI j)), (2, .int (nI k0))]) hx hb dX9_named_34 hl (by decide) rfl (fun ls hl => ?_)
  obtain ⟨gk, hh, mk, hMk, hfk, hBk⟩ : ∃ (gk : Nat → va_E) (hh : Nat → Int32) (mk : Nat), RM ty L ad gk (va_up a 31 hh) dn pn en qn mk nw lo tr ∧ (∀ x, x < 1000 → gk x = g x) ∧ m_B D ty A s L ad gk H locs := ⟨g, a 31, mz, by rw [up_same (f := a) rfl]; exact hM, fun _ _ => rfl, hB⟩
  replace hB := hBk
  clear hBk
  have tI_dn : (nI dn).toInt = (dn : Int) := nI_toInt (by omega)
  replace hl : lv_has ls 7 [(0, .ref (ad 1000)), (1, .int (nI j)), (2, .int (nI k0)), (3, .int 0), (4, .int 0)] := lv_sub hl [2, 3, 4, 1, 0] rfl
  obtain ⟨i, hi0⟩ : ∃ i : Nat, i = 0 := ⟨0, rfl⟩
  replace hl : lv_has ls 7 [(0, .ref (ad 1000)), (1, .int (nI j)), (2, .int (nI k0)), (3, .int (nmR f (a 1) n dn i)), (4, .int (nI i))] := by rw [hi0]; exact hl
  obtain ⟨oz, ho⟩ : ∃ oz : Nat, i + oz = 6 := ⟨6 - i, by omega⟩
  clear hi0
  induction oz generalizing i H locs ls gk hh mk with
  | zero =>
    have hoe : i = 6 := by omega
    obtain ⟨_, k_1000, k_1002, k_1004, k_1005, k_1007, k_1008, k_1009, k_1010, k_1011, k_1012, k_1013, k_1014, k_1015, k_1016, k_1019, k_1020, k_1021, k_1022, k_1024, k_1025, k_1026, k_1027, k_1028, k_1029, k_1030, k_1032⟩ := id hMk
    have tI_i : (nI i).toInt = (i : Int) := nI_toInt (by omega)
    refine lv_iload hx hb dX9_named_36 (lv_at hl 4 rfl) ?_
    refine lv_bipush (v := 6) hx hb dX9_named_38 (by decide) ?_
    refine b_icmp_ge_t 138 hx hb dX9_named_40 (by decide) (by rw [show (6 : Int32).toInt = 6 by decide]; omega) ?_
    refine lv_iload_n hx hb dX9_named_138 rfl (lv_at hl 3 rfl) ?_
    exact m_iret hx hb hrt hlocks hB (Nat.le_refl _) (Nat.le_refl _) dX9_named_139 ⟨by rw [hoe], rfl, rfl, hfk, ⟨hh, mk, hMk⟩⟩
  | succ oz iho =>
    have hol : i < 6 := by omega
    obtain ⟨_, k_1000, k_1002, k_1004, k_1005, k_1007, k_1008, k_1009, k_1010, k_1011, k_1012, k_1013, k_1014, k_1015, k_1016, k_1019, k_1020, k_1021, k_1022, k_1024, k_1025, k_1026, k_1027, k_1028, k_1029, k_1030, k_1032⟩ := id hMk
    have tI_i : (nI i).toInt = (i : Int) := nI_toInt (by omega)
    have hN := mkN_le true (nI i) f n
    have tI_N : (nI (mkN true (nI i) f n)).toInt = ((mkN true (nI i) f n) : Int) := nI_toInt (by omega)
    refine lv_iload hx hb dX9_named_36 (lv_at hl 4 rfl) ?_
    refine lv_bipush (v := 6) hx hb dX9_named_38 (by decide) ?_
    refine b_icmp_ge_f 138 hx hb dX9_named_40 (by decide) (by rw [show (6 : Int32).toInt = 6 by decide]; omega) ?_
    refine lv_aload_n hx hb dX9_named_43 rfl (lv_at hl 0 rfl) ?_
    refine lv_iload hx hb dX9_named_44 (lv_at hl 4 rfl) ?_
    refine lv_iload_n hx hb dX9_named_46 rfl (lv_at hl 1 rfl) ?_
    refine lv_iload_n hx hb dX9_named_47 rfl (lv_at hl 2 rfl) ?_
    refine m_callV (ci := 9) (As := [.int (nI i), .int (nI j), .int (nI k0)]) (rest := []) (c_M_makes_t l D ty L ad _ (va_up a 31 hh) dn pn en qn mk nw lo tr (nI i) j k0 n f hMk (by omega) (by omega) hsz hn40 hf hkd) ⟨hx, hb, hml, hown, hts⟩ (cwV 3 hts gX9_named_X9_makes rfl rfl rfl (by decide +kernel) ⟨Nat.le_of_ble_eq_true rfl, Nat.le_of_ble_eq_true rfl⟩) hB (hL 1000 (by decide)) k_1000 rfl rfl hl.1 rfl (Nat.le_of_ble_eq_true rfl) dX9_named_48 ⟨Nat.le_of_ble_eq_true rfl, Nat.le_of_ble_eq_true rfl⟩ (fun v148 L148 ad_148 g148 H locs hp148 hB => ?_)
    obtain ⟨q1_148, q2_148, q3_148, hfr_148, hM_148⟩ := hp148
    rw [q2_148, q3_148] at hB
    obtain ⟨_, f148_1000, f148_1002, f148_1004, f148_1005, f148_1007, f148_1008, f148_1009, f148_1010, f148_1011, f148_1012, f148_1013, f148_1014, f148_1015, f148_1016, f148_1019, f148_1020, f148_1021, f148_1022, f148_1024, f148_1025, f148_1026, f148_1027, f148_1028, f148_1029, f148_1030, f148_1032⟩ := id hM_148
    refine W.eq (g2 := F0 m 51 ls []) (by rw [q1_148]; rfl) ?_
    replace hM_148 : RM ty L ad g148 (va_up a 31 (mkF true (nI i) f hh n)) dn pn en qn (mkN true (nI i) f n) nw lo tr := by rw [← bx_uu a 31 hh]; exact hM_148
    have hf_148 : ∀ x, x < 1000 → g148 x = g x := fun x hx => ((hfr_148 x hx).trans (hfk x hx))
    have hE := nmB_eq f (a 1) hh n dn i
    by_cases hlen : dn ≤ (mkN true (nI i) f n)
    · skip
      refine lv_aload_n hx hb dX9_named_51 rfl (lv_at hl 0 rfl) ?_
      refine m_get (C := RX9) (T := TX9) (N := 33) (ci := 9) hx hb hts in_X9_named_X9 hown hB (hL 1000 (by decide)) f148_1000 rfl 0 (by decide) (hts (.fieldLink RX9 101 "PaperRoomModel" "drafted" "I") (by decide +kernel)) (fun _ h9 => h9) rfl dX9_named_52 ?_
      refine lv_aload_n hx hb dX9_named_55 rfl (lv_at hl 0 rfl) ?_
      refine m_get (C := RX9) (T := TX9) (N := 33) (ci := 9) hx hb hts in_X9_named_X9 hown hB (hL 1000 (by decide)) f148_1000 rfl 32 (by decide) (hts (.fieldLink RX9 127 "PaperRoomModel" "madeSize" "I") (by decide +kernel)) (fun _ h9 => h9) rfl dX9_named_56 ?_
      refine b_icmp_gt_f 66 hx hb dX9_named_59 (by decide) (by omega) ?_
      refine lv_iconst (v := 1) hx hb dX9_named_62 (by decide) ?_
      refine lv_goto (tgt := 67) hx hb dX9_named_63 (by decide) ?_
      refine lv_istore (lv' := [(5, .int 1), (0, .ref (ad 1000)), (1, .int (nI j)), (2, .int (nI k0)), (3, .int (nmR f (a 1) n dn i)), (4, .int (nI i))]) hx hb dX9_named_67 hl (by decide) rfl (fun ls hl => ?_)
      refine lv_iconst (v := 0) hx hb dX9_named_69 (by decide) ?_
      refine lv_istore (lv' := [(6, .int 0), (5, .int 1), (0, .ref (ad 1000)), (1, .int (nI j)), (2, .int (nI k0)), (3, .int (nmR f (a 1) n dn i)), (4, .int (nI i))]) hx hb dX9_named_70 hl (by decide) rfl (fun ls hl => ?_)
      replace hl : lv_has ls 7 [(0, .ref (ad 1000)), (1, .int (nI j)), (2, .int (nI k0)), (3, .int (nmR f (a 1) n dn i)), (4, .int (nI i)), (5, .int 1), (6, .int 0)] := lv_sub hl [2, 3, 4, 5, 6, 1, 0] rfl
      obtain ⟨k, hk0⟩ : ∃ k : Nat, k = 0 := ⟨0, rfl⟩
      replace hl : lv_has ls 7 [(0, .ref (ad 1000)), (1, .int (nI j)), (2, .int (nI k0)), (3, .int (nmR f (a 1) n dn i)), (4, .int (nI i)), (5, .int 1), (6, .int (nI k))] := by rw [hk0]; exact hl
      have heq : eqp (mkF true (nI i) f hh n) (a 1) k = true := by rw [hk0]; exact rfl
      obtain ⟨jz, hj⟩ : ∃ jz : Nat, k + jz = dn := ⟨dn - k, by omega⟩
      clear hk0
      induction jz generalizing k H locs ls with
      | zero =>
        have hje : k = dn := by omega
        have tI_k : (nI k).toInt = (k : Int) := nI_toInt (by omega)
        refine lv_iload hx hb dX9_named_72 (lv_at hl 6 rfl) ?_
        refine lv_aload_n hx hb dX9_named_74 rfl (lv_at hl 0 rfl) ?_
        refine m_get (C := RX9) (T := TX9) (N := 33) (ci := 9) hx hb hts in_X9_named_X9 hown hB (hL 1000 (by decide)) f148_1000 rfl 0 (by decide) (hts (.fieldLink RX9 101 "PaperRoomModel" "drafted" "I") (by decide +kernel)) (fun _ h9 => h9) rfl dX9_named_75 ?_
        refine b_icmp_ge_t 116 hx hb dX9_named_78 (by decide) (by omega) ?_
        have hb9 : nmB f (a 1) n dn i = true := by rw [hE]; rw [dt hlen]; exact (hje ▸ heq)
        refine lv_iload_n hx hb dX9_named_116 rfl (lv_at hl 3 rfl) ?_
        refine lv_iload hx hb dX9_named_117 (lv_at hl 5 rfl) ?_
        refine b_if_eq_f 129 hx hb dX9_named_119 (by decide) (by decide) ?_
        refine lv_iconst (v := 1) hx hb dX9_named_122 (by decide) ?_
        refine lv_iload hx hb dX9_named_123 (lv_at hl 4 rfl) ?_
        refine lv_ishl hx hb dX9_named_125 ?_
        refine lv_goto (tgt := 130) hx hb dX9_named_126 (by decide) ?_
        refine lv_ior hx hb dX9_named_130 ?_
        refine b_topi (w := nmR f (a 1) n dn (i + 1)) (nmR_1 hb9) ?_
        refine lv_istore_n (lv' := [(3, .int (nmR f (a 1) n dn (i + 1))), (0, .ref (ad 1000)), (1, .int (nI j)), (2, .int (nI k0)), (4, .int (nI i)), (5, .int 1), (6, .int (nI k))]) hx hb dX9_named_131 rfl hl (by decide) rfl (fun ls hl => ?_)
        refine lv_iinc (v := nI (i + 1)) (lv' := [(4, .int (nI (i + 1))), (3, .int (nmR f (a 1) n dn (i + 1))), (0, .ref (ad 1000)), (1, .int (nI j)), (2, .int (nI k0)), (5, .int 1), (6, .int (nI k))]) hx hb dX9_named_132 hl (k := 4) rfl (nI_add i 1) (by decide) rfl (fun ls hl => ?_)
        refine lv_goto (tgt := 36) hx hb dX9_named_135 (by decide) ?_
        have hl : lv_has ls 7 [(0, .ref (ad 1000)), (1, .int (nI j)), (2, .int (nI k0)), (3, .int (nmR f (a 1) n dn (i + 1))), (4, .int (nI (i + 1)))] := lv_sub hl [2, 3, 4, 1, 0] rfl
        apply iho (i := (i + 1)) (H := H) (locs := locs) (ls := ls) (gk := g148) (hh := (mkF true (nI i) f hh n)) (mk := (mkN true (nI i) f n)) <;> first | omega | exact hB | exact hl | exact hM_148 | exact hf_148
      | succ jz ihj =>
        have hjl : k < dn := by omega
        have tI_k : (nI k).toInt = (k : Int) := nI_toInt (by omega)
        by_cases hs : (mkF true (nI i) f hh n) k = a 1 k
        · skip
          have heq1 := eqp_yes heq hs
          refine lv_iload hx hb dX9_named_72 (lv_at hl 6 rfl) ?_
          refine lv_aload_n hx hb dX9_named_74 rfl (lv_at hl 0 rfl) ?_
          refine m_get (C := RX9) (T := TX9) (N := 33) (ci := 9) hx hb hts in_X9_named_X9 hown hB (hL 1000 (by decide)) f148_1000 rfl 0 (by decide) (hts (.fieldLink RX9 101 "PaperRoomModel" "drafted" "I") (by decide +kernel)) (fun _ h9 => h9) rfl dX9_named_75 ?_
          refine b_icmp_ge_f 116 hx hb dX9_named_78 (by decide) (by omega) ?_
          refine lv_iload hx hb dX9_named_81 (lv_at hl 5 rfl) ?_
          refine b_if_eq_f 116 hx hb dX9_named_83 (by decide) (by decide) ?_
          refine lv_aload_n hx hb dX9_named_86 rfl (lv_at hl 0 rfl) ?_
          refine m_get (C := RX9) (T := TX9) (N := 33) (ci := 9) hx hb hts in_X9_named_X9 hown hB (hL 1000 (by decide)) f148_1000 rfl 31 (by decide) (hts (.fieldLink RX9 83 "PaperRoomModel" "made" "[I") (by decide +kernel)) (fun _ h9 => h9) rfl dX9_named_87 ?_
          refine lv_iload hx hb dX9_named_90 (lv_at hl 6 rfl) ?_
          refine n_iald hx hb hB (hL 1032 (by decide)) f148_1032 k rfl (by omega) (by omega) dX9_named_92 ?_
          refine lv_aload_n hx hb dX9_named_93 rfl (lv_at hl 0 rfl) ?_
          refine m_get (C := RX9) (T := TX9) (N := 33) (ci := 9) hx hb hts in_X9_named_X9 hown hB (hL 1000 (by decide)) f148_1000 rfl 1 (by decide) (hts (.fieldLink RX9 7 "PaperRoomModel" "draft" "[I") (by decide +kernel)) (fun _ h9 => h9) rfl dX9_named_94 ?_
          refine lv_iload hx hb dX9_named_97 (lv_at hl 6 rfl) ?_
          refine n_iald hx hb hB (hL 1002 (by decide)) f148_1002 k rfl (by omega) (by omega) dX9_named_99 ?_
          refine b_icmp_ne_f 107 hx hb dX9_named_100 (by decide) (congrArg Int32.toInt hs) ?_
          refine lv_iconst (v := 1) hx hb dX9_named_103 (by decide) ?_
          refine lv_goto (tgt := 108) hx hb dX9_named_104 (by decide) ?_
          refine lv_istore (lv' := [(5, .int 1), (0, .ref (ad 1000)), (1, .int (nI j)), (2, .int (nI k0)), (3, .int (nmR f (a 1) n dn i)), (4, .int (nI i)), (6, .int (nI k))]) hx hb dX9_named_108 hl (by decide) rfl (fun ls hl => ?_)
          refine lv_iinc (v := nI (k + 1)) (lv' := [(6, .int (nI (k + 1))), (5, .int 1), (0, .ref (ad 1000)), (1, .int (nI j)), (2, .int (nI k0)), (3, .int (nmR f (a 1) n dn i)), (4, .int (nI i))]) hx hb dX9_named_110 hl (k := 6) rfl (nI_add k 1) (by decide) rfl (fun ls hl => ?_)
          refine lv_goto (tgt := 72) hx hb dX9_named_113 (by decide) ?_
          have heq' : eqp (mkF true (nI i) f hh n) (a 1) (k + 1) = true := heq1
          have hl : lv_has ls 7 [(0, .ref (ad 1000)), (1, .int (nI j)), (2, .int (nI k0)), (3, .int (nmR f (a 1) n dn i)), (4, .int (nI i)), (5, .int 1), (6, .int (nI (k + 1)))] := lv_sub hl [2, 3, 4, 5, 6, 1, 0] rfl
          apply ihj (k := (k + 1)) (H := H) (locs := locs) (ls := ls) <;> first | omega | exact hB | exact hl | exact heq'
        · skip
          refine lv_iload hx hb dX9_named_72 (lv_at hl 6 rfl) ?_
          refine lv_aload_n hx hb dX9_named_74 rfl (lv_at hl 0 rfl) ?_
          refine m_get (C := RX9) (T := TX9) (N := 33) (ci := 9) hx hb hts in_X9_named_X9 hown hB (hL 1000 (by decide)) f148_1000 rfl 0 (by decide) (hts (.fieldLink RX9 101 "PaperRoomModel" "drafted" "I") (by decide +kernel)) (fun _ h9 => h9) rfl dX9_named_75 ?_
          refine b_icmp_ge_f 116 hx hb dX9_named_78 (by decide) (by omega) ?_
          refine lv_iload hx hb dX9_named_81 (lv_at hl 5 rfl) ?_
          refine b_if_eq_f 116 hx hb dX9_named_83 (by decide) (by decide) ?_
          refine lv_aload_n hx hb dX9_named_86 rfl (lv_at hl 0 rfl) ?_
          refine m_get (C := RX9) (T := TX9) (N := 33) (ci := 9) hx hb hts in_X9_named_X9 hown hB (hL 1000 (by decide)) f148_1000 rfl 31 (by decide) (hts (.fieldLink RX9 83 "PaperRoomModel" "made" "[I") (by decide +kernel)) (fun _ h9 => h9) rfl dX9_named_87 ?_
          refine lv_iload hx hb dX9_named_90 (lv_at hl 6 rfl) ?_
          refine n_iald hx hb hB (hL 1032 (by decide)) f148_1032 k rfl (by omega) (by omega) dX9_named_92 ?_
          refine lv_aload_n hx hb dX9_named_93 rfl (lv_at hl 0 rfl) ?_
          refine m_get (C := RX9) (T := TX9) (N := 33) (ci := 9) hx hb hts in_X9_named_X9 hown hB (hL 1000 (by decide)) f148_1000 rfl 1 (by decide) (hts (.fieldLink RX9 7 "PaperRoomModel" "draft" "[I") (by decide +kernel)) (fun _ h9 => h9) rfl dX9_named_94 ?_
          refine lv_iload hx hb dX9_named_97 (lv_at hl 6 rfl) ?_
          refine n_iald hx hb hB (hL 1002 (by decide)) f148_1002 k rfl (by omega) (by omega) dX9_named_99 ?_
          refine b_icmp_ne_t 107 hx hb dX9_named_100 (by decide) (fun h8 => hs ((i_eq _ _).mpr h8)) ?_
          refine lv_iconst (v := 0) hx hb dX9_named_107 (by decide) ?_
          refine lv_istore (lv' := [(5, .int 0), (0, .ref (ad 1000)), (1, .int (nI j)), (2, .int (nI k0)), (3, .int (nmR f (a 1) n dn i)), (4, .int (nI i)), (6, .int (nI k))]) hx hb dX9_named_108 hl (by decide) rfl (fun ls hl => ?_)
          refine lv_iinc (v := nI (k + 1)) (lv' := [(6, .int (nI (k + 1))), (5, .int 0), (0, .ref (ad 1000)), (1, .int (nI j)), (2, .int (nI k0)), (3, .int (nmR f (a 1) n dn i)), (4, .int (nI i))]) hx hb dX9_named_110 hl (k := 6) rfl (nI_add k 1) (by decide) rfl (fun ls hl => ?_)
          refine lv_goto (tgt := 72) hx hb dX9_named_113 (by decide) ?_
          have tI_k1 : (nI (k + 1)).toInt = ((k + 1 : Nat) : Int) := nI_toInt (by omega)
          by_cases hlast : k + 1 < dn
          · skip
            refine lv_iload hx hb dX9_named_72 (lv_at hl 0 rfl) ?_
            refine lv_aload_n hx hb dX9_named_74 rfl (lv_at hl 2 rfl) ?_
            refine m_get (C := RX9) (T := TX9) (N := 33) (ci := 9) hx hb hts in_X9_named_X9 hown hB (hL 1000 (by decide)) f148_1000 rfl 0 (by decide) (hts (.fieldLink RX9 101 "PaperRoomModel" "drafted" "I") (by decide +kernel)) (fun _ h9 => h9) rfl dX9_named_75 ?_
            refine b_icmp_ge_f 116 hx hb dX9_named_78 (by decide) (by omega) ?_
            refine lv_iload hx hb dX9_named_81 (lv_at hl 1 rfl) ?_
            refine b_if_eq_t 116 hx hb dX9_named_83 (by decide) (by decide) ?_
            have hb9 : nmB f (a 1) n dn i = false := by rw [hE]; rw [eqp_dif hs (by omega : k < dn)]; simp
            refine lv_iload_n hx hb dX9_named_116 rfl (lv_at hl 5 rfl) ?_
            refine lv_iload hx hb dX9_named_117 (lv_at hl 1 rfl) ?_
            refine b_if_eq_t 129 hx hb dX9_named_119 (by decide) (by decide) ?_
            refine lv_iconst (v := 0) hx hb dX9_named_129 (by decide) ?_
            refine lv_ior hx hb dX9_named_130 ?_
            refine b_topi (w := nmR f (a 1) n dn (i + 1)) (nmR_0 hb9) ?_
            refine lv_istore_n (lv' := [(3, .int (nmR f (a 1) n dn (i + 1))), (6, .int (nI (k + 1))), (5, .int 0), (0, .ref (ad 1000)), (1, .int (nI j)), (2, .int (nI k0)), (4, .int (nI i))]) hx hb dX9_named_131 rfl hl (by decide) rfl (fun ls hl => ?_)
            refine lv_iinc (v := nI (i + 1)) (lv' := [(4, .int (nI (i + 1))), (3, .int (nmR f (a 1) n dn (i + 1))), (6, .int (nI (k + 1))), (5, .int 0), (0, .ref (ad 1000)), (1, .int (nI j)), (2, .int (nI k0))]) hx hb dX9_named_132 hl (k := 6) rfl (nI_add i 1) (by decide) rfl (fun ls hl => ?_)
            refine lv_goto (tgt := 36) hx hb dX9_named_135 (by decide) ?_
            have hl : lv_has ls 7 [(0, .ref (ad 1000)), (1, .int (nI j)), (2, .int (nI k0)), (3, .int (nmR f (a 1) n dn (i + 1))), (4, .int (nI (i + 1)))] := lv_sub hl [4, 5, 6, 1, 0] rfl
            apply iho (i := (i + 1)) (H := H) (locs := locs) (ls := ls) (gk := g148) (hh := (mkF true (nI i) f hh n)) (mk := (mkN true (nI i) f n)) <;> first | omega | exact hB | exact hl | exact hM_148 | exact hf_148
          · skip
            refine lv_iload hx hb dX9_named_72 (lv_at hl 0 rfl) ?_
            refine lv_aload_n hx hb dX9_named_74 rfl (lv_at hl 2 rfl) ?_
            refine m_get (C := RX9) (T := TX9) (N := 33) (ci := 9) hx hb hts in_X9_named_X9 hown hB (hL 1000 (by decide)) f148_1000 rfl 0 (by decide) (hts (.fieldLink RX9 101 "PaperRoomModel" "drafted" "I") (by decide +kernel)) (fun _ h9 => h9) rfl dX9_named_75 ?_
            refine b_icmp_ge_t 116 hx hb dX9_named_78 (by decide) (by omega) ?_
            have hb9 : nmB f (a 1) n dn i = false := by rw [hE]; rw [eqp_dif hs (by omega : k < dn)]; simp
            refine lv_iload_n hx hb dX9_named_116 rfl (lv_at hl 5 rfl) ?_
            refine lv_iload hx hb dX9_named_117 (lv_at hl 1 rfl) ?_
            refine b_if_eq_t 129 hx hb dX9_named_119 (by decide) (by decide) ?_
            refine lv_iconst (v := 0) hx hb dX9_named_129 (by decide) ?_
            refine lv_ior hx hb dX9_named_130 ?_
            refine b_topi (w := nmR f (a 1) n dn (i + 1)) (nmR_0 hb9) ?_
            refine lv_istore_n (lv' := [(3, .int (nmR f (a 1) n dn (i + 1))), (6, .int (nI (k + 1))), (5, .int 0), (0, .ref (ad 1000)), (1, .int (nI j)), (2, .int (nI k0)), (4, .int (nI i))]) hx hb dX9_named_131 rfl hl (by decide) rfl (fun ls hl => ?_)
            refine lv_iinc (v := nI (i + 1)) (lv' := [(4, .int (nI (i + 1))), (3, .int (nmR f (a 1) n dn (i + 1))), (6, .int (nI (k + 1))), (5, .int 0), (0, .ref (ad 1000)), (1, .int (nI j)), (2, .int (nI k0))]) hx hb dX9_named_132 hl (k := 6) rfl (nI_add i 1) (by decide) rfl (fun ls hl => ?_)
            refine lv_goto (tgt := 36) hx hb dX9_named_135 (by decide) ?_
            have hl : lv_has ls 7 [(0, .ref (ad 1000)), (1, .int (nI j)), (2, .int (nI k0)), (3, .int (nmR f (a 1) n dn (i + 1))), (4, .int (nI (i + 1)))] := lv_sub hl [4, 5, 6, 1, 0] rfl
            apply iho (i := (i + 1)) (H := H) (locs := locs) (ls := ls) (gk := g148) (hh := (mkF true (nI i) f hh n)) (mk := (mkN true (nI i) f n)) <;> first | omega | exact hB | exact hl | exact hM_148 | exact hf_148
    · skip
      refine lv_aload_n hx hb dX9_named_51 rfl (lv_at hl 0 rfl) ?_
      refine m_get (C := RX9) (T := TX9) (N := 33) (ci := 9) hx hb hts in_X9_named_X9 hown hB (hL 1000 (by decide)) f148_1000 rfl 0 (by decide) (hts (.fieldLink RX9 101 "PaperRoomModel" "drafted" "I") (by decide +kernel)) (fun _ h9 => h9) rfl dX9_named_52 ?_
      refine lv_aload_n hx hb dX9_named_55 rfl (lv_at hl 0 rfl) ?_
      refine m_get (C := RX9) (T := TX9) (N := 33) (ci := 9) hx hb hts in_X9_named_X9 hown hB (hL 1000 (by decide)) f148_1000 rfl 32 (by decide) (hts (.fieldLink RX9 127 "PaperRoomModel" "madeSize" "I") (by decide +kernel)) (fun _ h9 => h9) rfl dX9_named_56 ?_
      refine b_icmp_gt_t 66 hx hb dX9_named_59 (by decide) (by omega) ?_
      refine lv_iconst (v := 0) hx hb dX9_named_66 (by decide) ?_
      refine lv_istore (lv' := [(5, .int 0), (0, .ref (ad 1000)), (1, .int (nI j)), (2, .int (nI k0)), (3, .int (nmR f (a 1) n dn i)), (4, .int (nI i))]) hx hb dX9_named_67 hl (by decide) rfl (fun ls hl => ?_)
      refine lv_iconst (v := 0) hx hb dX9_named_69 (by decide) ?_
      refine lv_istore (lv' := [(6, .int 0), (5, .int 0), (0, .ref (ad 1000)), (1, .int (nI j)), (2, .int (nI k0)), (3, .int (nmR f (a 1) n dn i)), (4, .int (nI i))]) hx hb dX9_named_70 hl (by decide) rfl (fun ls hl => ?_)
      refine lv_iload hx hb dX9_named_72 (lv_at hl 0 rfl) ?_
      refine lv_aload_n hx hb dX9_named_74 rfl (lv_at hl 2 rfl) ?_
      refine m_get (C := RX9) (T := TX9) (N := 33) (ci := 9) hx hb hts in_X9_named_X9 hown hB (hL 1000 (by decide)) f148_1000 rfl 0 (by decide) (hts (.fieldLink RX9 101 "PaperRoomModel" "drafted" "I") (by decide +kernel)) (fun _ h9 => h9) rfl dX9_named_75 ?_
      refine b_icmp_ge_f 116 hx hb dX9_named_78 (by decide) (by have := (by decide : (0 : Int32).toInt = 0); omega) ?_
      refine lv_iload hx hb dX9_named_81 (lv_at hl 1 rfl) ?_
      refine b_if_eq_t 116 hx hb dX9_named_83 (by decide) (by decide) ?_
      have hb9 : nmB f (a 1) n dn i = false := by rw [hE]; rw [df (by omega)]; rfl
      refine lv_iload_n hx hb dX9_named_116 rfl (lv_at hl 5 rfl) ?_
      refine lv_iload hx hb dX9_named_117 (lv_at hl 1 rfl) ?_
      refine b_if_eq_t 129 hx hb dX9_named_119 (by decide) (by decide) ?_
      refine lv_iconst (v := 0) hx hb dX9_named_129 (by decide) ?_
      refine lv_ior hx hb dX9_named_130 ?_
      refine b_topi (w := nmR f (a 1) n dn (i + 1)) (nmR_0 hb9) ?_
      refine lv_istore_n (lv' := [(3, .int (nmR f (a 1) n dn (i + 1))), (6, .int 0), (5, .int 0), (0, .ref (ad 1000)), (1, .int (nI j)), (2, .int (nI k0)), (4, .int (nI i))]) hx hb dX9_named_131 rfl hl (by decide) rfl (fun ls hl => ?_)
      refine lv_iinc (v := nI (i + 1)) (lv' := [(4, .int (nI (i + 1))), (3, .int (nmR f (a 1) n dn (i + 1))), (6, .int 0), (5, .int 0), (0, .ref (ad 1000)), (1, .int (nI j)), (2, .int (nI k0))]) hx hb dX9_named_132 hl (k := 6) rfl (nI_add i 1) (by decide) rfl (fun ls hl => ?_)
      refine lv_goto (tgt := 36) hx hb dX9_named_135 (by decide) ?_
      have hl : lv_has ls 7 [(0, .ref (ad 1000)), (1, .int (nI j)), (2, .int (nI k0)), (3, .int (nmR f (a 1) n dn (i + 1))), (4, .int (nI (i + 1)))] := lv_sub hl [4, 5, 6, 1, 0] rfl
      apply iho (i := (i + 1)) (H := H) (locs := locs) (ls := ls) (gk := g148) (hh := (mkF true (nI i) f hh n)) (mk := (mkN true (nI i) f n)) <;> first | omega | exact hB | exact hl | exact hM_148 | exact hf_148
