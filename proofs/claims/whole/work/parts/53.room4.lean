set_option maxHeartbeats 1000000 in
set_option maxRecDepth 100000 in
theorem c_X_times_b1 (l : Launch) (D : va_G) (ty : Nat → ClassId) (L : List Nat) (ad : Nat → Nat) (g : Nat → va_E) (pn qn : Nat) (nw : Int32) (tr : Int64) (i w v : Int32) (m_0 : 0 ∈ L) (h_0 : g 0 = .inr (8, [.ref (ad 1), .ref (ad 3), .ref (ad 6), .int (nI pn), .ref (ad 7), .ref (ad 20), .ref (ad 22), .ref (ad 28), .int (nI qn), .ref (ad 29), .int nw, .long tr])) (hi : ¬ (0 ≤ i.toInt ∧ i.toInt < 6)) : m_E l yX8_times wsX8_times 3 63 D ty [.ref (ad 0), .int i, .int w, .int v] L ad g (some (.int (-1))) g := by
  intro sz
  refine Met.ofW (cc := cX8_times) (maxL := 4) (ret := (some .int)) (by decide) rfl ?_
  intro p e s m args below meth c s₁ B hml hv
  have hx := B.exec
  have hb := B.bytes
  have hrt := B.returns
  have hts := atoms_spec (ws := wsX8_times) B.pre
  have hown : s.vm.findClass RX8 = some m.cls := findClass_of_methodNamed B.named
  have hlocks := B.notSynchronized
  obtain ⟨rfl, hB⟩ := m_start hv
  generalize va_A (m_w L ad g) sz = A at hB ⊢
  generalize s.heap = H at hB ⊢
  generalize ([] : List Loc) = locs at hB ⊢
  have hl := lv_entry ([.ref (ad 0), .int i, .int w, .int v]) (n := 4) (Nat.le_of_ble_eq_true rfl)
  rw [lg_entry_eq]
  generalize (lg_sl ([.ref (ad 0), .int i, .int w, .int v]) ++ List.replicate (4 - (lg_sl ([.ref (ad 0), .int i, .int w, .int v])).length) Slot.unset).toArray = ls at hl ⊢
  have hl : lv_has ls 4 [(0, .ref (ad 0)), (1, .int i), (2, .int w), (3, .int v)] := hl
  have l6 : (6 : Int32).toInt = 6 := by decide
  refine lv_iload_n hx hb dX8_times_0 rfl (lv_at hl 1 rfl) ?_
  refine lv_bipush (v := 6) hx hb dX8_times_1 (by decide) ?_
  refine m_callSE (As := [.int i, .int 6]) (rest := []) (c_isBelow_f l D ty L ad _ _ _ (by omega)) ⟨hx, hb, hml, hown, hts⟩ (va_cwS 2 hts gX8_times_X8_isBelow rfl rfl rfl (by decide +kernel) ⟨Nat.le_of_ble_eq_true rfl, Nat.le_of_ble_eq_true rfl⟩) hB rfl hl.1 rfl (Nat.le_of_ble_eq_true rfl) dX8_times_3 ⟨Nat.le_of_ble_eq_true rfl, Nat.le_of_ble_eq_true rfl⟩ (fun H locs hB => ?_)
  refine b_if_eq_t 21 hx hb dX8_times_6 (by decide) (by decide) ?_
  refine lv_iconst (v := (-1)) hx hb dX8_times_21 (by decide) ?_
  exact m_iret hx hb hrt hlocks hB (Nat.le_refl _) (Nat.le_refl _) dX8_times_22 ⟨rfl, rfl, rfl, rfl⟩
set_option maxHeartbeats 1000000 in
set_option maxRecDepth 100000 in
theorem c_X_times_none (l : Launch) (D : va_G) (ty : Nat → ClassId) (L : List Nat) (ad : Nat → Nat) (g : Nat → va_E) (pn qn : Nat) (nw : Int32) (tr : Int64) (pf : Nat → Option Nat) (k b : Nat) (v : Int32) (m_0 : 0 ∈ L) (m_6 : 6 ∈ L) (h_0 : g 0 = .inr (8, [.ref (ad 1), .ref (ad 3), .ref (ad 6), .int (nI pn), .ref (ad 7), .ref (ad 20), .ref (ad 22), .ref (ad 28), .int (nI qn), .ref (ad 29), .int nw, .long tr])) (h_6 : g 6 = .inl (ty 4, 8, .inr (.inr (.inr (.inr pf))))) (hk : k < 8) (hpp : pf k = none) (hb6 : b < 6) : m_E l yX8_times wsX8_times 3 63 D ty [.ref (ad 0), .int (nI b), .int (nI k), .int v] L ad g (some (.int (-1))) g := by
  intro sz
  refine Met.ofW (cc := cX8_times) (maxL := 4) (ret := (some .int)) (by decide) rfl ?_
  intro p e s m args below meth c s₁ B hml hv
  have hx := B.exec
  have hb := B.bytes
  have hrt := B.returns
  have hts := atoms_spec (ws := wsX8_times) B.pre
  have hown : s.vm.findClass RX8 = some m.cls := findClass_of_methodNamed B.named
  have hlocks := B.notSynchronized
  obtain ⟨rfl, hB⟩ := m_start hv
  generalize va_A (m_w L ad g) sz = A at hB ⊢
  generalize s.heap = H at hB ⊢
  generalize ([] : List Loc) = locs at hB ⊢
  have hl := lv_entry ([.ref (ad 0), .int (nI b), .int (nI k), .int v]) (n := 4) (Nat.le_of_ble_eq_true rfl)
  rw [lg_entry_eq]
  generalize (lg_sl ([.ref (ad 0), .int (nI b), .int (nI k), .int v]) ++ List.replicate (4 - (lg_sl ([.ref (ad 0), .int (nI b), .int (nI k), .int v])).length) Slot.unset).toArray = ls at hl ⊢
  have hl : lv_has ls 4 [(0, .ref (ad 0)), (1, .int (nI b)), (2, .int (nI k)), (3, .int v)] := hl
  have tI_b : (nI b).toInt = (b : Int) := nI_toInt (by omega)
  have l6 : (6 : Int32).toInt = 6 := by decide
  refine lv_iload_n hx hb dX8_times_0 rfl (lv_at hl 1 rfl) ?_
  refine lv_bipush (v := 6) hx hb dX8_times_1 (by decide) ?_
  refine m_callSE (As := [.int (nI b), .int 6]) (rest := []) (c_isBelow_t l D ty L ad _ _ _ (by omega) (by omega)) ⟨hx, hb, hml, hown, hts⟩ (va_cwS 2 hts gX8_times_X8_isBelow rfl rfl rfl (by decide +kernel) ⟨Nat.le_of_ble_eq_true rfl, Nat.le_of_ble_eq_true rfl⟩) hB rfl hl.1 rfl (Nat.le_of_ble_eq_true rfl) dX8_times_3 ⟨Nat.le_of_ble_eq_true rfl, Nat.le_of_ble_eq_true rfl⟩ (fun H locs hB => ?_)
  refine b_if_eq_f 21 hx hb dX8_times_6 (by decide) (by decide) ?_
  refine lv_aload_n hx hb dX8_times_9 rfl (lv_at hl 0 rfl) ?_
  refine lv_iload_n hx hb dX8_times_10 rfl (lv_at hl 2 rfl) ?_
  refine m_callVE (ci := 8) (As := [.int (nI k)]) (rest := []) ((by have h9 := c_X_paperNumber_t l D ty L ad g pn qn nw tr pf k m_0 m_6 h_0 h_6 hk; rw [hpp] at h9; exact h9 : m_E l yX8_paperNumber wsX8_paperNumber 1 21 D ty [.ref (ad 0), .int (nI k)] L ad g (some .null) g)) ⟨hx, hb, hml, hown, hts⟩ (cwV 1 hts gX8_times_X8_paperNumber rfl rfl rfl (by decide +kernel) ⟨Nat.le_of_ble_eq_true rfl, Nat.le_of_ble_eq_true rfl⟩) hB m_0 h_0 rfl rfl hl.1 rfl (Nat.le_of_ble_eq_true rfl) dX8_times_11 ⟨Nat.le_of_ble_eq_true rfl, Nat.le_of_ble_eq_true rfl⟩ (fun H locs hB => ?_)
  refine lv_iload_n hx hb dX8_times_14 rfl (lv_at hl 3 rfl) ?_
  refine m_callSE (As := [.null, .int v]) (rest := []) (c_X_textOf_n l D ty L ad g _) ⟨hx, hb, hml, hown, hts⟩ (va_cwS 2 hts gX8_times_X8_textOf rfl rfl rfl (by decide +kernel) ⟨Nat.le_of_ble_eq_true rfl, Nat.le_of_ble_eq_true rfl⟩) hB rfl hl.1 rfl (Nat.le_of_ble_eq_true rfl) dX8_times_15 ⟨Nat.le_of_ble_eq_true rfl, Nat.le_of_ble_eq_true rfl⟩ (fun H locs hB => ?_)
  refine lv_ifnonnullN hx hb dX8_times_18 ?_
  refine lv_iconst (v := (-1)) hx hb dX8_times_21 (by decide) ?_
  exact m_iret hx hb hrt hlocks hB (Nat.le_refl _) (Nat.le_refl _) dX8_times_22 ⟨rfl, rfl, rfl, rfl⟩
set_option maxHeartbeats 1000000 in
set_option maxRecDepth 100000 in
theorem c_X_times_bad (l : Launch) (D : va_G) (ty : Nat → ClassId) (L : List Nat) (ad : Nat → Nat) (g : Nat → va_E) (pn qn : Nat) (nw : Int32) (tr : Int64) (pf : Nat → Option Nat) (i v : Int32) (b : Nat) (m_0 : 0 ∈ L) (m_6 : 6 ∈ L) (h_0 : g 0 = .inr (8, [.ref (ad 1), .ref (ad 3), .ref (ad 6), .int (nI pn), .ref (ad 7), .ref (ad 20), .ref (ad 22), .ref (ad 28), .int (nI qn), .ref (ad 29), .int nw, .long tr])) (h_6 : g 6 = .inl (ty 4, 8, .inr (.inr (.inr (.inr pf))))) (hi : ¬ (0 ≤ i.toInt ∧ i.toInt < 8)) (hb6 : b < 6) : m_E l yX8_times wsX8_times 3 63 D ty [.ref (ad 0), .int (nI b), .int i, .int v] L ad g (some (.int (-1))) g := by
  intro sz
  refine Met.ofW (cc := cX8_times) (maxL := 4) (ret := (some .int)) (by decide) rfl ?_
  intro p e s m args below meth c s₁ B hml hv
  have hx := B.exec
  have hb := B.bytes
  have hrt := B.returns
  have hts := atoms_spec (ws := wsX8_times) B.pre
  have hown : s.vm.findClass RX8 = some m.cls := findClass_of_methodNamed B.named
  have hlocks := B.notSynchronized
  obtain ⟨rfl, hB⟩ := m_start hv
  generalize va_A (m_w L ad g) sz = A at hB ⊢
  generalize s.heap = H at hB ⊢
  generalize ([] : List Loc) = locs at hB ⊢
  have hl := lv_entry ([.ref (ad 0), .int (nI b), .int i, .int v]) (n := 4) (Nat.le_of_ble_eq_true rfl)
  rw [lg_entry_eq]
  generalize (lg_sl ([.ref (ad 0), .int (nI b), .int i, .int v]) ++ List.replicate (4 - (lg_sl ([.ref (ad 0), .int (nI b), .int i, .int v])).length) Slot.unset).toArray = ls at hl ⊢
  have hl : lv_has ls 4 [(0, .ref (ad 0)), (1, .int (nI b)), (2, .int i), (3, .int v)] := hl
  have tI_b : (nI b).toInt = (b : Int) := nI_toInt (by omega)
  have l6 : (6 : Int32).toInt = 6 := by decide
  refine lv_iload_n hx hb dX8_times_0 rfl (lv_at hl 1 rfl) ?_
  refine lv_bipush (v := 6) hx hb dX8_times_1 (by decide) ?_
  refine m_callSE (As := [.int (nI b), .int 6]) (rest := []) (c_isBelow_t l D ty L ad _ _ _ (by omega) (by omega)) ⟨hx, hb, hml, hown, hts⟩ (va_cwS 2 hts gX8_times_X8_isBelow rfl rfl rfl (by decide +kernel) ⟨Nat.le_of_ble_eq_true rfl, Nat.le_of_ble_eq_true rfl⟩) hB rfl hl.1 rfl (Nat.le_of_ble_eq_true rfl) dX8_times_3 ⟨Nat.le_of_ble_eq_true rfl, Nat.le_of_ble_eq_true rfl⟩ (fun H locs hB => ?_)
  refine b_if_eq_f 21 hx hb dX8_times_6 (by decide) (by decide) ?_
  refine lv_aload_n hx hb dX8_times_9 rfl (lv_at hl 0 rfl) ?_
  refine lv_iload_n hx hb dX8_times_10 rfl (lv_at hl 2 rfl) ?_
  refine m_callVE (ci := 8) (As := [.int i]) (rest := []) (c_X_paperNumber_f l D ty L ad g pn qn nw tr pf i m_0 m_6 h_0 h_6 hi) ⟨hx, hb, hml, hown, hts⟩ (cwV 1 hts gX8_times_X8_paperNumber rfl rfl rfl (by decide +kernel) ⟨Nat.le_of_ble_eq_true rfl, Nat.le_of_ble_eq_true rfl⟩) hB m_0 h_0 rfl rfl hl.1 rfl (Nat.le_of_ble_eq_true rfl) dX8_times_11 ⟨Nat.le_of_ble_eq_true rfl, Nat.le_of_ble_eq_true rfl⟩ (fun H locs hB => ?_)
  refine lv_iload_n hx hb dX8_times_14 rfl (lv_at hl 3 rfl) ?_
  refine m_callSE (As := [.null, .int v]) (rest := []) (c_X_textOf_n l D ty L ad g _) ⟨hx, hb, hml, hown, hts⟩ (va_cwS 2 hts gX8_times_X8_textOf rfl rfl rfl (by decide +kernel) ⟨Nat.le_of_ble_eq_true rfl, Nat.le_of_ble_eq_true rfl⟩) hB rfl hl.1 rfl (Nat.le_of_ble_eq_true rfl) dX8_times_15 ⟨Nat.le_of_ble_eq_true rfl, Nat.le_of_ble_eq_true rfl⟩ (fun H locs hB => ?_)
  refine lv_ifnonnullN hx hb dX8_times_18 ?_
  refine lv_iconst (v := (-1)) hx hb dX8_times_21 (by decide) ?_
  exact m_iret hx hb hrt hlocks hB (Nat.le_refl _) (Nat.le_refl _) dX8_times_22 ⟨rfl, rfl, rfl, rfl⟩
set_option maxHeartbeats 1000000 in
set_option maxRecDepth 100000 in
theorem c_X_blacken_none (l : Launch) (D : va_G) (ty : Nat → ClassId) (L : List Nat) (ad : Nat → Nat) (g : Nat → va_E) (pn qn : Nat) (nw : Int32) (tr : Int64) (pf : Nat → Option Nat) (k : Nat) (v x y : Int32) (m_0 : 0 ∈ L) (m_6 : 6 ∈ L) (h_0 : g 0 = .inr (8, [.ref (ad 1), .ref (ad 3), .ref (ad 6), .int (nI pn), .ref (ad 7), .ref (ad 20), .ref (ad 22), .ref (ad 28), .int (nI qn), .ref (ad 29), .int nw, .long tr])) (h_6 : g 6 = .inl (ty 4, 8, .inr (.inr (.inr (.inr pf))))) (hk : k < 8) (hpp : pf k = none) : m_E l yX8_blacken wsX8_blacken 3 63 D ty [.ref (ad 0), .int (nI k), .int v, .int x, .int y] L ad g (some (.int (-1))) g := by
  intro sz
  refine Met.ofW (cc := cX8_blacken) (maxL := 6) (ret := (some .int)) (by decide) rfl ?_
  intro p e s m args below meth c s₁ B hml hv
  have hx := B.exec
  have hb := B.bytes
  have hrt := B.returns
  have hts := atoms_spec (ws := wsX8_blacken) B.pre
  have hown : s.vm.findClass RX8 = some m.cls := findClass_of_methodNamed B.named
  have hlocks := B.notSynchronized
  obtain ⟨rfl, hB⟩ := m_start hv
  generalize va_A (m_w L ad g) sz = A at hB ⊢
  generalize s.heap = H at hB ⊢
  generalize ([] : List Loc) = locs at hB ⊢
  have hl := lv_entry ([.ref (ad 0), .int (nI k), .int v, .int x, .int y]) (n := 6) (Nat.le_of_ble_eq_true rfl)
  rw [lg_entry_eq]
  generalize (lg_sl ([.ref (ad 0), .int (nI k), .int v, .int x, .int y]) ++ List.replicate (6 - (lg_sl ([.ref (ad 0), .int (nI k), .int v, .int x, .int y])).length) Slot.unset).toArray = ls at hl ⊢
  have hl : lv_has ls 6 [(0, .ref (ad 0)), (1, .int (nI k)), (2, .int v), (3, .int x), (4, .int y)] := hl
  refine lv_aload_n hx hb dX8_blacken_0 rfl (lv_at hl 0 rfl) ?_
  refine lv_iload_n hx hb dX8_blacken_1 rfl (lv_at hl 1 rfl) ?_
  refine m_callVE (ci := 8) (As := [.int (nI k)]) (rest := []) ((by have h9 := c_X_paperNumber_t l D ty L ad g pn qn nw tr pf k m_0 m_6 h_0 h_6 hk; rw [hpp] at h9; exact h9 : m_E l yX8_paperNumber wsX8_paperNumber 1 21 D ty [.ref (ad 0), .int (nI k)] L ad g (some .null) g)) ⟨hx, hb, hml, hown, hts⟩ (cwV 1 hts gX8_blacken_X8_paperNumber rfl rfl rfl (by decide +kernel) ⟨Nat.le_of_ble_eq_true rfl, Nat.le_of_ble_eq_true rfl⟩) hB m_0 h_0 rfl rfl hl.1 rfl (Nat.le_of_ble_eq_true rfl) dX8_blacken_2 ⟨Nat.le_of_ble_eq_true rfl, Nat.le_of_ble_eq_true rfl⟩ (fun H locs hB => ?_)
  refine lv_iload_n hx hb dX8_blacken_5 rfl (lv_at hl 2 rfl) ?_
  refine m_callSE (As := [.null, .int v]) (rest := []) (c_X_textOf_n l D ty L ad g _) ⟨hx, hb, hml, hown, hts⟩ (va_cwS 2 hts gX8_blacken_X8_textOf rfl rfl rfl (by decide +kernel) ⟨Nat.le_of_ble_eq_true rfl, Nat.le_of_ble_eq_true rfl⟩) hB rfl hl.1 rfl (Nat.le_of_ble_eq_true rfl) dX8_blacken_6 ⟨Nat.le_of_ble_eq_true rfl, Nat.le_of_ble_eq_true rfl⟩ (fun H locs hB => ?_)
  refine lv_astoreN (lv' := [(5, .null), (0, .ref (ad 0)), (1, .int (nI k)), (2, .int v), (3, .int x), (4, .int y)]) hx hb dX8_blacken_9 hl (by decide) rfl (fun ls hl => ?_)
  refine lv_aloadN hx hb dX8_blacken_11 (lv_at hl 0 rfl) ?_
  refine lv_ifnullN (tgt := 36) hx hb dX8_blacken_13 (by decide) ?_
  refine lv_iconst (v := (-1)) hx hb dX8_blacken_36 (by decide) ?_
  exact m_iret hx hb hrt hlocks hB (Nat.le_refl _) (Nat.le_refl _) dX8_blacken_37 ⟨rfl, rfl, rfl, rfl⟩
set_option maxHeartbeats 1000000 in
set_option maxRecDepth 100000 in
theorem c_X_blacken_bad (l : Launch) (D : va_G) (ty : Nat → ClassId) (L : List Nat) (ad : Nat → Nat) (g : Nat → va_E) (pn qn : Nat) (nw : Int32) (tr : Int64) (pf : Nat → Option Nat) (i v x y : Int32) (m_0 : 0 ∈ L) (m_6 : 6 ∈ L) (h_0 : g 0 = .inr (8, [.ref (ad 1), .ref (ad 3), .ref (ad 6), .int (nI pn), .ref (ad 7), .ref (ad 20), .ref (ad 22), .ref (ad 28), .int (nI qn), .ref (ad 29), .int nw, .long tr])) (h_6 : g 6 = .inl (ty 4, 8, .inr (.inr (.inr (.inr pf))))) (hi : ¬ (0 ≤ i.toInt ∧ i.toInt < 8)) : m_E l yX8_blacken wsX8_blacken 3 63 D ty [.ref (ad 0), .int i, .int v, .int x, .int y] L ad g (some (.int (-1))) g := by
  intro sz
  refine Met.ofW (cc := cX8_blacken) (maxL := 6) (ret := (some .int)) (by decide) rfl ?_
  intro p e s m args below meth c s₁ B hml hv
  have hx := B.exec
  have hb := B.bytes
  have hrt := B.returns
  have hts := atoms_spec (ws := wsX8_blacken) B.pre
  have hown : s.vm.findClass RX8 = some m.cls := findClass_of_methodNamed B.named
  have hlocks := B.notSynchronized
  obtain ⟨rfl, hB⟩ := m_start hv
  generalize va_A (m_w L ad g) sz = A at hB ⊢
  generalize s.heap = H at hB ⊢
  generalize ([] : List Loc) = locs at hB ⊢
  have hl := lv_entry ([.ref (ad 0), .int i, .int v, .int x, .int y]) (n := 6) (Nat.le_of_ble_eq_true rfl)
  rw [lg_entry_eq]
  generalize (lg_sl ([.ref (ad 0), .int i, .int v, .int x, .int y]) ++ List.replicate (6 - (lg_sl ([.ref (ad 0), .int i, .int v, .int x, .int y])).length) Slot.unset).toArray = ls at hl ⊢
  have hl : lv_has ls 6 [(0, .ref (ad 0)), (1, .int i), (2, .int v), (3, .int x), (4, .int y)] := hl
  refine lv_aload_n hx hb dX8_blacken_0 rfl (lv_at hl 0 rfl) ?_
  refine lv_iload_n hx hb dX8_blacken_1 rfl (lv_at hl 1 rfl) ?_
  refine m_callVE (ci := 8) (As := [.int i]) (rest := []) (c_X_paperNumber_f l D ty L ad g pn qn nw tr pf i m_0 m_6 h_0 h_6 hi) ⟨hx, hb, hml, hown, hts⟩ (cwV 1 hts gX8_blacken_X8_paperNumber rfl rfl rfl (by decide +kernel) ⟨Nat.le_of_ble_eq_true rfl, Nat.le_of_ble_eq_true rfl⟩) hB m_0 h_0 rfl rfl hl.1 rfl (Nat.le_of_ble_eq_true rfl) dX8_blacken_2 ⟨Nat.le_of_ble_eq_true rfl, Nat.le_of_ble_eq_true rfl⟩ (fun H locs hB => ?_)
  refine lv_iload_n hx hb dX8_blacken_5 rfl (lv_at hl 2 rfl) ?_
  refine m_callSE (As := [.null, .int v]) (rest := []) (c_X_textOf_n l D ty L ad g _) ⟨hx, hb, hml, hown, hts⟩ (va_cwS 2 hts gX8_blacken_X8_textOf rfl rfl rfl (by decide +kernel) ⟨Nat.le_of_ble_eq_true rfl, Nat.le_of_ble_eq_true rfl⟩) hB rfl hl.1 rfl (Nat.le_of_ble_eq_true rfl) dX8_blacken_6 ⟨Nat.le_of_ble_eq_true rfl, Nat.le_of_ble_eq_true rfl⟩ (fun H locs hB => ?_)
  refine lv_astoreN (lv' := [(5, .null), (0, .ref (ad 0)), (1, .int i), (2, .int v), (3, .int x), (4, .int y)]) hx hb dX8_blacken_9 hl (by decide) rfl (fun ls hl => ?_)
  refine lv_aloadN hx hb dX8_blacken_11 (lv_at hl 0 rfl) ?_
  refine lv_ifnullN (tgt := 36) hx hb dX8_blacken_13 (by decide) ?_
  refine lv_iconst (v := (-1)) hx hb dX8_blacken_36 (by decide) ?_
  exact m_iret hx hb hrt hlocks hB (Nat.le_refl _) (Nat.le_refl _) dX8_blacken_37 ⟨rfl, rfl, rfl, rfl⟩
set_option maxHeartbeats 1000000 in
set_option maxRecDepth 100000 in
theorem c_X_times0_n (l : Launch) (D : va_G) (ty : Nat → ClassId) (L : List Nat) (ad : Nat → Nat) (g : Nat → va_E) (pn qn : Nat) (nw : Int32) (tr : Int64) (pf : Nat → Option Nat) (pp pt vn : Nat) (fo wd : Int32) (lg : Int32) (tf : Nat → Option Nat) (k b : Nat) (w : Nat) (m_0 : 0 ∈ L) (m_6 : 6 ∈ L) (m_pp : pp ∈ L) (m_pt : pt ∈ L) (h_0 : g 0 = .inr (8, [.ref (ad 1), .ref (ad 3), .ref (ad 6), .int (nI pn), .ref (ad 7), .ref (ad 20), .ref (ad 22), .ref (ad 28), .int (nI qn), .ref (ad 29), .int nw, .long tr])) (h_6 : g 6 = .inl (ty 4, 8, .inr (.inr (.inr (.inr pf))))) (h_pp : g pp = .inr (0, [.int fo, .ref (ad pt), .int (nI vn), .int wd, .int lg])) (h_pt : g pt = .inl (ty 7, 4, .inr (.inr (.inr (.inr tf))))) (hk : k < 8) (hpp : pf k = some (ad pp)) (hw4 : w < 4) (htf : tf w = none) (hb6 : b < 6) : m_E l yX8_times wsX8_times 3 63 D ty [.ref (ad 0), .int (nI b), .int (nI k), .int (nI w)] L ad g (some (.int (-1))) g := by
  intro sz
  refine Met.ofW (cc := cX8_times) (maxL := 4) (ret := (some .int)) (by decide) rfl ?_
  intro p e s m args below meth c s₁ B hml hv
  have hx := B.exec
  have hb := B.bytes
  have hrt := B.returns
  have hts := atoms_spec (ws := wsX8_times) B.pre
  have hown : s.vm.findClass RX8 = some m.cls := findClass_of_methodNamed B.named
  have hlocks := B.notSynchronized
  obtain ⟨rfl, hB⟩ := m_start hv
  generalize va_A (m_w L ad g) sz = A at hB ⊢
  generalize s.heap = H at hB ⊢
  generalize ([] : List Loc) = locs at hB ⊢
  have hl := lv_entry ([.ref (ad 0), .int (nI b), .int (nI k), .int (nI w)]) (n := 4) (Nat.le_of_ble_eq_true rfl)
  rw [lg_entry_eq]
  generalize (lg_sl ([.ref (ad 0), .int (nI b), .int (nI k), .int (nI w)]) ++ List.replicate (4 - (lg_sl ([.ref (ad 0), .int (nI b), .int (nI k), .int (nI w)])).length) Slot.unset).toArray = ls at hl ⊢
  have hl : lv_has ls 4 [(0, .ref (ad 0)), (1, .int (nI b)), (2, .int (nI k)), (3, .int (nI w))] := hl
  have tI_b : (nI b).toInt = (b : Int) := nI_toInt (by omega)
  have l6 : (6 : Int32).toInt = 6 := by decide
  refine lv_iload_n hx hb dX8_times_0 rfl (lv_at hl 1 rfl) ?_
  refine lv_bipush (v := 6) hx hb dX8_times_1 (by decide) ?_
  refine m_callSE (As := [.int (nI b), .int 6]) (rest := []) (c_isBelow_t l D ty L ad _ _ _ (by omega) (by omega)) ⟨hx, hb, hml, hown, hts⟩ (va_cwS 2 hts gX8_times_X8_isBelow rfl rfl rfl (by decide +kernel) ⟨Nat.le_of_ble_eq_true rfl, Nat.le_of_ble_eq_true rfl⟩) hB rfl hl.1 rfl (Nat.le_of_ble_eq_true rfl) dX8_times_3 ⟨Nat.le_of_ble_eq_true rfl, Nat.le_of_ble_eq_true rfl⟩ (fun H locs hB => ?_)
  refine b_if_eq_f 21 hx hb dX8_times_6 (by decide) (by decide) ?_
  refine lv_aload_n hx hb dX8_times_9 rfl (lv_at hl 0 rfl) ?_
  refine lv_iload_n hx hb dX8_times_10 rfl (lv_at hl 2 rfl) ?_
  refine m_callVE (ci := 8) (As := [.int (nI k)]) (rest := []) ((by have h9 := c_X_paperNumber_t l D ty L ad g pn qn nw tr pf k m_0 m_6 h_0 h_6 hk; rw [hpp] at h9; exact h9 : m_E l yX8_paperNumber wsX8_paperNumber 1 21 D ty [.ref (ad 0), .int (nI k)] L ad g (some (.ref (ad pp))) g)) ⟨hx, hb, hml, hown, hts⟩ (cwV 1 hts gX8_times_X8_paperNumber rfl rfl rfl (by decide +kernel) ⟨Nat.le_of_ble_eq_true rfl, Nat.le_of_ble_eq_true rfl⟩) hB m_0 h_0 rfl rfl hl.1 rfl (Nat.le_of_ble_eq_true rfl) dX8_times_11 ⟨Nat.le_of_ble_eq_true rfl, Nat.le_of_ble_eq_true rfl⟩ (fun H locs hB => ?_)
  refine lv_iload_n hx hb dX8_times_14 rfl (lv_at hl 3 rfl) ?_
  refine m_callSE (As := [.ref (ad pp), .int (nI w)]) (rest := []) ((by have h9 := c_X_textOf0_t l D ty L ad g pp pt vn fo wd lg tf w m_pp m_pt h_pp h_pt hw4; rw [htf] at h9; exact h9 : m_E l yX8_textOf wsX8_textOf 2 42 D ty [.ref (ad pp), .int (nI w)] L ad g (some .null) g)) ⟨hx, hb, hml, hown, hts⟩ (va_cwS 2 hts gX8_times_X8_textOf rfl rfl rfl (by decide +kernel) ⟨Nat.le_of_ble_eq_true rfl, Nat.le_of_ble_eq_true rfl⟩) hB rfl hl.1 rfl (Nat.le_of_ble_eq_true rfl) dX8_times_15 ⟨Nat.le_of_ble_eq_true rfl, Nat.le_of_ble_eq_true rfl⟩ (fun H locs hB => ?_)
  refine lv_ifnonnullN hx hb dX8_times_18 ?_
  refine lv_iconst (v := (-1)) hx hb dX8_times_21 (by decide) ?_
  exact m_iret hx hb hrt hlocks hB (Nat.le_refl _) (Nat.le_refl _) dX8_times_22 ⟨rfl, rfl, rfl, rfl⟩
set_option maxHeartbeats 1000000 in
set_option maxRecDepth 100000 in
theorem c_X_times0_b (l : Launch) (D : va_G) (ty : Nat → ClassId) (L : List Nat) (ad : Nat → Nat) (g : Nat → va_E) (pn qn : Nat) (nw : Int32) (tr : Int64) (pf : Nat → Option Nat) (pp pt vn : Nat) (fo wd : Int32) (lg : Int32) (tf : Nat → Option Nat) (k b : Nat) (v : Int32) (m_0 : 0 ∈ L) (m_6 : 6 ∈ L) (m_pp : pp ∈ L) (m_pt : pt ∈ L) (h_0 : g 0 = .inr (8, [.ref (ad 1), .ref (ad 3), .ref (ad 6), .int (nI pn), .ref (ad 7), .ref (ad 20), .ref (ad 22), .ref (ad 28), .int (nI qn), .ref (ad 29), .int nw, .long tr])) (h_6 : g 6 = .inl (ty 4, 8, .inr (.inr (.inr (.inr pf))))) (h_pp : g pp = .inr (0, [.int fo, .ref (ad pt), .int (nI vn), .int wd, .int lg])) (h_pt : g pt = .inl (ty 7, 4, .inr (.inr (.inr (.inr tf))))) (hk : k < 8) (hpp : pf k = some (ad pp)) (hv4 : ¬ (0 ≤ v.toInt ∧ v.toInt < 4)) (hb6 : b < 6) : m_E l yX8_times wsX8_times 3 63 D ty [.ref (ad 0), .int (nI b), .int (nI k), .int v] L ad g (some (.int (-1))) g := by
  intro sz
  refine Met.ofW (cc := cX8_times) (maxL := 4) (ret := (some .int)) (by decide) rfl ?_
  intro p e s m args below meth c s₁ B hml hv
  have hx := B.exec
  have hb := B.bytes
  have hrt := B.returns
  have hts := atoms_spec (ws := wsX8_times) B.pre
  have hown : s.vm.findClass RX8 = some m.cls := findClass_of_methodNamed B.named
  have hlocks := B.notSynchronized
  obtain ⟨rfl, hB⟩ := m_start hv
  generalize va_A (m_w L ad g) sz = A at hB ⊢
  generalize s.heap = H at hB ⊢
  generalize ([] : List Loc) = locs at hB ⊢
  have hl := lv_entry ([.ref (ad 0), .int (nI b), .int (nI k), .int v]) (n := 4) (Nat.le_of_ble_eq_true rfl)
  rw [lg_entry_eq]
  generalize (lg_sl ([.ref (ad 0), .int (nI b), .int (nI k), .int v]) ++ List.replicate (4 - (lg_sl ([.ref (ad 0), .int (nI b), .int (nI k), .int v])).length) Slot.unset).toArray = ls at hl ⊢
  have hl : lv_has ls 4 [(0, .ref (ad 0)), (1, .int (nI b)), (2, .int (nI k)), (3, .int v)] := hl
  have tI_b : (nI b).toInt = (b : Int) := nI_toInt (by omega)
  have l6 : (6 : Int32).toInt = 6 := by decide
  refine lv_iload_n hx hb dX8_times_0 rfl (lv_at hl 1 rfl) ?_
  refine lv_bipush (v := 6) hx hb dX8_times_1 (by decide) ?_
  refine m_callSE (As := [.int (nI b), .int 6]) (rest := []) (c_isBelow_t l D ty L ad _ _ _ (by omega) (by omega)) ⟨hx, hb, hml, hown, hts⟩ (va_cwS 2 hts gX8_times_X8_isBelow rfl rfl rfl (by decide +kernel) ⟨Nat.le_of_ble_eq_true rfl, Nat.le_of_ble_eq_true rfl⟩) hB rfl hl.1 rfl (Nat.le_of_ble_eq_true rfl) dX8_times_3 ⟨Nat.le_of_ble_eq_true rfl, Nat.le_of_ble_eq_true rfl⟩ (fun H locs hB => ?_)
  refine b_if_eq_f 21 hx hb dX8_times_6 (by decide) (by decide) ?_
  refine lv_aload_n hx hb dX8_times_9 rfl (lv_at hl 0 rfl) ?_
  refine lv_iload_n hx hb dX8_times_10 rfl (lv_at hl 2 rfl) ?_
  refine m_callVE (ci := 8) (As := [.int (nI k)]) (rest := []) ((by have h9 := c_X_paperNumber_t l D ty L ad g pn qn nw tr pf k m_0 m_6 h_0 h_6 hk; rw [hpp] at h9; exact h9 : m_E l yX8_paperNumber wsX8_paperNumber 1 21 D ty [.ref (ad 0), .int (nI k)] L ad g (some (.ref (ad pp))) g)) ⟨hx, hb, hml, hown, hts⟩ (cwV 1 hts gX8_times_X8_paperNumber rfl rfl rfl (by decide +kernel) ⟨Nat.le_of_ble_eq_true rfl, Nat.le_of_ble_eq_true rfl⟩) hB m_0 h_0 rfl rfl hl.1 rfl (Nat.le_of_ble_eq_true rfl) dX8_times_11 ⟨Nat.le_of_ble_eq_true rfl, Nat.le_of_ble_eq_true rfl⟩ (fun H locs hB => ?_)
  refine lv_iload_n hx hb dX8_times_14 rfl (lv_at hl 3 rfl) ?_
  refine m_callSE (As := [.ref (ad pp), .int v]) (rest := []) (c_X_textOf0_f l D ty L ad g pp pt vn fo wd lg tf v m_pp m_pt h_pp h_pt (by rw [show (nI 4).toInt = 4 by decide]; exact hv4)) ⟨hx, hb, hml, hown, hts⟩ (va_cwS 2 hts gX8_times_X8_textOf rfl rfl rfl (by decide +kernel) ⟨Nat.le_of_ble_eq_true rfl, Nat.le_of_ble_eq_true rfl⟩) hB rfl hl.1 rfl (Nat.le_of_ble_eq_true rfl) dX8_times_15 ⟨Nat.le_of_ble_eq_true rfl, Nat.le_of_ble_eq_true rfl⟩ (fun H locs hB => ?_)
  refine lv_ifnonnullN hx hb dX8_times_18 ?_
  refine lv_iconst (v := (-1)) hx hb dX8_times_21 (by decide) ?_
  exact m_iret hx hb hrt hlocks hB (Nat.le_refl _) (Nat.le_refl _) dX8_times_22 ⟨rfl, rfl, rfl, rfl⟩
set_option maxRecDepth 20000 in
theorem in_X8_times_X8 : ∀ w ∈ wsX80, w ∈ wsX8_times := by decide +kernel
set_option maxHeartbeats 1000000 in
set_option maxRecDepth 100000 in
theorem c_X_times0_ok (l : Launch) (D : va_G) (ty : Nat → ClassId) (L : List Nat) (ad : Nat → Nat) (g : Nat → va_E) (pn qn : Nat) (nw : Int32) (tr : Int64) (pf : Nat → Option Nat) (pp pt vn : Nat) (fo wd : Int32) (lg : Int32) (tf : Nat → Option Nat) (k b : Nat) (w t : Nat) (en : Nat) (lo : Int32) (f0 f1 f2 f3 : Nat → Int32) (f4 : Nat → Int64) (m_0 : 0 ∈ L) (m_6 : 6 ∈ L) (m_pp : pp ∈ L) (m_pt : pt ∈ L) (m_22 : 22 ∈ L) (m_23 : 23 ∈ L) (m_24 : 24 ∈ L) (m_25 : 25 ∈ L) (m_26 : 26 ∈ L) (m_27 : 27 ∈ L) (h_0 : g 0 = .inr (8, [.ref (ad 1), .ref (ad 3), .ref (ad 6), .int (nI pn), .ref (ad 7), .ref (ad 20), .ref (ad 22), .ref (ad 28), .int (nI qn), .ref (ad 29), .int nw, .long tr])) (h_6 : g 6 = .inl (ty 4, 8, .inr (.inr (.inr (.inr pf))))) (h_pp : g pp = .inr (0, [.int fo, .ref (ad pt), .int (nI vn), .int wd, .int lg])) (h_pt : g pt = .inl (ty 7, 4, .inr (.inr (.inr (.inr tf))))) (h_22 : g 22 = .inr (6, [.ref (ad 23), .ref (ad 24), .ref (ad 25), .ref (ad 26), .ref (ad 27), .int (nI en), .int lo])) (h_23 : g 23 = .inl (ty 0, 200, .inl f0)) (h_24 : g 24 = .inl (ty 0, 200, .inl f1)) (h_25 : g 25 = .inl (ty 0, 200, .inl f2)) (h_26 : g 26 = .inl (ty 0, 200, .inl f3)) (h_27 : g 27 = .inl (ty 1, 200, .inr (.inl f4))) (hk : k < 8) (hpp : pf k = some (ad pp)) (hw4 : w < 4) (htf : tf w = some (ad t)) (hb6 : b < 6) (he : en ≤ 200) : m_E l yX8_times wsX8_times 3 63 D ty [.ref (ad 0), .int (nI b), .int (nI k), .int (nI w)] L ad g (some (.int (nI (rdc f1 f2 f3 (nI b) (nI k) (nI w) en)))) g := by
  intro sz
  refine Met.ofW (cc := cX8_times) (maxL := 4) (ret := (some .int)) (by decide) rfl ?_
  intro p e s m args below meth c s₁ B hml hv
  have hx := B.exec
  have hb := B.bytes
  have hrt := B.returns
  have hts := atoms_spec (ws := wsX8_times) B.pre
  have hown : s.vm.findClass RX8 = some m.cls := findClass_of_methodNamed B.named
  have hlocks := B.notSynchronized
  obtain ⟨rfl, hB⟩ := m_start hv
  generalize va_A (m_w L ad g) sz = A at hB ⊢
  generalize s.heap = H at hB ⊢
  generalize ([] : List Loc) = locs at hB ⊢
  have hl := lv_entry ([.ref (ad 0), .int (nI b), .int (nI k), .int (nI w)]) (n := 4) (Nat.le_of_ble_eq_true rfl)
  rw [lg_entry_eq]
  generalize (lg_sl ([.ref (ad 0), .int (nI b), .int (nI k), .int (nI w)]) ++ List.replicate (4 - (lg_sl ([.ref (ad 0), .int (nI b), .int (nI k), .int (nI w)])).length) Slot.unset).toArray = ls at hl ⊢
  have hl : lv_has ls 4 [(0, .ref (ad 0)), (1, .int (nI b)), (2, .int (nI k)), (3, .int (nI w))] := hl
  have tI_b : (nI b).toInt = (b : Int) := nI_toInt (by omega)
  have l6 : (6 : Int32).toInt = 6 := by decide
  refine lv_iload_n hx hb dX8_times_0 rfl (lv_at hl 1 rfl) ?_
  refine lv_bipush (v := 6) hx hb dX8_times_1 (by decide) ?_
  refine m_callSE (As := [.int (nI b), .int 6]) (rest := []) (c_isBelow_t l D ty L ad _ _ _ (by omega) (by omega)) ⟨hx, hb, hml, hown, hts⟩ (va_cwS 2 hts gX8_times_X8_isBelow rfl rfl rfl (by decide +kernel) ⟨Nat.le_of_ble_eq_true rfl, Nat.le_of_ble_eq_true rfl⟩) hB rfl hl.1 rfl (Nat.le_of_ble_eq_true rfl) dX8_times_3 ⟨Nat.le_of_ble_eq_true rfl, Nat.le_of_ble_eq_true rfl⟩ (fun H locs hB => ?_)
  refine b_if_eq_f 21 hx hb dX8_times_6 (by decide) (by decide) ?_
  refine lv_aload_n hx hb dX8_times_9 rfl (lv_at hl 0 rfl) ?_
  refine lv_iload_n hx hb dX8_times_10 rfl (lv_at hl 2 rfl) ?_
  refine m_callVE (ci := 8) (As := [.int (nI k)]) (rest := []) ((by have h9 := c_X_paperNumber_t l D ty L ad g pn qn nw tr pf k m_0 m_6 h_0 h_6 hk; rw [hpp] at h9; exact h9 : m_E l yX8_paperNumber wsX8_paperNumber 1 21 D ty [.ref (ad 0), .int (nI k)] L ad g (some (.ref (ad pp))) g)) ⟨hx, hb, hml, hown, hts⟩ (cwV 1 hts gX8_times_X8_paperNumber rfl rfl rfl (by decide +kernel) ⟨Nat.le_of_ble_eq_true rfl, Nat.le_of_ble_eq_true rfl⟩) hB m_0 h_0 rfl rfl hl.1 rfl (Nat.le_of_ble_eq_true rfl) dX8_times_11 ⟨Nat.le_of_ble_eq_true rfl, Nat.le_of_ble_eq_true rfl⟩ (fun H locs hB => ?_)
  refine lv_iload_n hx hb dX8_times_14 rfl (lv_at hl 3 rfl) ?_
  refine m_callSE (As := [.ref (ad pp), .int (nI w)]) (rest := []) ((by have h9 := c_X_textOf0_t l D ty L ad g pp pt vn fo wd lg tf w m_pp m_pt h_pp h_pt hw4; rw [htf] at h9; exact h9 : m_E l yX8_textOf wsX8_textOf 2 42 D ty [.ref (ad pp), .int (nI w)] L ad g (some (.ref (ad t))) g)) ⟨hx, hb, hml, hown, hts⟩ (va_cwS 2 hts gX8_times_X8_textOf rfl rfl rfl (by decide +kernel) ⟨Nat.le_of_ble_eq_true rfl, Nat.le_of_ble_eq_true rfl⟩) hB rfl hl.1 rfl (Nat.le_of_ble_eq_true rfl) dX8_times_15 ⟨Nat.le_of_ble_eq_true rfl, Nat.le_of_ble_eq_true rfl⟩ (fun H locs hB => ?_)
  refine lv_ifnonnull (tgt := 23) hx hb dX8_times_18 (by decide) ?_
  refine lv_aload_n hx hb dX8_times_23 rfl (lv_at hl 0 rfl) ?_
  refine m_get (C := RX8) (T := TX8) (N := 12) (ci := 8) hx hb hts in_X8_times_X8 hown hB m_0 h_0 rfl 6 (by decide) (hts (.fieldLink RX8 41 "PaperRoom" "seen" "LPaperRoom$Seen;") (by decide +kernel)) (fun _ h9 => h9) rfl dX8_times_24 ?_
  refine lv_iload_n hx hb dX8_times_27 rfl (lv_at hl 1 rfl) ?_
  refine lv_iload_n hx hb dX8_times_28 rfl (lv_at hl 2 rfl) ?_
  refine lv_iload_n hx hb dX8_times_29 rfl (lv_at hl 3 rfl) ?_
  refine m_callVE (ci := 6) (As := [.int (nI b), .int (nI k), .int (nI w)]) (rest := []) (c_Seen_readings l D ty L ad g 22 23 24 25 26 27 en lo f0 f1 f2 f3 f4 (nI b) (nI k) (nI w) m_22 m_23 m_24 m_25 m_26 m_27 h_22 h_23 h_24 h_25 h_26 h_27 he) ⟨hx, hb, hml, hown, hts⟩ (cwV 3 hts gX8_times_X6_readings rfl rfl rfl (by decide +kernel) ⟨Nat.le_of_ble_eq_true rfl, Nat.le_of_ble_eq_true rfl⟩) hB m_22 h_22 rfl rfl hl.1 rfl (Nat.le_of_ble_eq_true rfl) dX8_times_30 ⟨Nat.le_of_ble_eq_true rfl, Nat.le_of_ble_eq_true rfl⟩ (fun H locs hB => ?_)
  exact m_iret hx hb hrt hlocks hB (Nat.le_refl _) (Nat.le_refl _) dX8_times_33 ⟨rfl, rfl, rfl, rfl⟩
set_option maxHeartbeats 1000000 in
set_option maxRecDepth 100000 in
theorem c_X_blacken0_n (l : Launch) (D : va_G) (ty : Nat → ClassId) (L : List Nat) (ad : Nat → Nat) (g : Nat → va_E) (pn qn : Nat) (nw : Int32) (tr : Int64) (pf : Nat → Option Nat) (pp pt vn : Nat) (fo wd : Int32) (lg : Int32) (tf : Nat → Option Nat) (k : Nat) (w : Nat) (x y : Int32) (m_0 : 0 ∈ L) (m_6 : 6 ∈ L) (m_pp : pp ∈ L) (m_pt : pt ∈ L) (h_0 : g 0 = .inr (8, [.ref (ad 1), .ref (ad 3), .ref (ad 6), .int (nI pn), .ref (ad 7), .ref (ad 20), .ref (ad 22), .ref (ad 28), .int (nI qn), .ref (ad 29), .int nw, .long tr])) (h_6 : g 6 = .inl (ty 4, 8, .inr (.inr (.inr (.inr pf))))) (h_pp : g pp = .inr (0, [.int fo, .ref (ad pt), .int (nI vn), .int wd, .int lg])) (h_pt : g pt = .inl (ty 7, 4, .inr (.inr (.inr (.inr tf))))) (hk : k < 8) (hpp : pf k = some (ad pp)) (hw4 : w < 4) (htf : tf w = none) : m_E l yX8_blacken wsX8_blacken 3 63 D ty [.ref (ad 0), .int (nI k), .int (nI w), .int x, .int y] L ad g (some (.int (-1))) g := by
  intro sz
  refine Met.ofW (cc := cX8_blacken) (maxL := 6) (ret := (some .int)) (by decide) rfl ?_
  intro p e s m args below meth c s₁ B hml hv
  have hx := B.exec
  have hb := B.bytes
  have hrt := B.returns
  have hts := atoms_spec (ws := wsX8_blacken) B.pre
  have hown : s.vm.findClass RX8 = some m.cls := findClass_of_methodNamed B.named
  have hlocks := B.notSynchronized
  obtain ⟨rfl, hB⟩ := m_start hv
  generalize va_A (m_w L ad g) sz = A at hB ⊢
  generalize s.heap = H at hB ⊢
  generalize ([] : List Loc) = locs at hB ⊢
  have hl := lv_entry ([.ref (ad 0), .int (nI k), .int (nI w), .int x, .int y]) (n := 6) (Nat.le_of_ble_eq_true rfl)
  rw [lg_entry_eq]
  generalize (lg_sl ([.ref (ad 0), .int (nI k), .int (nI w), .int x, .int y]) ++ List.replicate (6 - (lg_sl ([.ref (ad 0), .int (nI k), .int (nI w), .int x, .int y])).length) Slot.unset).toArray = ls at hl ⊢
  have hl : lv_has ls 6 [(0, .ref (ad 0)), (1, .int (nI k)), (2, .int (nI w)), (3, .int x), (4, .int y)] := hl
  refine lv_aload_n hx hb dX8_blacken_0 rfl (lv_at hl 0 rfl) ?_
  refine lv_iload_n hx hb dX8_blacken_1 rfl (lv_at hl 1 rfl) ?_
  refine m_callVE (ci := 8) (As := [.int (nI k)]) (rest := []) ((by have h9 := c_X_paperNumber_t l D ty L ad g pn qn nw tr pf k m_0 m_6 h_0 h_6 hk; rw [hpp] at h9; exact h9 : m_E l yX8_paperNumber wsX8_paperNumber 1 21 D ty [.ref (ad 0), .int (nI k)] L ad g (some (.ref (ad pp))) g)) ⟨hx, hb, hml, hown, hts⟩ (cwV 1 hts gX8_blacken_X8_paperNumber rfl rfl rfl (by decide +kernel) ⟨Nat.le_of_ble_eq_true rfl, Nat.le_of_ble_eq_true rfl⟩) hB m_0 h_0 rfl rfl hl.1 rfl (Nat.le_of_ble_eq_true rfl) dX8_blacken_2 ⟨Nat.le_of_ble_eq_true rfl, Nat.le_of_ble_eq_true rfl⟩ (fun H locs hB => ?_)
  refine lv_iload_n hx hb dX8_blacken_5 rfl (lv_at hl 2 rfl) ?_
  refine m_callSE (As := [.ref (ad pp), .int (nI w)]) (rest := []) ((by have h9 := c_X_textOf0_t l D ty L ad g pp pt vn fo wd lg tf w m_pp m_pt h_pp h_pt hw4; rw [htf] at h9; exact h9 : m_E l yX8_textOf wsX8_textOf 2 42 D ty [.ref (ad pp), .int (nI w)] L ad g (some .null) g)) ⟨hx, hb, hml, hown, hts⟩ (va_cwS 2 hts gX8_blacken_X8_textOf rfl rfl rfl (by decide +kernel) ⟨Nat.le_of_ble_eq_true rfl, Nat.le_of_ble_eq_true rfl⟩) hB rfl hl.1 rfl (Nat.le_of_ble_eq_true rfl) dX8_blacken_6 ⟨Nat.le_of_ble_eq_true rfl, Nat.le_of_ble_eq_true rfl⟩ (fun H locs hB => ?_)
  refine lv_astoreN (lv' := [(5, .null), (0, .ref (ad 0)), (1, .int (nI k)), (2, .int (nI w)), (3, .int x), (4, .int y)]) hx hb dX8_blacken_9 hl (by decide) rfl (fun ls hl => ?_)
  refine lv_aloadN hx hb dX8_blacken_11 (lv_at hl 0 rfl) ?_
  refine lv_ifnullN (tgt := 36) hx hb dX8_blacken_13 (by decide) ?_
  refine lv_iconst (v := (-1)) hx hb dX8_blacken_36 (by decide) ?_
  exact m_iret hx hb hrt hlocks hB (Nat.le_refl _) (Nat.le_refl _) dX8_blacken_37 ⟨rfl, rfl, rfl, rfl⟩
set_option maxHeartbeats 1000000 in
set_option maxRecDepth 100000 in
theorem c_X_blacken0_b (l : Launch) (D : va_G) (ty : Nat → ClassId) (L : List Nat) (ad : Nat → Nat) (g : Nat → va_E) (pn qn : Nat) (nw : Int32) (tr : Int64) (pf : Nat → Option Nat) (pp pt vn : Nat) (fo wd : Int32) (lg : Int32) (tf : Nat → Option Nat) (k : Nat) (v x y : Int32) (m_0 : 0 ∈ L) (m_6 : 6 ∈ L) (m_pp : pp ∈ L) (m_pt : pt ∈ L) (h_0 : g 0 = .inr (8, [.ref (ad 1), .ref (ad 3), .ref (ad 6), .int (nI pn), .ref (ad 7), .ref (ad 20), .ref (ad 22), .ref (ad 28), .int (nI qn), .ref (ad 29), .int nw, .long tr])) (h_6 : g 6 = .inl (ty 4, 8, .inr (.inr (.inr (.inr pf))))) (h_pp : g pp = .inr (0, [.int fo, .ref (ad pt), .int (nI vn), .int wd, .int lg])) (h_pt : g pt = .inl (ty 7, 4, .inr (.inr (.inr (.inr tf))))) (hk : k < 8) (hpp : pf k = some (ad pp)) (hv4 : ¬ (0 ≤ v.toInt ∧ v.toInt < 4)) : m_E l yX8_blacken wsX8_blacken 3 63 D ty [.ref (ad 0), .int (nI k), .int v, .int x, .int y] L ad g (some (.int (-1))) g := by
  intro sz
  refine Met.ofW (cc := cX8_blacken) (maxL := 6) (ret := (some .int)) (by decide) rfl ?_
  intro p e s m args below meth c s₁ B hml hv
  have hx := B.exec
  have hb := B.bytes
  have hrt := B.returns
  have hts := atoms_spec (ws := wsX8_blacken) B.pre
  have hown : s.vm.findClass RX8 = some m.cls := findClass_of_methodNamed B.named
  have hlocks := B.notSynchronized
  obtain ⟨rfl, hB⟩ := m_start hv
  generalize va_A (m_w L ad g) sz = A at hB ⊢
  generalize s.heap = H at hB ⊢
  generalize ([] : List Loc) = locs at hB ⊢
  have hl := lv_entry ([.ref (ad 0), .int (nI k), .int v, .int x, .int y]) (n := 6) (Nat.le_of_ble_eq_true rfl)
  rw [lg_entry_eq]
  generalize (lg_sl ([.ref (ad 0), .int (nI k), .int v, .int x, .int y]) ++ List.replicate (6 - (lg_sl ([.ref (ad 0), .int (nI k), .int v, .int x, .int y])).length) Slot.unset).toArray = ls at hl ⊢
  have hl : lv_has ls 6 [(0, .ref (ad 0)), (1, .int (nI k)), (2, .int v), (3, .int x), (4, .int y)] := hl
  refine lv_aload_n hx hb dX8_blacken_0 rfl (lv_at hl 0 rfl) ?_
  refine lv_iload_n hx hb dX8_blacken_1 rfl (lv_at hl 1 rfl) ?_
  refine m_callVE (ci := 8) (As := [.int (nI k)]) (rest := []) ((by have h9 := c_X_paperNumber_t l D ty L ad g pn qn nw tr pf k m_0 m_6 h_0 h_6 hk; rw [hpp] at h9; exact h9 : m_E l yX8_paperNumber wsX8_paperNumber 1 21 D ty [.ref (ad 0), .int (nI k)] L ad g (some (.ref (ad pp))) g)) ⟨hx, hb, hml, hown, hts⟩ (cwV 1 hts gX8_blacken_X8_paperNumber rfl rfl rfl (by decide +kernel) ⟨Nat.le_of_ble_eq_true rfl, Nat.le_of_ble_eq_true rfl⟩) hB m_0 h_0 rfl rfl hl.1 rfl (Nat.le_of_ble_eq_true rfl) dX8_blacken_2 ⟨Nat.le_of_ble_eq_true rfl, Nat.le_of_ble_eq_true rfl⟩ (fun H locs hB => ?_)
  refine lv_iload_n hx hb dX8_blacken_5 rfl (lv_at hl 2 rfl) ?_
  refine m_callSE (As := [.ref (ad pp), .int v]) (rest := []) (c_X_textOf0_f l D ty L ad g pp pt vn fo wd lg tf v m_pp m_pt h_pp h_pt (by rw [show (nI 4).toInt = 4 by decide]; exact hv4)) ⟨hx, hb, hml, hown, hts⟩ (va_cwS 2 hts gX8_blacken_X8_textOf rfl rfl rfl (by decide +kernel) ⟨Nat.le_of_ble_eq_true rfl, Nat.le_of_ble_eq_true rfl⟩) hB rfl hl.1 rfl (Nat.le_of_ble_eq_true rfl) dX8_blacken_6 ⟨Nat.le_of_ble_eq_true rfl, Nat.le_of_ble_eq_true rfl⟩ (fun H locs hB => ?_)
  refine lv_astoreN (lv' := [(5, .null), (0, .ref (ad 0)), (1, .int (nI k)), (2, .int v), (3, .int x), (4, .int y)]) hx hb dX8_blacken_9 hl (by decide) rfl (fun ls hl => ?_)
  refine lv_aloadN hx hb dX8_blacken_11 (lv_at hl 0 rfl) ?_
  refine lv_ifnullN (tgt := 36) hx hb dX8_blacken_13 (by decide) ?_
  refine lv_iconst (v := (-1)) hx hb dX8_blacken_36 (by decide) ?_
  exact m_iret hx hb hrt hlocks hB (Nat.le_refl _) (Nat.le_refl _) dX8_blacken_37 ⟨rfl, rfl, rfl, rfl⟩
set_option maxHeartbeats 1000000 in
set_option maxRecDepth 100000 in
theorem c_X_blacken0_1 (l : Launch) (D : va_G) (ty : Nat → ClassId) (L : List Nat) (ad : Nat → Nat) (g : Nat → va_E) (pn qn : Nat) (nw : Int32) (tr : Int64) (pf : Nat → Option Nat) (pp pt vn : Nat) (fo wd : Int32) (lg : Int32) (tf : Nat → Option Nat) (k : Nat) (w t ro a bl n : Nat) (bs bk : Nat → Int32) (x y : Int32) (m_0 : 0 ∈ L) (m_6 : 6 ∈ L) (m_pp : pp ∈ L) (m_pt : pt ∈ L) (m_t : t ∈ L) (m_ro : ro ∈ L) (m_a : a ∈ L) (m_bl : bl ∈ L) (h_0 : g 0 = .inr (8, [.ref (ad 1), .ref (ad 3), .ref (ad 6), .int (nI pn), .ref (ad 7), .ref (ad 20), .ref (ad 22), .ref (ad 28), .int (nI qn), .ref (ad 29), .int nw, .long tr])) (h_6 : g 6 = .inl (ty 4, 8, .inr (.inr (.inr (.inr pf))))) (h_pp : g pp = .inr (0, [.int fo, .ref (ad pt), .int (nI vn), .int wd, .int lg])) (h_pt : g pt = .inl (ty 7, 4, .inr (.inr (.inr (.inr tf))))) (h_t : g t = .inr (7, [.ref (ad ro), .ref (ad bl)])) (h_ro : g ro = .inr (5, [.ref (ad a), .int (nI n)])) (h_a : g a = .inl (ty 2, n, .inl bs)) (h_bl : g bl = .inl (ty 3, n, .inl bk)) (hk : k < 8) (hpp : pf k = some (ad pp)) (hw4 : w < 4) (htf : tf w = some (ad t)) (h : x.toInt < 0) : m_E l yX8_blacken wsX8_blacken 3 63 D ty [.ref (ad 0), .int (nI k), .int (nI w), .int x, .int y] L ad g (some (.int (-1))) g := by
  intro sz
  refine Met.ofW (cc := cX8_blacken) (maxL := 6) (ret := (some .int)) (by decide) rfl ?_
  intro p e s m args below meth c s₁ B hml hv
  have hx := B.exec
  have hb := B.bytes
  have hrt := B.returns
  have hts := atoms_spec (ws := wsX8_blacken) B.pre
  have hown : s.vm.findClass RX8 = some m.cls := findClass_of_methodNamed B.named
  have hlocks := B.notSynchronized
  obtain ⟨rfl, hB⟩ := m_start hv
  generalize va_A (m_w L ad g) sz = A at hB ⊢
  generalize s.heap = H at hB ⊢
  generalize ([] : List Loc) = locs at hB ⊢
  have hl := lv_entry ([.ref (ad 0), .int (nI k), .int (nI w), .int x, .int y]) (n := 6) (Nat.le_of_ble_eq_true rfl)
  rw [lg_entry_eq]
  generalize (lg_sl ([.ref (ad 0), .int (nI k), .int (nI w), .int x, .int y]) ++ List.replicate (6 - (lg_sl ([.ref (ad 0), .int (nI k), .int (nI w), .int x, .int y])).length) Slot.unset).toArray = ls at hl ⊢
  have hl : lv_has ls 6 [(0, .ref (ad 0)), (1, .int (nI k)), (2, .int (nI w)), (3, .int x), (4, .int y)] := hl
  refine lv_aload_n hx hb dX8_blacken_0 rfl (lv_at hl 0 rfl) ?_
  refine lv_iload_n hx hb dX8_blacken_1 rfl (lv_at hl 1 rfl) ?_
  refine m_callVE (ci := 8) (As := [.int (nI k)]) (rest := []) ((by have h9 := c_X_paperNumber_t l D ty L ad g pn qn nw tr pf k m_0 m_6 h_0 h_6 hk; rw [hpp] at h9; exact h9 : m_E l yX8_paperNumber wsX8_paperNumber 1 21 D ty [.ref (ad 0), .int (nI k)] L ad g (some (.ref (ad pp))) g)) ⟨hx, hb, hml, hown, hts⟩ (cwV 1 hts gX8_blacken_X8_paperNumber rfl rfl rfl (by decide +kernel) ⟨Nat.le_of_ble_eq_true rfl, Nat.le_of_ble_eq_true rfl⟩) hB m_0 h_0 rfl rfl hl.1 rfl (Nat.le_of_ble_eq_true rfl) dX8_blacken_2 ⟨Nat.le_of_ble_eq_true rfl, Nat.le_of_ble_eq_true rfl⟩ (fun H locs hB => ?_)
  refine lv_iload_n hx hb dX8_blacken_5 rfl (lv_at hl 2 rfl) ?_
  refine m_callSE (As := [.ref (ad pp), .int (nI w)]) (rest := []) ((by have h9 := c_X_textOf0_t l D ty L ad g pp pt vn fo wd lg tf w m_pp m_pt h_pp h_pt hw4; rw [htf] at h9; exact h9 : m_E l yX8_textOf wsX8_textOf 2 42 D ty [.ref (ad pp), .int (nI w)] L ad g (some (.ref (ad t))) g)) ⟨hx, hb, hml, hown, hts⟩ (va_cwS 2 hts gX8_blacken_X8_textOf rfl rfl rfl (by decide +kernel) ⟨Nat.le_of_ble_eq_true rfl, Nat.le_of_ble_eq_true rfl⟩) hB rfl hl.1 rfl (Nat.le_of_ble_eq_true rfl) dX8_blacken_6 ⟨Nat.le_of_ble_eq_true rfl, Nat.le_of_ble_eq_true rfl⟩ (fun H locs hB => ?_)
  refine lv_astore (lv' := [(5, .ref (ad t)), (0, .ref (ad 0)), (1, .int (nI k)), (2, .int (nI w)), (3, .int x), (4, .int y)]) hx hb dX8_blacken_9 hl (by decide) rfl (fun ls hl => ?_)
  refine lv_aload hx hb dX8_blacken_11 (lv_at hl 0 rfl) ?_
  refine lv_ifnull hx hb dX8_blacken_13 ?_
  refine lv_iload_n hx hb dX8_blacken_16 rfl (lv_at hl 4 rfl) ?_
  refine b_if_lt_t 36 hx hb dX8_blacken_17 (by decide) (by have := (by decide : (0 : Int32).toInt = 0); omega) ?_
  refine lv_iconst (v := (-1)) hx hb dX8_blacken_36 (by decide) ?_
  exact m_iret hx hb hrt hlocks hB (Nat.le_refl _) (Nat.le_refl _) dX8_blacken_37 ⟨rfl, rfl, rfl, rfl⟩
set_option maxHeartbeats 1000000 in
set_option maxRecDepth 100000 in
theorem c_X_blacken0_2 (l : Launch) (D : va_G) (ty : Nat → ClassId) (L : List Nat) (ad : Nat → Nat) (g : Nat → va_E) (pn qn : Nat) (nw : Int32) (tr : Int64) (pf : Nat → Option Nat) (pp pt vn : Nat) (fo wd : Int32) (lg : Int32) (tf : Nat → Option Nat) (k : Nat) (w t ro a bl n : Nat) (bs bk : Nat → Int32) (x y : Int32) (m_0 : 0 ∈ L) (m_6 : 6 ∈ L) (m_pp : pp ∈ L) (m_pt : pt ∈ L) (m_t : t ∈ L) (m_ro : ro ∈ L) (m_a : a ∈ L) (m_bl : bl ∈ L) (h_0 : g 0 = .inr (8, [.ref (ad 1), .ref (ad 3), .ref (ad 6), .int (nI pn), .ref (ad 7), .ref (ad 20), .ref (ad 22), .ref (ad 28), .int (nI qn), .ref (ad 29), .int nw, .long tr])) (h_6 : g 6 = .inl (ty 4, 8, .inr (.inr (.inr (.inr pf))))) (h_pp : g pp = .inr (0, [.int fo, .ref (ad pt), .int (nI vn), .int wd, .int lg])) (h_pt : g pt = .inl (ty 7, 4, .inr (.inr (.inr (.inr tf))))) (h_t : g t = .inr (7, [.ref (ad ro), .ref (ad bl)])) (h_ro : g ro = .inr (5, [.ref (ad a), .int (nI n)])) (h_a : g a = .inl (ty 2, n, .inl bs)) (h_bl : g bl = .inl (ty 3, n, .inl bk)) (hk : k < 8) (hpp : pf k = some (ad pp)) (hw4 : w < 4) (htf : tf w = some (ad t)) (h1 : 0 ≤ x.toInt) (h : y.toInt ≤ x.toInt) : m_E l yX8_blacken wsX8_blacken 3 63 D ty [.ref (ad 0), .int (nI k), .int (nI w), .int x, .int y] L ad g (some (.int (-1))) g := by
  intro sz
  refine Met.ofW (cc := cX8_blacken) (maxL := 6) (ret := (some .int)) (by decide) rfl ?_
  intro p e s m args below meth c s₁ B hml hv
  have hx := B.exec
  have hb := B.bytes
  have hrt := B.returns
  have hts := atoms_spec (ws := wsX8_blacken) B.pre
  have hown : s.vm.findClass RX8 = some m.cls := findClass_of_methodNamed B.named
  have hlocks := B.notSynchronized
  obtain ⟨rfl, hB⟩ := m_start hv
  generalize va_A (m_w L ad g) sz = A at hB ⊢
  generalize s.heap = H at hB ⊢
  generalize ([] : List Loc) = locs at hB ⊢
  have hl := lv_entry ([.ref (ad 0), .int (nI k), .int (nI w), .int x, .int y]) (n := 6) (Nat.le_of_ble_eq_true rfl)
  rw [lg_entry_eq]
  generalize (lg_sl ([.ref (ad 0), .int (nI k), .int (nI w), .int x, .int y]) ++ List.replicate (6 - (lg_sl ([.ref (ad 0), .int (nI k), .int (nI w), .int x, .int y])).length) Slot.unset).toArray = ls at hl ⊢
  have hl : lv_has ls 6 [(0, .ref (ad 0)), (1, .int (nI k)), (2, .int (nI w)), (3, .int x), (4, .int y)] := hl
  refine lv_aload_n hx hb dX8_blacken_0 rfl (lv_at hl 0 rfl) ?_
  refine lv_iload_n hx hb dX8_blacken_1 rfl (lv_at hl 1 rfl) ?_
  refine m_callVE (ci := 8) (As := [.int (nI k)]) (rest := []) ((by have h9 := c_X_paperNumber_t l D ty L ad g pn qn nw tr pf k m_0 m_6 h_0 h_6 hk; rw [hpp] at h9; exact h9 : m_E l yX8_paperNumber wsX8_paperNumber 1 21 D ty [.ref (ad 0), .int (nI k)] L ad g (some (.ref (ad pp))) g)) ⟨hx, hb, hml, hown, hts⟩ (cwV 1 hts gX8_blacken_X8_paperNumber rfl rfl rfl (by decide +kernel) ⟨Nat.le_of_ble_eq_true rfl, Nat.le_of_ble_eq_true rfl⟩) hB m_0 h_0 rfl rfl hl.1 rfl (Nat.le_of_ble_eq_true rfl) dX8_blacken_2 ⟨Nat.le_of_ble_eq_true rfl, Nat.le_of_ble_eq_true rfl⟩ (fun H locs hB => ?_)
  refine lv_iload_n hx hb dX8_blacken_5 rfl (lv_at hl 2 rfl) ?_
  refine m_callSE (As := [.ref (ad pp), .int (nI w)]) (rest := []) ((by have h9 := c_X_textOf0_t l D ty L ad g pp pt vn fo wd lg tf w m_pp m_pt h_pp h_pt hw4; rw [htf] at h9; exact h9 : m_E l yX8_textOf wsX8_textOf 2 42 D ty [.ref (ad pp), .int (nI w)] L ad g (some (.ref (ad t))) g)) ⟨hx, hb, hml, hown, hts⟩ (va_cwS 2 hts gX8_blacken_X8_textOf rfl rfl rfl (by decide +kernel) ⟨Nat.le_of_ble_eq_true rfl, Nat.le_of_ble_eq_true rfl⟩) hB rfl hl.1 rfl (Nat.le_of_ble_eq_true rfl) dX8_blacken_6 ⟨Nat.le_of_ble_eq_true rfl, Nat.le_of_ble_eq_true rfl⟩ (fun H locs hB => ?_)
  refine lv_astore (lv' := [(5, .ref (ad t)), (0, .ref (ad 0)), (1, .int (nI k)), (2, .int (nI w)), (3, .int x), (4, .int y)]) hx hb dX8_blacken_9 hl (by decide) rfl (fun ls hl => ?_)
  refine lv_aload hx hb dX8_blacken_11 (lv_at hl 0 rfl) ?_
  refine lv_ifnull hx hb dX8_blacken_13 ?_
  refine lv_iload_n hx hb dX8_blacken_16 rfl (lv_at hl 4 rfl) ?_
  refine b_if_lt_f 36 hx hb dX8_blacken_17 (by decide) (by have := (by decide : (0 : Int32).toInt = 0); omega) ?_
  refine lv_iload_n hx hb dX8_blacken_20 rfl (lv_at hl 4 rfl) ?_
  refine lv_iload hx hb dX8_blacken_21 (lv_at hl 5 rfl) ?_
  refine b_icmp_ge_t 36 hx hb dX8_blacken_23 (by decide) (by omega) ?_
  refine lv_iconst (v := (-1)) hx hb dX8_blacken_36 (by decide) ?_
  exact m_iret hx hb hrt hlocks hB (Nat.le_refl _) (Nat.le_refl _) dX8_blacken_37 ⟨rfl, rfl, rfl, rfl⟩
set_option maxHeartbeats 1000000 in
set_option maxRecDepth 100000 in
theorem c_X_blacken0_3 (l : Launch) (D : va_G) (ty : Nat → ClassId) (L : List Nat) (ad : Nat → Nat) (g : Nat → va_E) (pn qn : Nat) (nw : Int32) (tr : Int64) (pf : Nat → Option Nat) (pp pt vn : Nat) (fo wd : Int32) (lg : Int32) (tf : Nat → Option Nat) (k : Nat) (w t ro a bl n : Nat) (bs bk : Nat → Int32) (x y : Int32) (m_0 : 0 ∈ L) (m_6 : 6 ∈ L) (m_pp : pp ∈ L) (m_pt : pt ∈ L) (m_t : t ∈ L) (m_ro : ro ∈ L) (m_a : a ∈ L) (m_bl : bl ∈ L) (h_0 : g 0 = .inr (8, [.ref (ad 1), .ref (ad 3), .ref (ad 6), .int (nI pn), .ref (ad 7), .ref (ad 20), .ref (ad 22), .ref (ad 28), .int (nI qn), .ref (ad 29), .int nw, .long tr])) (h_6 : g 6 = .inl (ty 4, 8, .inr (.inr (.inr (.inr pf))))) (h_pp : g pp = .inr (0, [.int fo, .ref (ad pt), .int (nI vn), .int wd, .int lg])) (h_pt : g pt = .inl (ty 7, 4, .inr (.inr (.inr (.inr tf))))) (h_t : g t = .inr (7, [.ref (ad ro), .ref (ad bl)])) (h_ro : g ro = .inr (5, [.ref (ad a), .int (nI n)])) (h_a : g a = .inl (ty 2, n, .inl bs)) (h_bl : g bl = .inl (ty 3, n, .inl bk)) (hk : k < 8) (hpp : pf k = some (ad pp)) (hw4 : w < 4) (htf : tf w = some (ad t)) (hn40 : n ≤ 40) (h1 : 0 ≤ x.toInt) (h2 : x.toInt < y.toInt) (h : (n : Int) < y.toInt) : m_E l yX8_blacken wsX8_blacken 3 63 D ty [.ref (ad 0), .int (nI k), .int (nI w), .int x, .int y] L ad g (some (.int (-1))) g := by
  intro sz
  refine Met.ofW (cc := cX8_blacken) (maxL := 6) (ret := (some .int)) (by decide) rfl ?_
  intro p e s m args below meth c s₁ B hml hv
  have hx := B.exec
  have hb := B.bytes
  have hrt := B.returns
  have hts := atoms_spec (ws := wsX8_blacken) B.pre
  have hown : s.vm.findClass RX8 = some m.cls := findClass_of_methodNamed B.named
  have hlocks := B.notSynchronized
  obtain ⟨rfl, hB⟩ := m_start hv
  generalize va_A (m_w L ad g) sz = A at hB ⊢
  generalize s.heap = H at hB ⊢
  generalize ([] : List Loc) = locs at hB ⊢
  have hl := lv_entry ([.ref (ad 0), .int (nI k), .int (nI w), .int x, .int y]) (n := 6) (Nat.le_of_ble_eq_true rfl)
  rw [lg_entry_eq]
  generalize (lg_sl ([.ref (ad 0), .int (nI k), .int (nI w), .int x, .int y]) ++ List.replicate (6 - (lg_sl ([.ref (ad 0), .int (nI k), .int (nI w), .int x, .int y])).length) Slot.unset).toArray = ls at hl ⊢
  have hl : lv_has ls 6 [(0, .ref (ad 0)), (1, .int (nI k)), (2, .int (nI w)), (3, .int x), (4, .int y)] := hl
  have tI_n : (nI n).toInt = (n : Int) := nI_toInt (by omega)
  refine lv_aload_n hx hb dX8_blacken_0 rfl (lv_at hl 0 rfl) ?_
  refine lv_iload_n hx hb dX8_blacken_1 rfl (lv_at hl 1 rfl) ?_
  refine m_callVE (ci := 8) (As := [.int (nI k)]) (rest := []) ((by have h9 := c_X_paperNumber_t l D ty L ad g pn qn nw tr pf k m_0 m_6 h_0 h_6 hk; rw [hpp] at h9; exact h9 : m_E l yX8_paperNumber wsX8_paperNumber 1 21 D ty [.ref (ad 0), .int (nI k)] L ad g (some (.ref (ad pp))) g)) ⟨hx, hb, hml, hown, hts⟩ (cwV 1 hts gX8_blacken_X8_paperNumber rfl rfl rfl (by decide +kernel) ⟨Nat.le_of_ble_eq_true rfl, Nat.le_of_ble_eq_true rfl⟩) hB m_0 h_0 rfl rfl hl.1 rfl (Nat.le_of_ble_eq_true rfl) dX8_blacken_2 ⟨Nat.le_of_ble_eq_true rfl, Nat.le_of_ble_eq_true rfl⟩ (fun H locs hB => ?_)
  refine lv_iload_n hx hb dX8_blacken_5 rfl (lv_at hl 2 rfl) ?_
  refine m_callSE (As := [.ref (ad pp), .int (nI w)]) (rest := []) ((by have h9 := c_X_textOf0_t l D ty L ad g pp pt vn fo wd lg tf w m_pp m_pt h_pp h_pt hw4; rw [htf] at h9; exact h9 : m_E l yX8_textOf wsX8_textOf 2 42 D ty [.ref (ad pp), .int (nI w)] L ad g (some (.ref (ad t))) g)) ⟨hx, hb, hml, hown, hts⟩ (va_cwS 2 hts gX8_blacken_X8_textOf rfl rfl rfl (by decide +kernel) ⟨Nat.le_of_ble_eq_true rfl, Nat.le_of_ble_eq_true rfl⟩) hB rfl hl.1 rfl (Nat.le_of_ble_eq_true rfl) dX8_blacken_6 ⟨Nat.le_of_ble_eq_true rfl, Nat.le_of_ble_eq_true rfl⟩ (fun H locs hB => ?_)
  refine lv_astore (lv' := [(5, .ref (ad t)), (0, .ref (ad 0)), (1, .int (nI k)), (2, .int (nI w)), (3, .int x), (4, .int y)]) hx hb dX8_blacken_9 hl (by decide) rfl (fun ls hl => ?_)
  refine lv_aload hx hb dX8_blacken_11 (lv_at hl 0 rfl) ?_
  refine lv_ifnull hx hb dX8_blacken_13 ?_
  refine lv_iload_n hx hb dX8_blacken_16 rfl (lv_at hl 4 rfl) ?_
  refine b_if_lt_f 36 hx hb dX8_blacken_17 (by decide) (by have := (by decide : (0 : Int32).toInt = 0); omega) ?_
  refine lv_iload_n hx hb dX8_blacken_20 rfl (lv_at hl 4 rfl) ?_
  refine lv_iload hx hb dX8_blacken_21 (lv_at hl 5 rfl) ?_
  refine b_icmp_ge_f 36 hx hb dX8_blacken_23 (by decide) (by omega) ?_
  refine lv_iload hx hb dX8_blacken_26 (lv_at hl 5 rfl) ?_
  refine lv_aload hx hb dX8_blacken_28 (lv_at hl 0 rfl) ?_
  refine m_callVE (ci := 7) (As := []) (rest := [.int y]) (c_Text_length l D ty L ad g t ro a bl n m_t m_ro h_t h_ro) ⟨hx, hb, hml, hown, hts⟩ (cwV 0 hts gX8_blacken_X7_length rfl rfl rfl (by decide +kernel) ⟨Nat.le_of_ble_eq_true rfl, Nat.le_of_ble_eq_true rfl⟩) hB m_t h_t rfl rfl hl.1 rfl (Nat.le_of_ble_eq_true rfl) dX8_blacken_30 ⟨Nat.le_of_ble_eq_true rfl, Nat.le_of_ble_eq_true rfl⟩ (fun H locs hB => ?_)
  refine b_icmp_le_f 38 hx hb dX8_blacken_33 (by decide) (by omega) ?_
  refine lv_iconst (v := (-1)) hx hb dX8_blacken_36 (by decide) ?_
  exact m_iret hx hb hrt hlocks hB (Nat.le_refl _) (Nat.le_refl _) dX8_blacken_37 ⟨rfl, rfl, rfl, rfl⟩
set_option maxHeartbeats 1000000 in
set_option maxRecDepth 100000 in
theorem c_X_blacken0_ok (l : Launch) (D : va_G) (ty : Nat → ClassId) (L : List Nat) (ad : Nat → Nat) (g : Nat → va_E) (pn qn : Nat) (nw : Int32) (tr : Int64) (pf : Nat → Option Nat) (pp pt vn : Nat) (fo wd : Int32) (lg : Int32) (tf : Nat → Option Nat) (k : Nat) (w t ro a bl n : Nat) (bs bk : Nat → Int32) (x y : Nat) (m_0 : 0 ∈ L) (m_6 : 6 ∈ L) (m_pp : pp ∈ L) (m_pt : pt ∈ L) (m_t : t ∈ L) (m_ro : ro ∈ L) (m_a : a ∈ L) (m_bl : bl ∈ L) (h_0 : g 0 = .inr (8, [.ref (ad 1), .ref (ad 3), .ref (ad 6), .int (nI pn), .ref (ad 7), .ref (ad 20), .ref (ad 22), .ref (ad 28), .int (nI qn), .ref (ad 29), .int nw, .long tr])) (h_6 : g 6 = .inl (ty 4, 8, .inr (.inr (.inr (.inr pf))))) (h_pp : g pp = .inr (0, [.int fo, .ref (ad pt), .int (nI vn), .int wd, .int lg])) (h_pt : g pt = .inl (ty 7, 4, .inr (.inr (.inr (.inr tf))))) (h_t : g t = .inr (7, [.ref (ad ro), .ref (ad bl)])) (h_ro : g ro = .inr (5, [.ref (ad a), .int (nI n)])) (h_a : g a = .inl (ty 2, n, .inl bs)) (h_bl : g bl = .inl (ty 3, n, .inl bk)) (hk : k < 8) (hpp : pf k = some (ad pp)) (hw4 : w < 4) (htf : tf w = some (ad t)) (hn40 : n ≤ 40) (h2 : x < y) (h3 : y ≤ n) (hne : t ≠ bl) (hbk : ∀ i, i < n → bk i = 0 ∨ bk i = 1) : m_E l yX8_blacken wsX8_blacken 3 63 D ty [.ref (ad 0), .int (nI k), .int (nI w), .int (nI x), .int (nI y)] L ad g (some (.int (nI (bl_c bk x y n)))) (va_up g bl (.inl (ty 3, n, .inl (bl_f bk x y n)))) := by
  intro sz
  refine Met.ofW (cc := cX8_blacken) (maxL := 6) (ret := (some .int)) (by decide) rfl ?_
  intro p e s m args below meth c s₁ B hml hv
  have hx := B.exec
  have hb := B.bytes
  have hrt := B.returns
  have hts := atoms_spec (ws := wsX8_blacken) B.pre
  have hown : s.vm.findClass RX8 = some m.cls := findClass_of_methodNamed B.named
  have hlocks := B.notSynchronized
  obtain ⟨rfl, hB⟩ := m_start hv
  generalize va_A (m_w L ad g) sz = A at hB ⊢
  generalize s.heap = H at hB ⊢
  generalize ([] : List Loc) = locs at hB ⊢
  have hl := lv_entry ([.ref (ad 0), .int (nI k), .int (nI w), .int (nI x), .int (nI y)]) (n := 6) (Nat.le_of_ble_eq_true rfl)
  rw [lg_entry_eq]
  generalize (lg_sl ([.ref (ad 0), .int (nI k), .int (nI w), .int (nI x), .int (nI y)]) ++ List.replicate (6 - (lg_sl ([.ref (ad 0), .int (nI k), .int (nI w), .int (nI x), .int (nI y)])).length) Slot.unset).toArray = ls at hl ⊢
  have hl : lv_has ls 6 [(0, .ref (ad 0)), (1, .int (nI k)), (2, .int (nI w)), (3, .int (nI x)), (4, .int (nI y))] := hl
  have tI_n : (nI n).toInt = (n : Int) := nI_toInt (by omega)
  have tI_x : (nI x).toInt = (x : Int) := nI_toInt (by omega)
  have tI_y : (nI y).toInt = (y : Int) := nI_toInt (by omega)
  refine lv_aload_n hx hb dX8_blacken_0 rfl (lv_at hl 0 rfl) ?_
  refine lv_iload_n hx hb dX8_blacken_1 rfl (lv_at hl 1 rfl) ?_
  refine m_callVE (ci := 8) (As := [.int (nI k)]) (rest := []) ((by have h9 := c_X_paperNumber_t l D ty L ad g pn qn nw tr pf k m_0 m_6 h_0 h_6 hk; rw [hpp] at h9; exact h9 : m_E l yX8_paperNumber wsX8_paperNumber 1 21 D ty [.ref (ad 0), .int (nI k)] L ad g (some (.ref (ad pp))) g)) ⟨hx, hb, hml, hown, hts⟩ (cwV 1 hts gX8_blacken_X8_paperNumber rfl rfl rfl (by decide +kernel) ⟨Nat.le_of_ble_eq_true rfl, Nat.le_of_ble_eq_true rfl⟩) hB m_0 h_0 rfl rfl hl.1 rfl (Nat.le_of_ble_eq_true rfl) dX8_blacken_2 ⟨Nat.le_of_ble_eq_true rfl, Nat.le_of_ble_eq_true rfl⟩ (fun H locs hB => ?_)
  refine lv_iload_n hx hb dX8_blacken_5 rfl (lv_at hl 2 rfl) ?_
  refine m_callSE (As := [.ref (ad pp), .int (nI w)]) (rest := []) ((by have h9 := c_X_textOf0_t l D ty L ad g pp pt vn fo wd lg tf w m_pp m_pt h_pp h_pt hw4; rw [htf] at h9; exact h9 : m_E l yX8_textOf wsX8_textOf 2 42 D ty [.ref (ad pp), .int (nI w)] L ad g (some (.ref (ad t))) g)) ⟨hx, hb, hml, hown, hts⟩ (va_cwS 2 hts gX8_blacken_X8_textOf rfl rfl rfl (by decide +kernel) ⟨Nat.le_of_ble_eq_true rfl, Nat.le_of_ble_eq_true rfl⟩) hB rfl hl.1 rfl (Nat.le_of_ble_eq_true rfl) dX8_blacken_6 ⟨Nat.le_of_ble_eq_true rfl, Nat.le_of_ble_eq_true rfl⟩ (fun H locs hB => ?_)
  refine lv_astore (lv' := [(5, .ref (ad t)), (0, .ref (ad 0)), (1, .int (nI k)), (2, .int (nI w)), (3, .int (nI x)), (4, .int (nI y))]) hx hb dX8_blacken_9 hl (by decide) rfl (fun ls hl => ?_)
  refine lv_aload hx hb dX8_blacken_11 (lv_at hl 0 rfl) ?_
  refine lv_ifnull hx hb dX8_blacken_13 ?_
  refine lv_iload_n hx hb dX8_blacken_16 rfl (lv_at hl 4 rfl) ?_
  refine b_if_lt_f 36 hx hb dX8_blacken_17 (by decide) (by have := (by decide : (0 : Int32).toInt = 0); omega) ?_
  refine lv_iload_n hx hb dX8_blacken_20 rfl (lv_at hl 4 rfl) ?_
  refine lv_iload hx hb dX8_blacken_21 (lv_at hl 5 rfl) ?_
  refine b_icmp_ge_f 36 hx hb dX8_blacken_23 (by decide) (by omega) ?_
  refine lv_iload hx hb dX8_blacken_26 (lv_at hl 5 rfl) ?_
  refine lv_aload hx hb dX8_blacken_28 (lv_at hl 0 rfl) ?_
  refine m_callVE (ci := 7) (As := []) (rest := [.int (nI y)]) (c_Text_length l D ty L ad g t ro a bl n m_t m_ro h_t h_ro) ⟨hx, hb, hml, hown, hts⟩ (cwV 0 hts gX8_blacken_X7_length rfl rfl rfl (by decide +kernel) ⟨Nat.le_of_ble_eq_true rfl, Nat.le_of_ble_eq_true rfl⟩) hB m_t h_t rfl rfl hl.1 rfl (Nat.le_of_ble_eq_true rfl) dX8_blacken_30 ⟨Nat.le_of_ble_eq_true rfl, Nat.le_of_ble_eq_true rfl⟩ (fun H locs hB => ?_)
  refine b_icmp_le_t 38 hx hb dX8_blacken_33 (by decide) (by omega) ?_
  refine lv_aload hx hb dX8_blacken_38 (lv_at hl 0 rfl) ?_
  refine lv_iload_n hx hb dX8_blacken_40 rfl (lv_at hl 4 rfl) ?_
  refine lv_iload hx hb dX8_blacken_41 (lv_at hl 5 rfl) ?_
  refine m_callVE (ci := 7) (As := [.int (nI x), .int (nI y)]) (rest := []) (c_Text_span l D ty L ad g t ro a bl n bs bk x y m_t m_ro m_a m_bl h_t h_ro h_a h_bl hn40 hne h3 h2 hbk) ⟨hx, hb, hml, hown, hts⟩ (cwV 2 hts gX8_blacken_X7_blackenSpan rfl rfl rfl (by decide +kernel) ⟨Nat.le_of_ble_eq_true rfl, Nat.le_of_ble_eq_true rfl⟩) hB m_t h_t rfl rfl hl.1 rfl (Nat.le_of_ble_eq_true rfl) dX8_blacken_43 ⟨Nat.le_of_ble_eq_true rfl, Nat.le_of_ble_eq_true rfl⟩ (fun H locs hB => ?_)
  replace hB : m_B D ty A s L ad (va_up g bl (.inl (ty 3, n, .inl (bl_f bk x y n)))) H locs := hB
  exact m_iret hx hb hrt hlocks hB (Nat.le_refl _) (Nat.le_refl _) dX8_blacken_46 ⟨rfl, rfl, rfl, rfl⟩
set_option maxHeartbeats 1000000 in
set_option maxRecDepth 100000 in
theorem c_X_times1_n (l : Launch) (D : va_G) (ty : Nat → ClassId) (L : List Nat) (ad : Nat → Nat) (g : Nat → va_E) (pn qn : Nat) (nw : Int32) (tr : Int64) (pf : Nat → Option Nat) (pp pt vn : Nat) (fo wd : Int32) (tf : Nat → Option Nat) (k b : Nat) (w : Nat) (m_0 : 0 ∈ L) (m_6 : 6 ∈ L) (m_pp : pp ∈ L) (m_pt : pt ∈ L) (h_0 : g 0 = .inr (8, [.ref (ad 1), .ref (ad 3), .ref (ad 6), .int (nI pn), .ref (ad 7), .ref (ad 20), .ref (ad 22), .ref (ad 28), .int (nI qn), .ref (ad 29), .int nw, .long tr])) (h_6 : g 6 = .inl (ty 4, 8, .inr (.inr (.inr (.inr pf))))) (h_pp : g pp = .inr (1, [.int fo, .ref (ad pt), .int (nI vn), .int wd])) (h_pt : g pt = .inl (ty 7, 4, .inr (.inr (.inr (.inr tf))))) (hk : k < 8) (hpp : pf k = some (ad pp)) (hw4 : w < 4) (htf : tf w = none) (hb6 : b < 6) : m_E l yX8_times wsX8_times 3 63 D ty [.ref (ad 0), .int (nI b), .int (nI k), .int (nI w)] L ad g (some (.int (-1))) g := by
  intro sz
  refine Met.ofW (cc := cX8_times) (maxL := 4) (ret := (some .int)) (by decide) rfl ?_
  intro p e s m args below meth c s₁ B hml hv
  have hx := B.exec
  have hb := B.bytes
  have hrt := B.returns
  have hts := atoms_spec (ws := wsX8_times) B.pre
  have hown : s.vm.findClass RX8 = some m.cls := findClass_of_methodNamed B.named
  have hlocks := B.notSynchronized
  obtain ⟨rfl, hB⟩ := m_start hv
  generalize va_A (m_w L ad g) sz = A at hB ⊢
  generalize s.heap = H at hB ⊢
  generalize ([] : List Loc) = locs at hB ⊢
  have hl := lv_entry ([.ref (ad 0), .int (nI b), .int (nI k), .int (nI w)]) (n := 4) (Nat.le_of_ble_eq_true rfl)
  rw [lg_entry_eq]
  generalize (lg_sl ([.ref (ad 0), .int (nI b), .int (nI k), .int (nI w)]) ++ List.replicate (4 - (lg_sl ([.ref (ad 0), .int (nI b), .int (nI k), .int (nI w)])).length) Slot.unset).toArray = ls at hl ⊢
  have hl : lv_has ls 4 [(0, .ref (ad 0)), (1, .int (nI b)), (2, .int (nI k)), (3, .int (nI w))] := hl
  have tI_b : (nI b).toInt = (b : Int) := nI_toInt (by omega)
  have l6 : (6 : Int32).toInt = 6 := by decide
  refine lv_iload_n hx hb dX8_times_0 rfl (lv_at hl 1 rfl) ?_
  refine lv_bipush (v := 6) hx hb dX8_times_1 (by decide) ?_
  refine m_callSE (As := [.int (nI b), .int 6]) (rest := []) (c_isBelow_t l D ty L ad _ _ _ (by omega) (by omega)) ⟨hx, hb, hml, hown, hts⟩ (va_cwS 2 hts gX8_times_X8_isBelow rfl rfl rfl (by decide +kernel) ⟨Nat.le_of_ble_eq_true rfl, Nat.le_of_ble_eq_true rfl⟩) hB rfl hl.1 rfl (Nat.le_of_ble_eq_true rfl) dX8_times_3 ⟨Nat.le_of_ble_eq_true rfl, Nat.le_of_ble_eq_true rfl⟩ (fun H locs hB => ?_)
  refine b_if_eq_f 21 hx hb dX8_times_6 (by decide) (by decide) ?_
  refine lv_aload_n hx hb dX8_times_9 rfl (lv_at hl 0 rfl) ?_
  refine lv_iload_n hx hb dX8_times_10 rfl (lv_at hl 2 rfl) ?_
  refine m_callVE (ci := 8) (As := [.int (nI k)]) (rest := []) ((by have h9 := c_X_paperNumber_t l D ty L ad g pn qn nw tr pf k m_0 m_6 h_0 h_6 hk; rw [hpp] at h9; exact h9 : m_E l yX8_paperNumber wsX8_paperNumber 1 21 D ty [.ref (ad 0), .int (nI k)] L ad g (some (.ref (ad pp))) g)) ⟨hx, hb, hml, hown, hts⟩ (cwV 1 hts gX8_times_X8_paperNumber rfl rfl rfl (by decide +kernel) ⟨Nat.le_of_ble_eq_true rfl, Nat.le_of_ble_eq_true rfl⟩) hB m_0 h_0 rfl rfl hl.1 rfl (Nat.le_of_ble_eq_true rfl) dX8_times_11 ⟨Nat.le_of_ble_eq_true rfl, Nat.le_of_ble_eq_true rfl⟩ (fun H locs hB => ?_)
  refine lv_iload_n hx hb dX8_times_14 rfl (lv_at hl 3 rfl) ?_
  refine m_callSE (As := [.ref (ad pp), .int (nI w)]) (rest := []) ((by have h9 := c_X_textOf1_t l D ty L ad g pp pt vn fo wd tf w m_pp m_pt h_pp h_pt hw4; rw [htf] at h9; exact h9 : m_E l yX8_textOf wsX8_textOf 2 42 D ty [.ref (ad pp), .int (nI w)] L ad g (some .null) g)) ⟨hx, hb, hml, hown, hts⟩ (va_cwS 2 hts gX8_times_X8_textOf rfl rfl rfl (by decide +kernel) ⟨Nat.le_of_ble_eq_true rfl, Nat.le_of_ble_eq_true rfl⟩) hB rfl hl.1 rfl (Nat.le_of_ble_eq_true rfl) dX8_times_15 ⟨Nat.le_of_ble_eq_true rfl, Nat.le_of_ble_eq_true rfl⟩ (fun H locs hB => ?_)
  refine lv_ifnonnullN hx hb dX8_times_18 ?_
  refine lv_iconst (v := (-1)) hx hb dX8_times_21 (by decide) ?_
  exact m_iret hx hb hrt hlocks hB (Nat.le_refl _) (Nat.le_refl _) dX8_times_22 ⟨rfl, rfl, rfl, rfl⟩
set_option maxHeartbeats 1000000 in
set_option maxRecDepth 100000 in
theorem c_X_times1_b (l : Launch) (D : va_G) (ty : Nat → ClassId) (L : List Nat) (ad : Nat → Nat) (g : Nat → va_E) (pn qn : Nat) (nw : Int32) (tr : Int64) (pf : Nat → Option Nat) (pp pt vn : Nat) (fo wd : Int32) (tf : Nat → Option Nat) (k b : Nat) (v : Int32) (m_0 : 0 ∈ L) (m_6 : 6 ∈ L) (m_pp : pp ∈ L) (m_pt : pt ∈ L) (h_0 : g 0 = .inr (8, [.ref (ad 1), .ref (ad 3), .ref (ad 6), .int (nI pn), .ref (ad 7), .ref (ad 20), .ref (ad 22), .ref (ad 28), .int (nI qn), .ref (ad 29), .int nw, .long tr])) (h_6 : g 6 = .inl (ty 4, 8, .inr (.inr (.inr (.inr pf))))) (h_pp : g pp = .inr (1, [.int fo, .ref (ad pt), .int (nI vn), .int wd])) (h_pt : g pt = .inl (ty 7, 4, .inr (.inr (.inr (.inr tf))))) (hk : k < 8) (hpp : pf k = some (ad pp)) (hv4 : ¬ (0 ≤ v.toInt ∧ v.toInt < 4)) (hb6 : b < 6) : m_E l yX8_times wsX8_times 3 63 D ty [.ref (ad 0), .int (nI b), .int (nI k), .int v] L ad g (some (.int (-1))) g := by
  intro sz
  refine Met.ofW (cc := cX8_times) (maxL := 4) (ret := (some .int)) (by decide) rfl ?_
  intro p e s m args below meth c s₁ B hml hv
  have hx := B.exec
  have hb := B.bytes
  have hrt := B.returns
  have hts := atoms_spec (ws := wsX8_times) B.pre
  have hown : s.vm.findClass RX8 = some m.cls := findClass_of_methodNamed B.named
  have hlocks := B.notSynchronized
  obtain ⟨rfl, hB⟩ := m_start hv
  generalize va_A (m_w L ad g) sz = A at hB ⊢
  generalize s.heap = H at hB ⊢
  generalize ([] : List Loc) = locs at hB ⊢
  have hl := lv_entry ([.ref (ad 0), .int (nI b), .int (nI k), .int v]) (n := 4) (Nat.le_of_ble_eq_true rfl)
  rw [lg_entry_eq]
  generalize (lg_sl ([.ref (ad 0), .int (nI b), .int (nI k), .int v]) ++ List.replicate (4 - (lg_sl ([.ref (ad 0), .int (nI b), .int (nI k), .int v])).length) Slot.unset).toArray = ls at hl ⊢
  have hl : lv_has ls 4 [(0, .ref (ad 0)), (1, .int (nI b)), (2, .int (nI k)), (3, .int v)] := hl
  have tI_b : (nI b).toInt = (b : Int) := nI_toInt (by omega)
  have l6 : (6 : Int32).toInt = 6 := by decide
  refine lv_iload_n hx hb dX8_times_0 rfl (lv_at hl 1 rfl) ?_
  refine lv_bipush (v := 6) hx hb dX8_times_1 (by decide) ?_
  refine m_callSE (As := [.int (nI b), .int 6]) (rest := []) (c_isBelow_t l D ty L ad _ _ _ (by omega) (by omega)) ⟨hx, hb, hml, hown, hts⟩ (va_cwS 2 hts gX8_times_X8_isBelow rfl rfl rfl (by decide +kernel) ⟨Nat.le_of_ble_eq_true rfl, Nat.le_of_ble_eq_true rfl⟩) hB rfl hl.1 rfl (Nat.le_of_ble_eq_true rfl) dX8_times_3 ⟨Nat.le_of_ble_eq_true rfl, Nat.le_of_ble_eq_true rfl⟩ (fun H locs hB => ?_)
  refine b_if_eq_f 21 hx hb dX8_times_6 (by decide) (by decide) ?_
  refine lv_aload_n hx hb dX8_times_9 rfl (lv_at hl 0 rfl) ?_
  refine lv_iload_n hx hb dX8_times_10 rfl (lv_at hl 2 rfl) ?_
  refine m_callVE (ci := 8) (As := [.int (nI k)]) (rest := []) ((by have h9 := c_X_paperNumber_t l D ty L ad g pn qn nw tr pf k m_0 m_6 h_0 h_6 hk; rw [hpp] at h9; exact h9 : m_E l yX8_paperNumber wsX8_paperNumber 1 21 D ty [.ref (ad 0), .int (nI k)] L ad g (some (.ref (ad pp))) g)) ⟨hx, hb, hml, hown, hts⟩ (cwV 1 hts gX8_times_X8_paperNumber rfl rfl rfl (by decide +kernel) ⟨Nat.le_of_ble_eq_true rfl, Nat.le_of_ble_eq_true rfl⟩) hB m_0 h_0 rfl rfl hl.1 rfl (Nat.le_of_ble_eq_true rfl) dX8_times_11 ⟨Nat.le_of_ble_eq_true rfl, Nat.le_of_ble_eq_true rfl⟩ (fun H locs hB => ?_)
  refine lv_iload_n hx hb dX8_times_14 rfl (lv_at hl 3 rfl) ?_
  refine m_callSE (As := [.ref (ad pp), .int v]) (rest := []) (c_X_textOf1_f l D ty L ad g pp pt vn fo wd tf v m_pp m_pt h_pp h_pt (by rw [show (nI 4).toInt = 4 by decide]; exact hv4)) ⟨hx, hb, hml, hown, hts⟩ (va_cwS 2 hts gX8_times_X8_textOf rfl rfl rfl (by decide +kernel) ⟨Nat.le_of_ble_eq_true rfl, Nat.le_of_ble_eq_true rfl⟩) hB rfl hl.1 rfl (Nat.le_of_ble_eq_true rfl) dX8_times_15 ⟨Nat.le_of_ble_eq_true rfl, Nat.le_of_ble_eq_true rfl⟩ (fun H locs hB => ?_)
  refine lv_ifnonnullN hx hb dX8_times_18 ?_
  refine lv_iconst (v := (-1)) hx hb dX8_times_21 (by decide) ?_
  exact m_iret hx hb hrt hlocks hB (Nat.le_refl _) (Nat.le_refl _) dX8_times_22 ⟨rfl, rfl, rfl, rfl⟩
set_option maxHeartbeats 1000000 in
set_option maxRecDepth 100000 in
theorem c_X_times1_ok (l : Launch) (D : va_G) (ty : Nat → ClassId) (L : List Nat) (ad : Nat → Nat) (g : Nat → va_E) (pn qn : Nat) (nw : Int32) (tr : Int64) (pf : Nat → Option Nat) (pp pt vn : Nat) (fo wd : Int32) (tf : Nat → Option Nat) (k b : Nat) (w t : Nat) (en : Nat) (lo : Int32) (f0 f1 f2 f3 : Nat → Int32) (f4 : Nat → Int64) (m_0 : 0 ∈ L) (m_6 : 6 ∈ L) (m_pp : pp ∈ L) (m_pt : pt ∈ L) (m_22 : 22 ∈ L) (m_23 : 23 ∈ L) (m_24 : 24 ∈ L) (m_25 : 25 ∈ L) (m_26 : 26 ∈ L) (m_27 : 27 ∈ L) (h_0 : g 0 = .inr (8, [.ref (ad 1), .ref (ad 3), .ref (ad 6), .int (nI pn), .ref (ad 7), .ref (ad 20), .ref (ad 22), .ref (ad 28), .int (nI qn), .ref (ad 29), .int nw, .long tr])) (h_6 : g 6 = .inl (ty 4, 8, .inr (.inr (.inr (.inr pf))))) (h_pp : g pp = .inr (1, [.int fo, .ref (ad pt), .int (nI vn), .int wd])) (h_pt : g pt = .inl (ty 7, 4, .inr (.inr (.inr (.inr tf))))) (h_22 : g 22 = .inr (6, [.ref (ad 23), .ref (ad 24), .ref (ad 25), .ref (ad 26), .ref (ad 27), .int (nI en), .int lo])) (h_23 : g 23 = .inl (ty 0, 200, .inl f0)) (h_24 : g 24 = .inl (ty 0, 200, .inl f1)) (h_25 : g 25 = .inl (ty 0, 200, .inl f2)) (h_26 : g 26 = .inl (ty 0, 200, .inl f3)) (h_27 : g 27 = .inl (ty 1, 200, .inr (.inl f4))) (hk : k < 8) (hpp : pf k = some (ad pp)) (hw4 : w < 4) (htf : tf w = some (ad t)) (hb6 : b < 6) (he : en ≤ 200) : m_E l yX8_times wsX8_times 3 63 D ty [.ref (ad 0), .int (nI b), .int (nI k), .int (nI w)] L ad g (some (.int (nI (rdc f1 f2 f3 (nI b) (nI k) (nI w) en)))) g := by
  intro sz
  refine Met.ofW (cc := cX8_times) (maxL := 4) (ret := (some .int)) (by decide) rfl ?_
  intro p e s m args below meth c s₁ B hml hv
  have hx := B.exec
  have hb := B.bytes
  have hrt := B.returns
  have hts := atoms_spec (ws := wsX8_times) B.pre
  have hown : s.vm.findClass RX8 = some m.cls := findClass_of_methodNamed B.named
  have hlocks := B.notSynchronized
  obtain ⟨rfl, hB⟩ := m_start hv
  generalize va_A (m_w L ad g) sz = A at hB ⊢
  generalize s.heap = H at hB ⊢
  generalize ([] : List Loc) = locs at hB ⊢
  have hl := lv_entry ([.ref (ad 0), .int (nI b), .int (nI k), .int (nI w)]) (n := 4) (Nat.le_of_ble_eq_true rfl)
  rw [lg_entry_eq]
  generalize (lg_sl ([.ref (ad 0), .int (nI b), .int (nI k), .int (nI w)]) ++ List.replicate (4 - (lg_sl ([.ref (ad 0), .int (nI b), .int (nI k), .int (nI w)])).length) Slot.unset).toArray = ls at hl ⊢
  have hl : lv_has ls 4 [(0, .ref (ad 0)), (1, .int (nI b)), (2, .int (nI k)), (3, .int (nI w))] := hl
  have tI_b : (nI b).toInt = (b : Int) := nI_toInt (by omega)
  have l6 : (6 : Int32).toInt = 6 := by decide
  refine lv_iload_n hx hb dX8_times_0 rfl (lv_at hl 1 rfl) ?_
  refine lv_bipush (v := 6) hx hb dX8_times_1 (by decide) ?_
  refine m_callSE (As := [.int (nI b), .int 6]) (rest := []) (c_isBelow_t l D ty L ad _ _ _ (by omega) (by omega)) ⟨hx, hb, hml, hown, hts⟩ (va_cwS 2 hts gX8_times_X8_isBelow rfl rfl rfl (by decide +kernel) ⟨Nat.le_of_ble_eq_true rfl, Nat.le_of_ble_eq_true rfl⟩) hB rfl hl.1 rfl (Nat.le_of_ble_eq_true rfl) dX8_times_3 ⟨Nat.le_of_ble_eq_true rfl, Nat.le_of_ble_eq_true rfl⟩ (fun H locs hB => ?_)
  refine b_if_eq_f 21 hx hb dX8_times_6 (by decide) (by decide) ?_
  refine lv_aload_n hx hb dX8_times_9 rfl (lv_at hl 0 rfl) ?_
  refine lv_iload_n hx hb dX8_times_10 rfl (lv_at hl 2 rfl) ?_
  refine m_callVE (ci := 8) (As := [.int (nI k)]) (rest := []) ((by have h9 := c_X_paperNumber_t l D ty L ad g pn qn nw tr pf k m_0 m_6 h_0 h_6 hk; rw [hpp] at h9; exact h9 : m_E l yX8_paperNumber wsX8_paperNumber 1 21 D ty [.ref (ad 0), .int (nI k)] L ad g (some (.ref (ad pp))) g)) ⟨hx, hb, hml, hown, hts⟩ (cwV 1 hts gX8_times_X8_paperNumber rfl rfl rfl (by decide +kernel) ⟨Nat.le_of_ble_eq_true rfl, Nat.le_of_ble_eq_true rfl⟩) hB m_0 h_0 rfl rfl hl.1 rfl (Nat.le_of_ble_eq_true rfl) dX8_times_11 ⟨Nat.le_of_ble_eq_true rfl, Nat.le_of_ble_eq_true rfl⟩ (fun H locs hB => ?_)
  refine lv_iload_n hx hb dX8_times_14 rfl (lv_at hl 3 rfl) ?_
  refine m_callSE (As := [.ref (ad pp), .int (nI w)]) (rest := []) ((by have h9 := c_X_textOf1_t l D ty L ad g pp pt vn fo wd tf w m_pp m_pt h_pp h_pt hw4; rw [htf] at h9; exact h9 : m_E l yX8_textOf wsX8_textOf 2 42 D ty [.ref (ad pp), .int (nI w)] L ad g (some (.ref (ad t))) g)) ⟨hx, hb, hml, hown, hts⟩ (va_cwS 2 hts gX8_times_X8_textOf rfl rfl rfl (by decide +kernel) ⟨Nat.le_of_ble_eq_true rfl, Nat.le_of_ble_eq_true rfl⟩) hB rfl hl.1 rfl (Nat.le_of_ble_eq_true rfl) dX8_times_15 ⟨Nat.le_of_ble_eq_true rfl, Nat.le_of_ble_eq_true rfl⟩ (fun H locs hB => ?_)
  refine lv_ifnonnull (tgt := 23) hx hb dX8_times_18 (by decide) ?_
  refine lv_aload_n hx hb dX8_times_23 rfl (lv_at hl 0 rfl) ?_
  refine m_get (C := RX8) (T := TX8) (N := 12) (ci := 8) hx hb hts in_X8_times_X8 hown hB m_0 h_0 rfl 6 (by decide) (hts (.fieldLink RX8 41 "PaperRoom" "seen" "LPaperRoom$Seen;") (by decide +kernel)) (fun _ h9 => h9) rfl dX8_times_24 ?_
  refine lv_iload_n hx hb dX8_times_27 rfl (lv_at hl 1 rfl) ?_
  refine lv_iload_n hx hb dX8_times_28 rfl (lv_at hl 2 rfl) ?_
  refine lv_iload_n hx hb dX8_times_29 rfl (lv_at hl 3 rfl) ?_
  refine m_callVE (ci := 6) (As := [.int (nI b), .int (nI k), .int (nI w)]) (rest := []) (c_Seen_readings l D ty L ad g 22 23 24 25 26 27 en lo f0 f1 f2 f3 f4 (nI b) (nI k) (nI w) m_22 m_23 m_24 m_25 m_26 m_27 h_22 h_23 h_24 h_25 h_26 h_27 he) ⟨hx, hb, hml, hown, hts⟩ (cwV 3 hts gX8_times_X6_readings rfl rfl rfl (by decide +kernel) ⟨Nat.le_of_ble_eq_true rfl, Nat.le_of_ble_eq_true rfl⟩) hB m_22 h_22 rfl rfl hl.1 rfl (Nat.le_of_ble_eq_true rfl) dX8_times_30 ⟨Nat.le_of_ble_eq_true rfl, Nat.le_of_ble_eq_true rfl⟩ (fun H locs hB => ?_)
  exact m_iret hx hb hrt hlocks hB (Nat.le_refl _) (Nat.le_refl _) dX8_times_33 ⟨rfl, rfl, rfl, rfl⟩
set_option maxHeartbeats 1000000 in
set_option maxRecDepth 100000 in
theorem c_X_blacken1_n (l : Launch) (D : va_G) (ty : Nat → ClassId) (L : List Nat) (ad : Nat → Nat) (g : Nat → va_E) (pn qn : Nat) (nw : Int32) (tr : Int64) (pf : Nat → Option Nat) (pp pt vn : Nat) (fo wd : Int32) (tf : Nat → Option Nat) (k : Nat) (w : Nat) (x y : Int32) (m_0 : 0 ∈ L) (m_6 : 6 ∈ L) (m_pp : pp ∈ L) (m_pt : pt ∈ L) (h_0 : g 0 = .inr (8, [.ref (ad 1), .ref (ad 3), .ref (ad 6), .int (nI pn), .ref (ad 7), .ref (ad 20), .ref (ad 22), .ref (ad 28), .int (nI qn), .ref (ad 29), .int nw, .long tr])) (h_6 : g 6 = .inl (ty 4, 8, .inr (.inr (.inr (.inr pf))))) (h_pp : g pp = .inr (1, [.int fo, .ref (ad pt), .int (nI vn), .int wd])) (h_pt : g pt = .inl (ty 7, 4, .inr (.inr (.inr (.inr tf))))) (hk : k < 8) (hpp : pf k = some (ad pp)) (hw4 : w < 4) (htf : tf w = none) : m_E l yX8_blacken wsX8_blacken 3 63 D ty [.ref (ad 0), .int (nI k), .int (nI w), .int x, .int y] L ad g (some (.int (-1))) g := by
  intro sz
  refine Met.ofW (cc := cX8_blacken) (maxL := 6) (ret := (some .int)) (by decide) rfl ?_
  intro p e s m args below meth c s₁ B hml hv
  have hx := B.exec
  have hb := B.bytes
  have hrt := B.returns
  have hts := atoms_spec (ws := wsX8_blacken) B.pre
  have hown : s.vm.findClass RX8 = some m.cls := findClass_of_methodNamed B.named
  have hlocks := B.notSynchronized
  obtain ⟨rfl, hB⟩ := m_start hv
  generalize va_A (m_w L ad g) sz = A at hB ⊢
  generalize s.heap = H at hB ⊢
  generalize ([] : List Loc) = locs at hB ⊢
  have hl := lv_entry ([.ref (ad 0), .int (nI k), .int (nI w), .int x, .int y]) (n := 6) (Nat.le_of_ble_eq_true rfl)
  rw [lg_entry_eq]
  generalize (lg_sl ([.ref (ad 0), .int (nI k), .int (nI w), .int x, .int y]) ++ List.replicate (6 - (lg_sl ([.ref (ad 0), .int (nI k), .int (nI w), .int x, .int y])).length) Slot.unset).toArray = ls at hl ⊢
  have hl : lv_has ls 6 [(0, .ref (ad 0)), (1, .int (nI k)), (2, .int (nI w)), (3, .int x), (4, .int y)] := hl
  refine lv_aload_n hx hb dX8_blacken_0 rfl (lv_at hl 0 rfl) ?_
  refine lv_iload_n hx hb dX8_blacken_1 rfl (lv_at hl 1 rfl) ?_
  refine m_callVE (ci := 8) (As := [.int (nI k)]) (rest := []) ((by have h9 := c_X_paperNumber_t l D ty L ad g pn qn nw tr pf k m_0 m_6 h_0 h_6 hk; rw [hpp] at h9; exact h9 : m_E l yX8_paperNumber wsX8_paperNumber 1 21 D ty [.ref (ad 0), .int (nI k)] L ad g (some (.ref (ad pp))) g)) ⟨hx, hb, hml, hown, hts⟩ (cwV 1 hts gX8_blacken_X8_paperNumber rfl rfl rfl (by decide +kernel) ⟨Nat.le_of_ble_eq_true rfl, Nat.le_of_ble_eq_true rfl⟩) hB m_0 h_0 rfl rfl hl.1 rfl (Nat.le_of_ble_eq_true rfl) dX8_blacken_2 ⟨Nat.le_of_ble_eq_true rfl, Nat.le_of_ble_eq_true rfl⟩ (fun H locs hB => ?_)
  refine lv_iload_n hx hb dX8_blacken_5 rfl (lv_at hl 2 rfl) ?_
  refine m_callSE (As := [.ref (ad pp), .int (nI w)]) (rest := []) ((by have h9 := c_X_textOf1_t l D ty L ad g pp pt vn fo wd tf w m_pp m_pt h_pp h_pt hw4; rw [htf] at h9; exact h9 : m_E l yX8_textOf wsX8_textOf 2 42 D ty [.ref (ad pp), .int (nI w)] L ad g (some .null) g)) ⟨hx, hb, hml, hown, hts⟩ (va_cwS 2 hts gX8_blacken_X8_textOf rfl rfl rfl (by decide +kernel) ⟨Nat.le_of_ble_eq_true rfl, Nat.le_of_ble_eq_true rfl⟩) hB rfl hl.1 rfl (Nat.le_of_ble_eq_true rfl) dX8_blacken_6 ⟨Nat.le_of_ble_eq_true rfl, Nat.le_of_ble_eq_true rfl⟩ (fun H locs hB => ?_)
  refine lv_astoreN (lv' := [(5, .null), (0, .ref (ad 0)), (1, .int (nI k)), (2, .int (nI w)), (3, .int x), (4, .int y)]) hx hb dX8_blacken_9 hl (by decide) rfl (fun ls hl => ?_)
  refine lv_aloadN hx hb dX8_blacken_11 (lv_at hl 0 rfl) ?_
  refine lv_ifnullN (tgt := 36) hx hb dX8_blacken_13 (by decide) ?_
  refine lv_iconst (v := (-1)) hx hb dX8_blacken_36 (by decide) ?_
  exact m_iret hx hb hrt hlocks hB (Nat.le_refl _) (Nat.le_refl _) dX8_blacken_37 ⟨rfl, rfl, rfl, rfl⟩
set_option maxHeartbeats 1000000 in
set_option maxRecDepth 100000 in
theorem c_X_blacken1_b (l : Launch) (D : va_G) (ty : Nat → ClassId) (L : List Nat) (ad : Nat → Nat) (g : Nat → va_E) (pn qn : Nat) (nw : Int32) (tr : Int64) (pf : Nat → Option Nat) (pp pt vn : Nat) (fo wd : Int32) (tf : Nat → Option Nat) (k : Nat) (v x y : Int32) (m_0 : 0 ∈ L) (m_6 : 6 ∈ L) (m_pp : pp ∈ L) (m_pt : pt ∈ L) (h_0 : g 0 = .inr (8, [.ref (ad 1), .ref (ad 3), .ref (ad 6), .int (nI pn), .ref (ad 7), .ref (ad 20), .ref (ad 22), .ref (ad 28), .int (nI qn), .ref (ad 29), .int nw, .long tr])) (h_6 : g 6 = .inl (ty 4, 8, .inr (.inr (.inr (.inr pf))))) (h_pp : g pp = .inr (1, [.int fo, .ref (ad pt), .int (nI vn), .int wd])) (h_pt : g pt = .inl (ty 7, 4, .inr (.inr (.inr (.inr tf))))) (hk : k < 8) (hpp : pf k = some (ad pp)) (hv4 : ¬ (0 ≤ v.toInt ∧ v.toInt < 4)) : m_E l yX8_blacken wsX8_blacken 3 63 D ty [.ref (ad 0), .int (nI k), .int v, .int x, .int y] L ad g (some (.int (-1))) g := by
  intro sz
  refine Met.ofW (cc := cX8_blacken) (maxL := 6) (ret := (some .int)) (by decide) rfl ?_
  intro p e s m args below meth c s₁ B hml hv
  have hx := B.exec
  have hb := B.bytes
  have hrt := B.returns
  have hts := atoms_spec (ws := wsX8_blacken) B.pre
  have hown : s.vm.findClass RX8 = some m.cls := findClass_of_methodNamed B.named
  have hlocks := B.notSynchronized
  obtain ⟨rfl, hB⟩ := m_start hv
  generalize va_A (m_w L ad g) sz = A at hB ⊢
  generalize s.heap = H at hB ⊢
  generalize ([] : List Loc) = locs at hB ⊢
  have hl := lv_entry ([.ref (ad 0), .int (nI k), .int v, .int x, .int y]) (n := 6) (Nat.le_of_ble_eq_true rfl)
  rw [lg_entry_eq]
  generalize (lg_sl ([.ref (ad 0), .int (nI k), .int v, .int x, .int y]) ++ List.replicate (6 - (lg_sl ([.ref (ad 0), .int (nI k), .int v, .int x, .int y])).length) Slot.unset).toArray = ls at hl ⊢
  have hl : lv_has ls 6 [(0, .ref (ad 0)), (1, .int (nI k)), (2, .int v), (3, .int x), (4, .int y)] := hl
  refine lv_aload_n hx hb dX8_blacken_0 rfl (lv_at hl 0 rfl) ?_
  refine lv_iload_n hx hb dX8_blacken_1 rfl (lv_at hl 1 rfl) ?_
  refine m_callVE (ci := 8) (As := [.int (nI k)]) (rest := []) ((by have h9 := c_X_paperNumber_t l D ty L ad g pn qn nw tr pf k m_0 m_6 h_0 h_6 hk; rw [hpp] at h9; exact h9 : m_E l yX8_paperNumber wsX8_paperNumber 1 21 D ty [.ref (ad 0), .int (nI k)] L ad g (some (.ref (ad pp))) g)) ⟨hx, hb, hml, hown, hts⟩ (cwV 1 hts gX8_blacken_X8_paperNumber rfl rfl rfl (by decide +kernel) ⟨Nat.le_of_ble_eq_true rfl, Nat.le_of_ble_eq_true rfl⟩) hB m_0 h_0 rfl rfl hl.1 rfl (Nat.le_of_ble_eq_true rfl) dX8_blacken_2 ⟨Nat.le_of_ble_eq_true rfl, Nat.le_of_ble_eq_true rfl⟩ (fun H locs hB => ?_)
  refine lv_iload_n hx hb dX8_blacken_5 rfl (lv_at hl 2 rfl) ?_
  refine m_callSE (As := [.ref (ad pp), .int v]) (rest := []) (c_X_textOf1_f l D ty L ad g pp pt vn fo wd tf v m_pp m_pt h_pp h_pt (by rw [show (nI 4).toInt = 4 by decide]; exact hv4)) ⟨hx, hb, hml, hown, hts⟩ (va_cwS 2 hts gX8_blacken_X8_textOf rfl rfl rfl (by decide +kernel) ⟨Nat.le_of_ble_eq_true rfl, Nat.le_of_ble_eq_true rfl⟩) hB rfl hl.1 rfl (Nat.le_of_ble_eq_true rfl) dX8_blacken_6 ⟨Nat.le_of_ble_eq_true rfl, Nat.le_of_ble_eq_true rfl⟩ (fun H locs hB => ?_)
  refine lv_astoreN (lv' := [(5, .null), (0, .ref (ad 0)), (1, .int (nI k)), (2, .int v), (3, .int x), (4, .int y)]) hx hb dX8_blacken_9 hl (by decide) rfl (fun ls hl => ?_)
  refine lv_aloadN hx hb dX8_blacken_11 (lv_at hl 0 rfl) ?_
  refine lv_ifnullN (tgt := 36) hx hb dX8_blacken_13 (by decide) ?_
  refine lv_iconst (v := (-1)) hx hb dX8_blacken_36 (by decide) ?_
  exact m_iret hx hb hrt hlocks hB (Nat.le_refl _) (Nat.le_refl _) dX8_blacken_37 ⟨rfl, rfl, rfl, rfl⟩
set_option maxHeartbeats 1000000 in
set_option maxRecDepth 100000 in
theorem c_X_blacken1_1 (l : Launch) (D : va_G) (ty : Nat → ClassId) (L : List Nat) (ad : Nat → Nat) (g : Nat → va_E) (pn qn : Nat) (nw : Int32) (tr : Int64) (pf : Nat → Option Nat) (pp pt vn : Nat) (fo wd : Int32) (tf : Nat → Option Nat) (k : Nat) (w t ro a bl n : Nat) (bs bk : Nat → Int32) (x y : Int32) (m_0 : 0 ∈ L) (m_6 : 6 ∈ L) (m_pp : pp ∈ L) (m_pt : pt ∈ L) (m_t : t ∈ L) (m_ro : ro ∈ L) (m_a : a ∈ L) (m_bl : bl ∈ L) (h_0 : g 0 = .inr (8, [.ref (ad 1), .ref (ad 3), .ref (ad 6), .int (nI pn), .ref (ad 7), .ref (ad 20), .ref (ad 22), .ref (ad 28), .int (nI qn), .ref (ad 29), .int nw, .long tr])) (h_6 : g 6 = .inl (ty 4, 8, .inr (.inr (.inr (.inr pf))))) (h_pp : g pp = .inr (1, [.int fo, .ref (ad pt), .int (nI vn), .int wd])) (h_pt : g pt = .inl (ty 7, 4, .inr (.inr (.inr (.inr tf))))) (h_t : g t = .inr (7, [.ref (ad ro), .ref (ad bl)])) (h_ro : g ro = .inr (5, [.ref (ad a), .int (nI n)])) (h_a : g a = .inl (ty 2, n, .inl bs)) (h_bl : g bl = .inl (ty 3, n, .inl bk)) (hk : k < 8) (hpp : pf k = some (ad pp)) (hw4 : w < 4) (htf : tf w = some (ad t)) (h : x.toInt < 0) : m_E l yX8_blacken wsX8_blacken 3 63 D ty [.ref (ad 0), .int (nI k), .int (nI w), .int x, .int y] L ad g (some (.int (-1))) g := by
  intro sz
  refine Met.ofW (cc := cX8_blacken) (maxL := 6) (ret := (some .int)) (by decide) rfl ?_
  intro p e s m args below meth c s₁ B hml hv
  have hx := B.exec
  have hb := B.bytes
  have hrt := B.returns
  have hts := atoms_spec (ws := wsX8_blacken) B.pre
  have hown : s.vm.findClass RX8 = some m.cls := findClass_of_methodNamed B.named
  have hlocks := B.notSynchronized
  obtain ⟨rfl, hB⟩ := m_start hv
  generalize va_A (m_w L ad g) sz = A at hB ⊢
  generalize s.heap = H at hB ⊢
  generalize ([] : List Loc) = locs at hB ⊢
  have hl := lv_entry ([.ref (ad 0), .int (nI k), .int (nI w), .int x, .int y]) (n := 6) (Nat.le_of_ble_eq_true rfl)
  rw [lg_entry_eq]
  generalize (lg_sl ([.ref (ad 0), .int (nI k), .int (nI w), .int x, .int y]) ++ List.replicate (6 - (lg_sl ([.ref (ad 0), .int (nI k), .int (nI w), .int x, .int y])).length) Slot.unset).toArray = ls at hl ⊢
  have hl : lv_has ls 6 [(0, .ref (ad 0)), (1, .int (nI k)), (2, .int (nI w)), (3, .int x), (4, .int y)] := hl
  refine lv_aload_n hx hb dX8_blacken_0 rfl (lv_at hl 0 rfl) ?_
  refine lv_iload_n hx hb dX8_blacken_1 rfl (lv_at hl 1 rfl) ?_
  refine m_callVE (ci := 8) (As := [.int (nI k)]) (rest := []) ((by have h9 := c_X_paperNumber_t l D ty L ad g pn qn nw tr pf k m_0 m_6 h_0 h_6 hk; rw [hpp] at h9; exact h9 : m_E l yX8_paperNumber wsX8_paperNumber 1 21 D ty [.ref (ad 0), .int (nI k)] L ad g (some (.ref (ad pp))) g)) ⟨hx, hb, hml, hown, hts⟩ (cwV 1 hts gX8_blacken_X8_paperNumber rfl rfl rfl (by decide +kernel) ⟨Nat.le_of_ble_eq_true rfl, Nat.le_of_ble_eq_true rfl⟩) hB m_0 h_0 rfl rfl hl.1 rfl (Nat.le_of_ble_eq_true rfl) dX8_blacken_2 ⟨Nat.le_of_ble_eq_true rfl, Nat.le_of_ble_eq_true rfl⟩ (fun H locs hB => ?_)
  refine lv_iload_n hx hb dX8_blacken_5 rfl (lv_at hl 2 rfl) ?_
  refine m_callSE (As := [.ref (ad pp), .int (nI w)]) (rest := []) ((by have h9 := c_X_textOf1_t l D ty L ad g pp pt vn fo wd tf w m_pp m_pt h_pp h_pt hw4; rw [htf] at h9; exact h9 : m_E l yX8_textOf wsX8_textOf 2 42 D ty [.ref (ad pp), .int (nI w)] L ad g (some (.ref (ad t))) g)) ⟨hx, hb, hml, hown, hts⟩ (va_cwS 2 hts gX8_blacken_X8_textOf rfl rfl rfl (by decide +kernel) ⟨Nat.le_of_ble_eq_true rfl, Nat.le_of_ble_eq_true rfl⟩) hB rfl hl.1 rfl (Nat.le_of_ble_eq_true rfl) dX8_blacken_6 ⟨Nat.le_of_ble_eq_true rfl, Nat.le_of_ble_eq_true rfl⟩ (fun H locs hB => ?_)
  refine lv_astore (lv' := [(5, .ref (ad t)), (0, .ref (ad 0)), (1, .int (nI k)), (2, .int (nI w)), (3, .int x), (4, .int y)]) hx hb dX8_blacken_9 hl (by decide) rfl (fun ls hl => ?_)
  refine lv_aload hx hb dX8_blacken_11 (lv_at hl 0 rfl) ?_
  refine lv_ifnull hx hb dX8_blacken_13 ?_
  refine lv_iload_n hx hb dX8_blacken_16 rfl (lv_at hl 4 rfl) ?_
  refine b_if_lt_t 36 hx hb dX8_blacken_17 (by decide) (by have := (by decide : (0 : Int32).toInt = 0); omega) ?_
  refine lv_iconst (v := (-1)) hx hb dX8_blacken_36 (by decide) ?_
  exact m_iret hx hb hrt hlocks hB (Nat.le_refl _) (Nat.le_refl _) dX8_blacken_37 ⟨rfl, rfl, rfl, rfl⟩
set_option maxHeartbeats 1000000 in
set_option maxRecDepth 100000 in
theorem c_X_blacken1_2 (l : Launch) (D : va_G) (ty : Nat → ClassId) (L : List Nat) (ad : Nat → Nat) (g : Nat → va_E) (pn qn : Nat) (nw : Int32) (tr : Int64) (pf : Nat → Option Nat) (pp pt vn : Nat) (fo wd : Int32) (tf : Nat → Option Nat) (k : Nat) (w t ro a bl n : Nat) (bs bk : Nat → Int32) (x y : Int32) (m_0 : 0 ∈ L) (m_6 : 6 ∈ L) (m_pp : pp ∈ L) (m_pt : pt ∈ L) (m_t : t ∈ L) (m_ro : ro ∈ L) (m_a : a ∈ L) (m_bl : bl ∈ L) (h_0 : g 0 = .inr (8, [.ref (ad 1), .ref (ad 3), .ref (ad 6), .int (nI pn), .ref (ad 7), .ref (ad 20), .ref (ad 22), .ref (ad 28), .int (nI qn), .ref (ad 29), .int nw, .long tr])) (h_6 : g 6 = .inl (ty 4, 8, .inr (.inr (.inr (.inr pf))))) (h_pp : g pp = .inr (1, [.int fo, .ref (ad pt), .int (nI vn), .int wd])) (h_pt : g pt = .inl (ty 7, 4, .inr (.inr (.inr (.inr tf))))) (h_t : g t = .inr (7, [.ref (ad ro), .ref (ad bl)])) (h_ro : g ro = .inr (5, [.ref (ad a), .int (nI n)])) (h_a : g a = .inl (ty 2, n, .inl bs)) (h_bl : g bl = .inl (ty 3, n, .inl bk)) (hk : k < 8) (hpp : pf k = some (ad pp)) (hw4 : w < 4) (htf : tf w = some (ad t)) (h1 : 0 ≤ x.toInt) (h : y.toInt ≤ x.toInt) : m_E l yX8_blacken wsX8_blacken 3 63 D ty [.ref (ad 0), .int (nI k), .int (nI w), .int x, .int y] L ad g (some (.int (-1))) g := by
  intro sz
  refine Met.ofW (cc := cX8_blacken) (maxL := 6) (ret := (some .int)) (by decide) rfl ?_
  intro p e s m args below meth c s₁ B hml hv
  have hx := B.exec
  have hb := B.bytes
  have hrt := B.returns
  have hts := atoms_spec (ws := wsX8_blacken) B.pre
  have hown : s.vm.findClass RX8 = some m.cls := findClass_of_methodNamed B.named
  have hlocks := B.notSynchronized
  obtain ⟨rfl, hB⟩ := m_start hv
  generalize va_A (m_w L ad g) sz = A at hB ⊢
  generalize s.heap = H at hB ⊢
  generalize ([] : List Loc) = locs at hB ⊢
  have hl := lv_entry ([.ref (ad 0), .int (nI k), .int (nI w), .int x, .int y]) (n := 6) (Nat.le_of_ble_eq_true rfl)
  rw [lg_entry_eq]
  generalize (lg_sl ([.ref (ad 0), .int (nI k), .int (nI w), .int x, .int y]) ++ List.replicate (6 - (lg_sl ([.ref (ad 0), .int (nI k), .int (nI w), .int x, .int y])).length) Slot.unset).toArray = ls at hl ⊢
  have hl : lv_has ls 6 [(0, .ref (ad 0)), (1, .int (nI k)), (2, .int (nI w)), (3, .int x), (4, .int y)] := hl
  refine lv_aload_n hx hb dX8_blacken_0 rfl (lv_at hl 0 rfl) ?_
  refine lv_iload_n hx hb dX8_blacken_1 rfl (lv_at hl 1 rfl) ?_
  refine m_callVE (ci := 8) (As := [.int (nI k)]) (rest := []) ((by have h9 := c_X_paperNumber_t l D ty L ad g pn qn nw tr pf k m_0 m_6 h_0 h_6 hk; rw [hpp] at h9; exact h9 : m_E l yX8_paperNumber wsX8_paperNumber 1 21 D ty [.ref (ad 0), .int (nI k)] L ad g (some (.ref (ad pp))) g)) ⟨hx, hb, hml, hown, hts⟩ (cwV 1 hts gX8_blacken_X8_paperNumber rfl rfl rfl (by decide +kernel) ⟨Nat.le_of_ble_eq_true rfl, Nat.le_of_ble_eq_true rfl⟩) hB m_0 h_0 rfl rfl hl.1 rfl (Nat.le_of_ble_eq_true rfl) dX8_blacken_2 ⟨Nat.le_of_ble_eq_true rfl, Nat.le_of_ble_eq_true rfl⟩ (fun H locs hB => ?_)
  refine lv_iload_n hx hb dX8_blacken_5 rfl (lv_at hl 2 rfl) ?_
  refine m_callSE (As := [.ref (ad pp), .int (nI w)]) (rest := []) ((by have h9 := c_X_textOf1_t l D ty L ad g pp pt vn fo wd tf w m_pp m_pt h_pp h_pt hw4; rw [htf] at h9; exact h9 : m_E l yX8_textOf wsX8_textOf 2 42 D ty [.ref (ad pp), .int (nI w)] L ad g (some (.ref (ad t))) g)) ⟨hx, hb, hml, hown, hts⟩ (va_cwS 2 hts gX8_blacken_X8_textOf rfl rfl rfl (by decide +kernel) ⟨Nat.le_of_ble_eq_true rfl, Nat.le_of_ble_eq_true rfl⟩) hB rfl hl.1 rfl (Nat.le_of_ble_eq_true rfl) dX8_blacken_6 ⟨Nat.le_of_ble_eq_true rfl, Nat.le_of_ble_eq_true rfl⟩ (fun H locs hB => ?_)
  refine lv_astore (lv' := [(5, .ref (ad t)), (0, .ref (ad 0)), (1, .int (nI k)), (2, .int (nI w)), (3, .int x), (4, .int y)]) hx hb dX8_blacken_9 hl (by decide) rfl (fun ls hl => ?_)
  refine lv_aload hx hb dX8_blacken_11 (lv_at hl 0 rfl) ?_
  refine lv_ifnull hx hb dX8_blacken_13 ?_
  refine lv_iload_n hx hb dX8_blacken_16 rfl (lv_at hl 4 rfl) ?_
  refine b_if_lt_f 36 hx hb dX8_blacken_17 (by decide) (by have := (by decide : (0 : Int32).toInt = 0); omega) ?_
  refine lv_iload_n hx hb dX8_blacken_20 rfl (lv_at hl 4 rfl) ?_
  refine lv_iload hx hb dX8_blacken_21 (lv_at hl 5 rfl) ?_
  refine b_icmp_ge_t 36 hx hb dX8_blacken_23 (by decide) (by omega) ?_
  refine lv_iconst (v := (-1)) hx hb dX8_blacken_36 (by decide) ?_
  exact m_iret hx hb hrt hlocks hB (Nat.le_refl _) (Nat.le_refl _) dX8_blacken_37 ⟨rfl, rfl, rfl, rfl⟩
set_option maxHeartbeats 1000000 in
set_option maxRecDepth 100000 in
theorem c_X_blacken1_3 (l : Launch) (D : va_G) (ty : Nat → ClassId) (L : List Nat) (ad : Nat → Nat) (g : Nat → va_E) (pn qn : Nat) (nw : Int32) (tr : Int64) (pf : Nat → Option Nat) (pp pt vn : Nat) (fo wd : Int32) (tf : Nat → Option Nat) (k : Nat) (w t ro a bl n : Nat) (bs bk : Nat → Int32) (x y : Int32) (m_0 : 0 ∈ L) (m_6 : 6 ∈ L) (m_pp : pp ∈ L) (m_pt : pt ∈ L) (m_t : t ∈ L) (m_ro : ro ∈ L) (m_a : a ∈ L) (m_bl : bl ∈ L) (h_0 : g 0 = .inr (8, [.ref (ad 1), .ref (ad 3), .ref (ad 6), .int (nI pn), .ref (ad 7), .ref (ad 20), .ref (ad 22), .ref (ad 28), .int (nI qn), .ref (ad 29), .int nw, .long tr])) (h_6 : g 6 = .inl (ty 4, 8, .inr (.inr (.inr (.inr pf))))) (h_pp : g pp = .inr (1, [.int fo, .ref (ad pt), .int (nI vn), .int wd])) (h_pt : g pt = .inl (ty 7, 4, .inr (.inr (.inr (.inr tf))))) (h_t : g t = .inr (7, [.ref (ad ro), .ref (ad bl)])) (h_ro : g ro = .inr (5, [.ref (ad a), .int (nI n)])) (h_a : g a = .inl (ty 2, n, .inl bs)) (h_bl : g bl = .inl (ty 3, n, .inl bk)) (hk : k < 8) (hpp : pf k = some (ad pp)) (hw4 : w < 4) (htf : tf w = some (ad t)) (hn40 : n ≤ 40) (h1 : 0 ≤ x.toInt) (h2 : x.toInt < y.toInt) (h : (n : Int) < y.toInt) : m_E l yX8_blacken wsX8_blacken 3 63 D ty [.ref (ad 0), .int (nI k), .int (nI w), .int x, .int y] L ad g (some (.int (-1))) g := by
  intro sz
  refine Met.ofW (cc := cX8_blacken) (maxL := 6) (ret := (some .int)) (by decide) rfl ?_
  intro p e s m args below meth c s₁ B hml hv
  have hx := B.exec
  have hb := B.bytes
  have hrt := B.returns
  have hts := atoms_spec (ws := wsX8_blacken) B.pre
  have hown : s.vm.findClass RX8 = some m.cls := findClass_of_methodNamed B.named
  have hlocks := B.notSynchronized
  obtain ⟨rfl, hB⟩ := m_start hv
  generalize va_A (m_w L ad g) sz = A at hB ⊢
  generalize s.heap = H at hB ⊢
  generalize ([] : List Loc) = locs at hB ⊢
  have hl := lv_entry ([.ref (ad 0), .int (nI k), .int (nI w), .int x, .int y]) (n := 6) (Nat.le_of_ble_eq_true rfl)
  rw [lg_entry_eq]
  generalize (lg_sl ([.ref (ad 0), .int (nI k), .int (nI w), .int x, .int y]) ++ List.replicate (6 - (lg_sl ([.ref (ad 0), .int (nI k), .int (nI w), .int x, .int y])).length) Slot.unset).toArray = ls at hl ⊢
  have hl : lv_has ls 6 [(0, .ref (ad 0)), (1, .int (nI k)), (2, .int (nI w)), (3, .int x), (4, .int y)] := hl
  have tI_n : (nI n).toInt = (n : Int) := nI_toInt (by omega)
  refine lv_aload_n hx hb dX8_blacken_0 rfl (lv_at hl 0 rfl) ?_
  refine lv_iload_n hx hb dX8_blacken_1 rfl (lv_at hl 1 rfl) ?_
  refine m_callVE (ci := 8) (As := [.int (nI k)]) (rest := []) ((by have h9 := c_X_paperNumber_t l D ty L ad g pn qn nw tr pf k m_0 m_6 h_0 h_6 hk; rw [hpp] at h9; exact h9 : m_E l yX8_paperNumber wsX8_paperNumber 1 21 D ty [.ref (ad 0), .int (nI k)] L ad g (some (.ref (ad pp))) g)) ⟨hx, hb, hml, hown, hts⟩ (cwV 1 hts gX8_blacken_X8_paperNumber rfl rfl rfl (by decide +kernel) ⟨Nat.le_of_ble_eq_true rfl, Nat.le_of_ble_eq_true rfl⟩) hB m_0 h_0 rfl rfl hl.1 rfl (Nat.le_of_ble_eq_true rfl) dX8_blacken_2 ⟨Nat.le_of_ble_eq_true rfl, Nat.le_of_ble_eq_true rfl⟩ (fun H locs hB => ?_)
  refine lv_iload_n hx hb dX8_blacken_5 rfl (lv_at hl 2 rfl) ?_
  refine m_callSE (As := [.ref (ad pp), .int (nI w)]) (rest := []) ((by have h9 := c_X_textOf1_t l D ty L ad g pp pt vn fo wd tf w m_pp m_pt h_pp h_pt hw4; rw [htf] at h9; exact h9 : m_E l yX8_textOf wsX8_textOf 2 42 D ty [.ref (ad pp), .int (nI w)] L ad g (some (.ref (ad t))) g)) ⟨hx, hb, hml, hown, hts⟩ (va_cwS 2 hts gX8_blacken_X8_textOf rfl rfl rfl (by decide +kernel) ⟨Nat.le_of_ble_eq_true rfl, Nat.le_of_ble_eq_true rfl⟩) hB rfl hl.1 rfl (Nat.le_of_ble_eq_true rfl) dX8_blacken_6 ⟨Nat.le_of_ble_eq_true rfl, Nat.le_of_ble_eq_true rfl⟩ (fun H locs hB => ?_)
  refine lv_astore (lv' := [(5, .ref (ad t)), (0, .ref (ad 0)), (1, .int (nI k)), (2, .int (nI w)), (3, .int x), (4, .int y)]) hx hb dX8_blacken_9 hl (by decide) rfl (fun ls hl => ?_)
  refine lv_aload hx hb dX8_blacken_11 (lv_at hl 0 rfl) ?_
  refine lv_ifnull hx hb dX8_blacken_13 ?_
  refine lv_iload_n hx hb dX8_blacken_16 rfl (lv_at hl 4 rfl) ?_
  refine b_if_lt_f 36 hx hb dX8_blacken_17 (by decide) (by have := (by decide : (0 : Int32).toInt = 0); omega) ?_
  refine lv_iload_n hx hb dX8_blacken_20 rfl (lv_at hl 4 rfl) ?_
  refine lv_iload hx hb dX8_blacken_21 (lv_at hl 5 rfl) ?_
  refine b_icmp_ge_f 36 hx hb dX8_blacken_23 (by decide) (by omega) ?_
  refine lv_iload hx hb dX8_blacken_26 (lv_at hl 5 rfl) ?_
  refine lv_aload hx hb dX8_blacken_28 (lv_at hl 0 rfl) ?_
  refine m_callVE (ci := 7) (As := []) (rest := [.int y]) (c_Text_length l D ty L ad g t ro a bl n m_t m_ro h_t h_ro) ⟨hx, hb, hml, hown, hts⟩ (cwV 0 hts gX8_blacken_X7_length rfl rfl rfl (by decide +kernel) ⟨Nat.le_of_ble_eq_true rfl, Nat.le_of_ble_eq_true rfl⟩) hB m_t h_t rfl rfl hl.1 rfl (Nat.le_of_ble_eq_true rfl) dX8_blacken_30 ⟨Nat.le_of_ble_eq_true rfl, Nat.le_of_ble_eq_true rfl⟩ (fun H locs hB => ?_)
  refine b_icmp_le_f 38 hx hb dX8_blacken_33 (by decide) (by omega) ?_
  refine lv_iconst (v := (-1)) hx hb dX8_blacken_36 (by decide) ?_
  exact m_iret hx hb hrt hlocks hB (Nat.le_refl _) (Nat.le_refl _) dX8_blacken_37 ⟨rfl, rfl, rfl, rfl⟩
set_option maxHeartbeats 1000000 in
set_option maxRecDepth 100000 in
theorem c_X_blacken1_ok (l : Launch) (D : va_G) (ty : Nat → ClassId) (L : List Nat) (ad : Nat → Nat) (g : Nat → va_E) (pn qn : Nat) (nw : Int32) (tr : Int64) (pf : Nat → Option Nat) (pp pt vn : Nat) (fo wd : Int32) (tf : Nat → Option Nat) (k : Nat) (w t ro a bl n : Nat) (bs bk : Nat → Int32) (x y : Nat) (m_0 : 0 ∈ L) (m_6 : 6 ∈ L) (m_pp : pp ∈ L) (m_pt : pt ∈ L) (m_t : t ∈ L) (m_ro : ro ∈ L) (m_a : a ∈ L) (m_bl : bl ∈ L) (h_0 : g 0 = .inr (8, [.ref (ad 1), .ref (ad 3), .ref (ad 6), .int (nI pn), .ref (ad 7), .ref (ad 20), .ref (ad 22), .ref (ad 28), .int (nI qn), .ref (ad 29), .int nw, .long tr])) (h_6 : g 6 = .inl (ty 4, 8, .inr (.inr (.inr (.inr pf))))) (h_pp : g pp = .inr (1, [.int fo, .ref (ad pt), .int (nI vn), .int wd])) (h_pt : g pt = .inl (ty 7, 4, .inr (.inr (.inr (.inr tf))))) (h_t : g t = .inr (7, [.ref (ad ro), .ref (ad bl)])) (h_ro : g ro = .inr (5, [.ref (ad a), .int (nI n)])) (h_a : g a = .inl (ty 2, n, .inl bs)) (h_bl : g bl = .inl (ty 3, n, .inl bk)) (hk : k < 8) (hpp : pf k = some (ad pp)) (hw4 : w < 4) (htf : tf w = some (ad t)) (hn40 : n ≤ 40) (h2 : x < y) (h3 : y ≤ n) (hne : t ≠ bl) (hbk : ∀ i, i < n → bk i = 0 ∨ bk i = 1) : m_E l yX8_blacken wsX8_blacken 3 63 D ty [.ref (ad 0), .int (nI k), .int (nI w), .int (nI x), .int (nI y)] L ad g (some (.int (nI (bl_c bk x y n)))) (va_up g bl (.inl (ty 3, n, .inl (bl_f bk x y n)))) := by
  intro sz
  refine Met.ofW (cc := cX8_blacken) (maxL := 6) (ret := (some .int)) (by decide) rfl ?_
  intro p e s m args below meth c s₁ B hml hv
  have hx := B.exec
  have hb := B.bytes
  have hrt := B.returns
  have hts := atoms_spec (ws := wsX8_blacken) B.pre
  have hown : s.vm.findClass RX8 = some m.cls := findClass_of_methodNamed B.named
  have hlocks := B.notSynchronized
  obtain ⟨rfl, hB⟩ := m_start hv
  generalize va_A (m_w L ad g) sz = A at hB ⊢
  generalize s.heap = H at hB ⊢
  generalize ([] : List Loc) = locs at hB ⊢
  have hl := lv_entry ([.ref (ad 0), .int (nI k), .int (nI w), .int (nI x), .int (nI y)]) (n := 6) (Nat.le_of_ble_eq_true rfl)
  rw [lg_entry_eq]
  generalize (lg_sl ([.ref (ad 0), .int (nI k), .int (nI w), .int (nI x), .int (nI y)]) ++ List.replicate (6 - (lg_sl ([.ref (ad 0), .int (nI k), .int (nI w), .int (nI x), .int (nI y)])).length) Slot.unset).toArray = ls at hl ⊢
  have hl : lv_has ls 6 [(0, .ref (ad 0)), (1, .int (nI k)), (2, .int (nI w)), (3, .int (nI x)), (4, .int (nI y))] := hl
  have tI_n : (nI n).toInt = (n : Int) := nI_toInt (by omega)
  have tI_x : (nI x).toInt = (x : Int) := nI_toInt (by omega)
  have tI_y : (nI y).toInt = (y : Int) := nI_toInt (by omega)
  refine lv_aload_n hx hb dX8_blacken_0 rfl (lv_at hl 0 rfl) ?_
  refine lv_iload_n hx hb dX8_blacken_1 rfl (lv_at hl 1 rfl) ?_
  refine m_callVE (ci := 8) (As := [.int (nI k)]) (rest := []) ((by have h9 := c_X_paperNumber_t l D ty L ad g pn qn nw tr pf k m_0 m_6 h_0 h_6 hk; rw [hpp] at h9; exact h9 : m_E l yX8_paperNumber wsX8_paperNumber 1 21 D ty [.ref (ad 0), .int (nI k)] L ad g (some (.ref (ad pp))) g)) ⟨hx, hb, hml, hown, hts⟩ (cwV 1 hts gX8_blacken_X8_paperNumber rfl rfl rfl (by decide +kernel) ⟨Nat.le_of_ble_eq_true rfl, Nat.le_of_ble_eq_true rfl⟩) hB m_0 h_0 rfl rfl hl.1 rfl (Nat.le_of_ble_eq_true rfl) dX8_blacken_2 ⟨Nat.le_of_ble_eq_true rfl, Nat.le_of_ble_eq_true rfl⟩ (fun H locs hB => ?_)
  refine lv_iload_n hx hb dX8_blacken_5 rfl (lv_at hl 2 rfl) ?_
  refine m_callSE (As := [.ref (ad pp), .int (nI w)]) (rest := []) ((by have h9 := c_X_textOf1_t l D ty L ad g pp pt vn fo wd tf w m_pp m_pt h_pp h_pt hw4; rw [htf] at h9; exact h9 : m_E l yX8_textOf wsX8_textOf 2 42 D ty [.ref (ad pp), .int (nI w)] L ad g (some (.ref (ad t))) g)) ⟨hx, hb, hml, hown, hts⟩ (va_cwS 2 hts gX8_blacken_X8_textOf rfl rfl rfl (by decide +kernel) ⟨Nat.le_of_ble_eq_true rfl, Nat.le_of_ble_eq_true rfl⟩) hB rfl hl.1 rfl (Nat.le_of_ble_eq_true rfl) dX8_blacken_6 ⟨Nat.le_of_ble_eq_true rfl, Nat.le_of_ble_eq_true rfl⟩ (fun H locs hB => ?_)
  refine lv_astore (lv' := [(5, .ref (ad t)), (0, .ref (ad 0)), (1, .int (nI k)), (2, .int (nI w)), (3, .int (nI x)), (4, .int (nI y))]) hx hb dX8_blacken_9 hl (by decide) rfl (fun ls hl => ?_)
  refine lv_aload hx hb dX8_blacken_11 (lv_at hl 0 rfl) ?_
  refine lv_ifnull hx hb dX8_blacken_13 ?_
  refine lv_iload_n hx hb dX8_blacken_16 rfl (lv_at hl 4 rfl) ?_
  refine b_if_lt_f 36 hx hb dX8_blacken_17 (by decide) (by have := (by decide : (0 : Int32).toInt = 0); omega) ?_
  refine lv_iload_n hx hb dX8_blacken_20 rfl (lv_at hl 4 rfl) ?_
  refine lv_iload hx hb dX8_blacken_21 (lv_at hl 5 rfl) ?_
  refine b_icmp_ge_f 36 hx hb dX8_blacken_23 (by decide) (by omega) ?_
  refine lv_iload hx hb dX8_blacken_26 (lv_at hl 5 rfl) ?_
  refine lv_aload hx hb dX8_blacken_28 (lv_at hl 0 rfl) ?_
  refine m_callVE (ci := 7) (As := []) (rest := [.int (nI y)]) (c_Text_length l D ty L ad g t ro a bl n m_t m_ro h_t h_ro) ⟨hx, hb, hml, hown, hts⟩ (cwV 0 hts gX8_blacken_X7_length rfl rfl rfl (by decide +kernel) ⟨Nat.le_of_ble_eq_true rfl, Nat.le_of_ble_eq_true rfl⟩) hB m_t h_t rfl rfl hl.1 rfl (Nat.le_of_ble_eq_true rfl) dX8_blacken_30 ⟨Nat.le_of_ble_eq_true rfl, Nat.le_of_ble_eq_true rfl⟩ (fun H locs hB => ?_)
  refine b_icmp_le_t 38 hx hb dX8_blacken_33 (by decide) (by omega) ?_
  refine lv_aload hx hb dX8_blacken_38 (lv_at hl 0 rfl) ?_
  refine lv_iload_n hx hb dX8_blacken_40 rfl (lv_at hl 4 rfl) ?_
  refine lv_iload hx hb dX8_blacken_41 (lv_at hl 5 rfl) ?_
  refine m_callVE (ci := 7) (As := [.int (nI x), .int (nI y)]) (rest := []) (c_Text_span l D ty L ad g t ro a bl n bs bk x y m_t m_ro m_a m_bl h_t h_ro h_a h_bl hn40 hne h3 h2 hbk) ⟨hx, hb, hml, hown, hts⟩ (cwV 2 hts gX8_blacken_X7_blackenSpan rfl rfl rfl (by decide +kernel) ⟨Nat.le_of_ble_eq_true rfl, Nat.le_of_ble_eq_true rfl⟩) hB m_t h_t rfl rfl hl.1 rfl (Nat.le_of_ble_eq_true rfl) dX8_blacken_43 ⟨Nat.le_of_ble_eq_true rfl, Nat.le_of_ble_eq_true rfl⟩ (fun H locs hB => ?_)
  replace hB : m_B D ty A s L ad (va_up g bl (.inl (ty 3, n, .inl (bl_f bk x y n)))) H locs := hB
  exact m_iret hx hb hrt hlocks hB (Nat.le_refl _) (Nat.le_refl _) dX8_blacken_46 ⟨rfl, rfl, rfl, rfl⟩
set_option maxHeartbeats 1000000 in
set_option maxRecDepth 100000 in
theorem c_X_times2_n (l : Launch) (D : va_G) (ty : Nat → ClassId) (L : List Nat) (ad : Nat → Nat) (g : Nat → va_E) (pn qn : Nat) (nw : Int32) (tr : Int64) (pf : Nat → Option Nat) (pp pt vn : Nat) (fo wd : Int32) (tf : Nat → Option Nat) (k b : Nat) (w : Nat) (m_0 : 0 ∈ L) (m_6 : 6 ∈ L) (m_pp : pp ∈ L) (m_pt : pt ∈ L) (h_0 : g 0 = .inr (8, [.ref (ad 1), .ref (ad 3), .ref (ad 6), .int (nI pn), .ref (ad 7), .ref (ad 20), .ref (ad 22), .ref (ad 28), .int (nI qn), .ref (ad 29), .int nw, .long tr])) (h_6 : g 6 = .inl (ty 4, 8, .inr (.inr (.inr (.inr pf))))) (h_pp : g pp = .inr (2, [.int fo, .ref (ad pt), .int (nI vn), .int wd])) (h_pt : g pt = .inl (ty 7, 4, .inr (.inr (.inr (.inr tf))))) (hk : k < 8) (hpp : pf k = some (ad pp)) (hw4 : w < 4) (htf : tf w = none) (hb6 : b < 6) : m_E l yX8_times wsX8_times 3 63 D ty [.ref (ad 0), .int (nI b), .int (nI k), .int (nI w)] L ad g (some (.int (-1))) g := by
  intro sz
  refine Met.ofW (cc := cX8_times) (maxL := 4) (ret := (some .int)) (by decide) rfl ?_
  intro p e s m args below meth c s₁ B hml hv
  have hx := B.exec
  have hb := B.bytes
  have hrt := B.returns
  have hts := atoms_spec (ws := wsX8_times) B.pre
  have hown : s.vm.findClass RX8 = some m.cls := findClass_of_methodNamed B.named
  have hlocks := B.notSynchronized
  obtain ⟨rfl, hB⟩ := m_start hv
  generalize va_A (m_w L ad g) sz = A at hB ⊢
  generalize s.heap = H at hB ⊢
  generalize ([] : List Loc) = locs at hB ⊢
  have hl := lv_entry ([.ref (ad 0), .int (nI b), .int (nI k), .int (nI w)]) (n := 4) (Nat.le_of_ble_eq_true rfl)
  rw [lg_entry_eq]
  generalize (lg_sl ([.ref (ad 0), .int (nI b), .int (nI k), .int (nI w)]) ++ List.replicate (4 - (lg_sl ([.ref (ad 0), .int (nI b), .int (nI k), .int (nI w)])).length) Slot.unset).toArray = ls at hl ⊢
  have hl : lv_has ls 4 [(0, .ref (ad 0)), (1, .int (nI b)), (2, .int (nI k)), (3, .int (nI w))] := hl
  have tI_b : (nI b).toInt = (b : Int) := nI_toInt (by omega)
  have l6 : (6 : Int32).toInt = 6 := by decide
  refine lv_iload_n hx hb dX8_times_0 rfl (lv_at hl 1 rfl) ?_
  refine lv_bipush (v := 6) hx hb dX8_times_1 (by decide) ?_
  refine m_callSE (As := [.int (nI b), .int 6]) (rest := []) (c_isBelow_t l D ty L ad _ _ _ (by omega) (by omega)) ⟨hx, hb, hml, hown, hts⟩ (va_cwS 2 hts gX8_times_X8_isBelow rfl rfl rfl (by decide +kernel) ⟨Nat.le_of_ble_eq_true rfl, Nat.le_of_ble_eq_true rfl⟩) hB rfl hl.1 rfl (Nat.le_of_ble_eq_true rfl) dX8_times_3 ⟨Nat.le_of_ble_eq_true rfl, Nat.le_of_ble_eq_true rfl⟩ (fun H locs hB => ?_)
  refine b_if_eq_f 21 hx hb dX8_times_6 (by decide) (by decide) ?_
  refine lv_aload_n hx hb dX8_times_9 rfl (lv_at hl 0 rfl) ?_
  refine lv_iload_n hx hb dX8_times_10 rfl (lv_at hl 2 rfl) ?_
  refine m_callVE (ci := 8) (As := [.int (nI k)]) (rest := []) ((by have h9 := c_X_paperNumber_t l D ty L ad g pn qn nw tr pf k m_0 m_6 h_0 h_6 hk; rw [hpp] at h9; exact h9 : m_E l yX8_paperNumber wsX8_paperNumber 1 21 D ty [.ref (ad 0), .int (nI k)] L ad g (some (.ref (ad pp))) g)) ⟨hx, hb, hml, hown, hts⟩ (cwV 1 hts gX8_times_X8_paperNumber rfl rfl rfl (by decide +kernel) ⟨Nat.le_of_ble_eq_true rfl, Nat.le_of_ble_eq_true rfl⟩) hB m_0 h_0 rfl rfl hl.1 rfl (Nat.le_of_ble_eq_true rfl) dX8_times_11 ⟨Nat.le_of_ble_eq_true rfl, Nat.le_of_ble_eq_true rfl⟩ (fun H locs hB => ?_)
  refine lv_iload_n hx hb dX8_times_14 rfl (lv_at hl 3 rfl) ?_
  refine m_callSE (As := [.ref (ad pp), .int (nI w)]) (rest := []) ((by have h9 := c_X_textOf2_t l D ty L ad g pp pt vn fo wd tf w m_pp m_pt h_pp h_pt hw4; rw [htf] at h9; exact h9 : m_E l yX8_textOf wsX8_textOf 2 42 D ty [.ref (ad pp), .int (nI w)] L ad g (some .null) g)) ⟨hx, hb, hml, hown, hts⟩ (va_cwS 2 hts gX8_times_X8_textOf rfl rfl rfl (by decide +kernel) ⟨Nat.le_of_ble_eq_true rfl, Nat.le_of_ble_eq_true rfl⟩) hB rfl hl.1 rfl (Nat.le_of_ble_eq_true rfl) dX8_times_15 ⟨Nat.le_of_ble_eq_true rfl, Nat.le_of_ble_eq_true rfl⟩ (fun H locs hB => ?_)
  refine lv_ifnonnullN hx hb dX8_times_18 ?_
  refine lv_iconst (v := (-1)) hx hb dX8_times_21 (by decide) ?_
  exact m_iret hx hb hrt hlocks hB (Nat.le_refl _) (Nat.le_refl _) dX8_times_22 ⟨rfl, rfl, rfl, rfl⟩
set_option maxHeartbeats 1000000 in
set_option maxRecDepth 100000 in
theorem c_X_times2_b (l : Launch) (D : va_G) (ty : Nat → ClassId) (L : List Nat) (ad : Nat → Nat) (g : Nat → va_E) (pn qn : Nat) (nw : Int32) (tr : Int64) (pf : Nat → Option Nat) (pp pt vn : Nat) (fo wd : Int32) (tf : Nat → Option Nat) (k b : Nat) (v : Int32) (m_0 : 0 ∈ L) (m_6 : 6 ∈ L) (m_pp : pp ∈ L) (m_pt : pt ∈ L) (h_0 : g 0 = .inr (8, [.ref (ad 1), .ref (ad 3), .ref (ad 6), .int (nI pn), .ref (ad 7), .ref (ad 20), .ref (ad 22), .ref (ad 28), .int (nI qn), .ref (ad 29), .int nw, .long tr])) (h_6 : g 6 = .inl (ty 4, 8, .inr (.inr (.inr (.inr pf))))) (h_pp : g pp = .inr (2, [.int fo, .ref (ad pt), .int (nI vn), .int wd])) (h_pt : g pt = .inl (ty 7, 4, .inr (.inr (.inr (.inr tf))))) (hk : k < 8) (hpp : pf k = some (ad pp)) (hv4 : ¬ (0 ≤ v.toInt ∧ v.toInt < 4)) (hb6 : b < 6) : m_E l yX8_times wsX8_times 3 63 D ty [.ref (ad 0), .int (nI b), .int (nI k), .int v] L ad g (some (.int (-1))) g := by
  intro sz
  refine Met.ofW (cc := cX8_times) (maxL := 4) (ret := (some .int)) (by decide) rfl ?_
  intro p e s m args below meth c s₁ B hml hv
  have hx := B.exec
  have hb := B.bytes
  have hrt := B.returns
  have hts := atoms_spec (ws := wsX8_times) B.pre
  have hown : s.vm.findClass RX8 = some m.cls := findClass_of_methodNamed B.named
  have hlocks := B.notSynchronized
  obtain ⟨rfl, hB⟩ := m_start hv
  generalize va_A (m_w L ad g) sz = A at hB ⊢
  generalize s.heap = H at hB ⊢
  generalize ([] : List Loc) = locs at hB ⊢
  have hl := lv_entry ([.ref (ad 0), .int (nI b), .int (nI k), .int v]) (n := 4) (Nat.le_of_ble_eq_true rfl)
  rw [lg_entry_eq]
  generalize (lg_sl ([.ref (ad 0), .int (nI b), .int (nI k), .int v]) ++ List.replicate (4 - (lg_sl ([.ref (ad 0), .int (nI b), .int (nI k), .int v])).length) Slot.unset).toArray = ls at hl ⊢
  have hl : lv_has ls 4 [(0, .ref (ad 0)), (1, .int (nI b)), (2, .int (nI k)), (3, .int v)] := hl
  have tI_b : (nI b).toInt = (b : Int) := nI_toInt (by omega)
  have l6 : (6 : Int32).toInt = 6 := by decide
  refine lv_iload_n hx hb dX8_times_0 rfl (lv_at hl 1 rfl) ?_
  refine lv_bipush (v := 6) hx hb dX8_times_1 (by decide) ?_
  refine m_callSE (As := [.int (nI b), .int 6]) (rest := []) (c_isBelow_t l D ty L ad _ _ _ (by omega) (by omega)) ⟨hx, hb, hml, hown, hts⟩ (va_cwS 2 hts gX8_times_X8_isBelow rfl rfl rfl (by decide +kernel) ⟨Nat.le_of_ble_eq_true rfl, Nat.le_of_ble_eq_true rfl⟩) hB rfl hl.1 rfl (Nat.le_of_ble_eq_true rfl) dX8_times_3 ⟨Nat.le_of_ble_eq_true rfl, Nat.le_of_ble_eq_true rfl⟩ (fun H locs hB => ?_)
  refine b_if_eq_f 21 hx hb dX8_times_6 (by decide) (by decide) ?_
  refine lv_aload_n hx hb dX8_times_9 rfl (lv_at hl 0 rfl) ?_
  refine lv_iload_n hx hb dX8_times_10 rfl (lv_at hl 2 rfl) ?_
  refine m_callVE (ci := 8) (As := [.int (nI k)]) (rest := []) ((by have h9 := c_X_paperNumber_t l D ty L ad g pn qn nw tr pf k m_0 m_6 h_0 h_6 hk; rw [hpp] at h9; exact h9 : m_E l yX8_paperNumber wsX8_paperNumber 1 21 D ty [.ref (ad 0), .int (nI k)] L ad g (some (.ref (ad pp))) g)) ⟨hx, hb, hml, hown, hts⟩ (cwV 1 hts gX8_times_X8_paperNumber rfl rfl rfl (by decide +kernel) ⟨Nat.le_of_ble_eq_true rfl, Nat.le_of_ble_eq_true rfl⟩) hB m_0 h_0 rfl rfl hl.1 rfl (Nat.le_of_ble_eq_true rfl) dX8_times_11 ⟨Nat.le_of_ble_eq_true rfl, Nat.le_of_ble_eq_true rfl⟩ (fun H locs hB => ?_)
  refine lv_iload_n hx hb dX8_times_14 rfl (lv_at hl 3 rfl) ?_
  refine m_callSE (As := [.ref (ad pp), .int v]) (rest := []) (c_X_textOf2_f l D ty L ad g pp pt vn fo wd tf v m_pp m_pt h_pp h_pt (by rw [show (nI 4).toInt = 4 by decide]; exact hv4)) ⟨hx, hb, hml, hown, hts⟩ (va_cwS 2 hts gX8_times_X8_textOf rfl rfl rfl (by decide +kernel) ⟨Nat.le_of_ble_eq_true rfl, Nat.le_of_ble_eq_true rfl⟩) hB rfl hl.1 rfl (Nat.le_of_ble_eq_true rfl) dX8_times_15 ⟨Nat.le_of_ble_eq_true rfl, Nat.le_of_ble_eq_true rfl⟩ (fun H locs hB => ?_)
  refine lv_ifnonnullN hx hb dX8_times_18 ?_
  refine lv_iconst (v := (-1)) hx hb dX8_times_21 (by decide) ?_
  exact m_iret hx hb hrt hlocks hB (Nat.le_refl _) (Nat.le_refl _) dX8_times_22 ⟨rfl, rfl, rfl, rfl⟩
set_option maxHeartbeats 1000000 in
set_option maxRecDepth 100000 in
theorem c_X_times2_ok (l : Launch) (D : va_G) (ty : Nat → ClassId) (L : List Nat) (ad : Nat → Nat) (g : Nat → va_E) (pn qn : Nat) (nw : Int32) (tr : Int64) (pf : Nat → Option Nat) (pp pt vn : Nat) (fo wd : Int32) (tf : Nat → Option Nat) (k b : Nat) (w t : Nat) (en : Nat) (lo : Int32) (f0 f1 f2 f3 : Nat → Int32) (f4 : Nat → Int64) (m_0 : 0 ∈ L) (m_6 : 6 ∈ L) (m_pp : pp ∈ L) (m_pt : pt ∈ L) (m_22 : 22 ∈ L) (m_23 : 23 ∈ L) (m_24 : 24 ∈ L) (m_25 : 25 ∈ L) (m_26 : 26 ∈ L) (m_27 : 27 ∈ L) (h_0 : g 0 = .inr (8, [.ref (ad 1), .ref (ad 3), .ref (ad 6), .int (nI pn), .ref (ad 7), .ref (ad 20), .ref (ad 22), .ref (ad 28), .int (nI qn), .ref (ad 29), .int nw, .long tr])) (h_6 : g 6 = .inl (ty 4, 8, .inr (.inr (.inr (.inr pf))))) (h_pp : g pp = .inr (2, [.int fo, .ref (ad pt), .int (nI vn), .int wd])) (h_pt : g pt = .inl (ty 7, 4, .inr (.inr (.inr (.inr tf))))) (h_22 : g 22 = .inr (6, [.ref (ad 23), .ref (ad 24), .ref (ad 25), .ref (ad 26), .ref (ad 27), .int (nI en), .int lo])) (h_23 : g 23 = .inl (ty 0, 200, .inl f0)) (h_24 : g 24 = .inl (ty 0, 200, .inl f1)) (h_25 : g 25 = .inl (ty 0, 200, .inl f2)) (h_26 : g 26 = .inl (ty 0, 200, .inl f3)) (h_27 : g 27 = .inl (ty 1, 200, .inr (.inl f4))) (hk : k < 8) (hpp : pf k = some (ad pp)) (hw4 : w < 4) (htf : tf w = some (ad t)) (hb6 : b < 6) (he : en ≤ 200) : m_E l yX8_times wsX8_times 3 63 D ty [.ref (ad 0), .int (nI b), .int (nI k), .int (nI w)] L ad g (some (.int (nI (rdc f1 f2 f3 (nI b) (nI k) (nI w) en)))) g := by
  intro sz
  refine Met.ofW (cc := cX8_times) (maxL := 4) (ret := (some .int)) (by decide) rfl ?_
  intro p e s m args below meth c s₁ B hml hv
  have hx := B.exec
  have hb := B.bytes
  have hrt := B.returns
  have hts := atoms_spec (ws := wsX8_times) B.pre
  have hown : s.vm.findClass RX8 = some m.cls := findClass_of_methodNamed B.named
  have hlocks := B.notSynchronized
  obtain ⟨rfl, hB⟩ := m_start hv
  generalize va_A (m_w L ad g) sz = A at hB ⊢
  generalize s.heap = H at hB ⊢
  generalize ([] : List Loc) = locs at hB ⊢
  have hl := lv_entry ([.ref (ad 0), .int (nI b), .int (nI k), .int (nI w)]) (n := 4) (Nat.le_of_ble_eq_true rfl)
  rw [lg_entry_eq]
  generalize (lg_sl ([.ref (ad 0), .int (nI b), .int (nI k), .int (nI w)]) ++ List.replicate (4 - (lg_sl ([.ref (ad 0), .int (nI b), .int (nI k), .int (nI w)])).length) Slot.unset).toArray = ls at hl ⊢
  have hl : lv_has ls 4 [(0, .ref (ad 0)), (1, .int (nI b)), (2, .int (nI k)), (3, .int (nI w))] := hl
  have tI_b : (nI b).toInt = (b : Int) := nI_toInt (by omega)
  have l6 : (6 : Int32).toInt = 6 := by decide
  refine lv_iload_n hx hb dX8_times_0 rfl (lv_at hl 1 rfl) ?_
  refine lv_bipush (v := 6) hx hb dX8_times_1 (by decide) ?_
  refine m_callSE (As := [.int (nI b), .int 6]) (rest := []) (c_isBelow_t l D ty L ad _ _ _ (by omega) (by omega)) ⟨hx, hb, hml, hown, hts⟩ (va_cwS 2 hts gX8_times_X8_isBelow rfl rfl rfl (by decide +kernel) ⟨Nat.le_of_ble_eq_true rfl, Nat.le_of_ble_eq_true rfl⟩) hB rfl hl.1 rfl (Nat.le_of_ble_eq_true rfl) dX8_times_3 ⟨Nat.le_of_ble_eq_true rfl, Nat.le_of_ble_eq_true rfl⟩ (fun H locs hB => ?_)
  refine b_if_eq_f 21 hx hb dX8_times_6 (by decide) (by decide) ?_
  refine lv_aload_n hx hb dX8_times_9 rfl (lv_at hl 0 rfl) ?_
  refine lv_iload_n hx hb dX8_times_10 rfl (lv_at hl 2 rfl) ?_
  refine m_callVE (ci := 8) (As := [.int (nI k)]) (rest := []) ((by have h9 := c_X_paperNumber_t l D ty L ad g pn qn nw tr pf k m_0 m_6 h_0 h_6 hk; rw [hpp] at h9; exact h9 : m_E l yX8_paperNumber wsX8_paperNumber 1 21 D ty [.ref (ad 0), .int (nI k)] L ad g (some (.ref (ad pp))) g)) ⟨hx, hb, hml, hown, hts⟩ (cwV 1 hts gX8_times_X8_paperNumber rfl rfl rfl (by decide +kernel) ⟨Nat.le_of_ble_eq_true rfl, Nat.le_of_ble_eq_true rfl⟩) hB m_0 h_0 rfl rfl hl.1 rfl (Nat.le_of_ble_eq_true rfl) dX8_times_11 ⟨Nat.le_of_ble_eq_true rfl, Nat.le_of_ble_eq_true rfl⟩ (fun H locs hB => ?_)
  refine lv_iload_n hx hb dX8_times_14 rfl (lv_at hl 3 rfl) ?_
  refine m_callSE (As := [.ref (ad pp), .int (nI w)]) (rest := []) ((by have h9 := c_X_textOf2_t l D ty L ad g pp pt vn fo wd tf w m_pp m_pt h_pp h_pt hw4; rw [htf] at h9; exact h9 : m_E l yX8_textOf wsX8_textOf 2 42 D ty [.ref (ad pp), .int (nI w)] L ad g (some (.ref (ad t))) g)) ⟨hx, hb, hml, hown, hts⟩ (va_cwS 2 hts gX8_times_X8_textOf rfl rfl rfl (by decide +kernel) ⟨Nat.le_of_ble_eq_true rfl, Nat.le_of_ble_eq_true rfl⟩) hB rfl hl.1 rfl (Nat.le_of_ble_eq_true rfl) dX8_times_15 ⟨Nat.le_of_ble_eq_true rfl, Nat.le_of_ble_eq_true rfl⟩ (fun H locs hB => ?_)
  refine lv_ifnonnull (tgt := 23) hx hb dX8_times_18 (by decide) ?_
  refine lv_aload_n hx hb dX8_times_23 rfl (lv_at hl 0 rfl) ?_
  refine m_get (C := RX8) (T := TX8) (N := 12) (ci := 8) hx hb hts in_X8_times_X8 hown hB m_0 h_0 rfl 6 (by decide) (hts (.fieldLink RX8 41 "PaperRoom" "seen" "LPaperRoom$Seen;") (by decide +kernel)) (fun _ h9 => h9) rfl dX8_times_24 ?_
  refine lv_iload_n hx hb dX8_times_27 rfl (lv_at hl 1 rfl) ?_
  refine lv_iload_n hx hb dX8_times_28 rfl (lv_at hl 2 rfl) ?_
  refine lv_iload_n hx hb dX8_times_29 rfl (lv_at hl 3 rfl) ?_
  refine m_callVE (ci := 6) (As := [.int (nI b), .int (nI k), .int (nI w)]) (rest := []) (c_Seen_readings l D ty L ad g 22 23 24 25 26 27 en lo f0 f1 f2 f3 f4 (nI b) (nI k) (nI w) m_22 m_23 m_24 m_25 m_26 m_27 h_22 h_23 h_24 h_25 h_26 h_27 he) ⟨hx, hb, hml, hown, hts⟩ (cwV 3 hts gX8_times_X6_readings rfl rfl rfl (by decide +kernel) ⟨Nat.le_of_ble_eq_true rfl, Nat.le_of_ble_eq_true rfl⟩) hB m_22 h_22 rfl rfl hl.1 rfl (Nat.le_of_ble_eq_true rfl) dX8_times_30 ⟨Nat.le_of_ble_eq_true rfl, Nat.le_of_ble_eq_true rfl⟩ (fun H locs hB => ?_)
  exact m_iret hx hb hrt hlocks hB (Nat.le_refl _) (Nat.le_refl _) dX8_times_33 ⟨rfl, rfl, rfl, rfl⟩
set_option maxHeartbeats 1000000 in
set_option maxRecDepth 100000 in
theorem c_X_blacken2_n (l : Launch) (D : va_G) (ty : Nat → ClassId) (L : List Nat) (ad : Nat → Nat) (g : Nat → va_E) (pn qn : Nat) (nw : Int32) (tr : Int64) (pf : Nat → Option Nat) (pp pt vn : Nat) (fo wd : Int32) (tf : Nat → Option Nat) (k : Nat) (w : Nat) (x y : Int32) (m_0 : 0 ∈ L) (m_6 : 6 ∈ L) (m_pp : pp ∈ L) (m_pt : pt ∈ L) (h_0 : g 0 = .inr (8, [.ref (ad 1), .ref (ad 3), .ref (ad 6), .int (nI pn), .ref (ad 7), .ref (ad 20), .ref (ad 22), .ref (ad 28), .int (nI qn), .ref (ad 29), .int nw, .long tr])) (h_6 : g 6 = .inl (ty 4, 8, .inr (.inr (.inr (.inr pf))))) (h_pp : g pp = .inr (2, [.int fo, .ref (ad pt), .int (nI vn), .int wd])) (h_pt : g pt = .inl (ty 7, 4, .inr (.inr (.inr (.inr tf))))) (hk : k < 8) (hpp : pf k = some (ad pp)) (hw4 : w < 4) (htf : tf w = none) : m_E l yX8_blacken wsX8_blacken 3 63 D ty [.ref (ad 0), .int (nI k), .int (nI w), .int x, .int y] L ad g (some (.int (-1))) g := by
  intro sz
  refine Met.ofW (cc := cX8_blacken) (maxL := 6) (ret := (some .int)) (by decide) rfl ?_
  intro p e s m args below meth c s₁ B hml hv
  have hx := B.exec
  have hb := B.bytes
  have hrt := B.returns
  have hts := atoms_spec (ws := wsX8_blacken) B.pre
  have hown : s.vm.findClass RX8 = some m.cls := findClass_of_methodNamed B.named
  have hlocks := B.notSynchronized
  obtain ⟨rfl, hB⟩ := m_start hv
  generalize va_A (m_w L ad g) sz = A at hB ⊢
  generalize s.heap = H at hB ⊢
  generalize ([] : List Loc) = locs at hB ⊢
  have hl := lv_entry ([.ref (ad 0), .int (nI k), .int (nI w), .int x, .int y]) (n := 6) (Nat.le_of_ble_eq_true rfl)
  rw [lg_entry_eq]
  generalize (lg_sl ([.ref (ad 0), .int (nI k), .int (nI w), .int x, .int y]) ++ List.replicate (6 - (lg_sl ([.ref (ad 0), .int (nI k), .int (nI w), .int x, .int y])).length) Slot.unset).toArray = ls at hl ⊢
  have hl : lv_has ls 6 [(0, .ref (ad 0)), (1, .int (nI k)), (2, .int (nI w)), (3, .int x), (4, .int y)] := hl
  refine lv_aload_n hx hb dX8_blacken_0 rfl (lv_at hl 0 rfl) ?_
  refine lv_iload_n hx hb dX8_blacken_1 rfl (lv_at hl 1 rfl) ?_
  refine m_callVE (ci := 8) (As := [.int (nI k)]) (rest := []) ((by have h9 := c_X_paperNumber_t l D ty L ad g pn qn nw tr pf k m_0 m_6 h_0 h_6 hk; rw [hpp] at h9; exact h9 : m_E l yX8_paperNumber wsX8_paperNumber 1 21 D ty [.ref (ad 0), .int (nI k)] L ad g (some (.ref (ad pp))) g)) ⟨hx, hb, hml, hown, hts⟩ (cwV 1 hts gX8_blacken_X8_paperNumber rfl rfl rfl (by decide +kernel) ⟨Nat.le_of_ble_eq_true rfl, Nat.le_of_ble_eq_true rfl⟩) hB m_0 h_0 rfl rfl hl.1 rfl (Nat.le_of_ble_eq_true rfl) dX8_blacken_2 ⟨Nat.le_of_ble_eq_true rfl, Nat.le_of_ble_eq_true rfl⟩ (fun H locs hB => ?_)
  refine lv_iload_n hx hb dX8_blacken_5 rfl (lv_at hl 2 rfl) ?_
  refine m_callSE (As := [.ref (ad pp), .int (nI w)]) (rest := []) ((by have h9 := c_X_textOf2_t l D ty L ad g pp pt vn fo wd tf w m_pp m_pt h_pp h_pt hw4; rw [htf] at h9; exact h9 : m_E l yX8_textOf wsX8_textOf 2 42 D ty [.ref (ad pp), .int (nI w)] L ad g (some .null) g)) ⟨hx, hb, hml, hown, hts⟩ (va_cwS 2 hts gX8_blacken_X8_textOf rfl rfl rfl (by decide +kernel) ⟨Nat.le_of_ble_eq_true rfl, Nat.le_of_ble_eq_true rfl⟩) hB rfl hl.1 rfl (Nat.le_of_ble_eq_true rfl) dX8_blacken_6 ⟨Nat.le_of_ble_eq_true rfl, Nat.le_of_ble_eq_true rfl⟩ (fun H locs hB => ?_)
  refine lv_astoreN (lv' := [(5, .null), (0, .ref (ad 0)), (1, .int (nI k)), (2, .int (nI w)), (3, .int x), (4, .int y)]) hx hb dX8_blacken_9 hl (by decide) rfl (fun ls hl => ?_)
  refine lv_aloadN hx hb dX8_blacken_11 (lv_at hl 0 rfl) ?_
  refine lv_ifnullN (tgt := 36) hx hb dX8_blacken_13 (by decide) ?_
  refine lv_iconst (v := (-1)) hx hb dX8_blacken_36 (by decide) ?_
  exact m_iret hx hb hrt hlocks hB (Nat.le_refl _) (Nat.le_refl _) dX8_blacken_37 ⟨rfl, rfl, rfl, rfl⟩
set_option maxHeartbeats 1000000 in
set_option maxRecDepth 100000 in
theorem c_X_blacken2_b (l : Launch) (D : va_G) (ty : Nat → ClassId) (L : List Nat) (ad : Nat → Nat) (g : Nat → va_E) (pn qn : Nat) (nw : Int32) (tr : Int64) (pf : Nat → Option Nat) (pp pt vn : Nat) (fo wd : Int32) (tf : Nat → Option Nat) (k : Nat) (v x y : Int32) (m_0 : 0 ∈ L) (m_6 : 6 ∈ L) (m_pp : pp ∈ L) (m_pt : pt ∈ L) (h_0 : g 0 = .inr (8, [.ref (ad 1), .ref (ad 3), .ref (ad 6), .int (nI pn), .ref (ad 7), .ref (ad 20), .ref (ad 22), .ref (ad 28), .int (nI qn), .ref (ad 29), .int nw, .long tr])) (h_6 : g 6 = .inl (ty 4, 8, .inr (.inr (.inr (.inr pf))))) (h_pp : g pp = .inr (2, [.int fo, .ref (ad pt), .int (nI vn), .int wd])) (h_pt : g pt = .inl (ty 7, 4, .inr (.inr (.inr (.inr tf))))) (hk : k < 8) (hpp : pf k = some (ad pp)) (hv4 : ¬ (0 ≤ v.toInt ∧ v.toInt < 4)) : m_E l yX8_blacken wsX8_blacken 3 63 D ty [.ref (ad 0), .int (nI k), .int v, .int x, .int y] L ad g (some (.int (-1))) g := by
  intro sz
  refine Met.ofW (cc := cX8_blacken) (maxL := 6) (ret := (some .int)) (by decide) rfl ?_
  intro p e s m args below meth c s₁ B hml hv
  have hx := B.exec
  have hb := B.bytes
  have hrt := B.returns
  have hts := atoms_spec (ws := wsX8_blacken) B.pre
  have hown : s.vm.findClass RX8 = some m.cls := findClass_of_methodNamed B.named
  have hlocks := B.notSynchronized
  obtain ⟨rfl, hB⟩ := m_start hv
  generalize va_A (m_w L ad g) sz = A at hB ⊢
  generalize s.heap = H at hB ⊢
  generalize ([] : List Loc) = locs at hB ⊢
  have hl := lv_entry ([.ref (ad 0), .int (nI k), .int v, .int x, .int y]) (n := 6) (Nat.le_of_ble_eq_true rfl)
  rw [lg_entry_eq]
  generalize (lg_sl ([.ref (ad 0), .int (nI k), .int v, .int x, .int y]) ++ List.replicate (6 - (lg_sl ([.ref (ad 0), .int (nI k), .int v, .int x, .int y])).length) Slot.unset).toArray = ls at hl ⊢
  have hl : lv_has ls 6 [(0, .ref (ad 0)), (1, .int (nI k)), (2, .int v), (3, .int x), (4, .int y)] := hl
  refine lv_aload_n hx hb dX8_blacken_0 rfl (lv_at hl 0 rfl) ?_
  refine lv_iload_n hx hb dX8_blacken_1 rfl (lv_at hl 1 rfl) ?_
  refine m_callVE (ci := 8) (As := [.int (nI k)]) (rest := []) ((by have h9 := c_X_paperNumber_t l D ty L ad g pn qn nw tr pf k m_0 m_6 h_0 h_6 hk; rw [hpp] at h9; exact h9 : m_E l yX8_paperNumber wsX8_paperNumber 1 21 D ty [.ref (ad 0), .int (nI k)] L ad g (some (.ref (ad pp))) g)) ⟨hx, hb, hml, hown, hts⟩ (cwV 1 hts gX8_blacken_X8_paperNumber rfl rfl rfl (by decide +kernel) ⟨Nat.le_of_ble_eq_true rfl, Nat.le_of_ble_eq_true rfl⟩) hB m_0 h_0 rfl rfl hl.1 rfl (Nat.le_of_ble_eq_true rfl) dX8_blacken_2 ⟨Nat.le_of_ble_eq_true rfl, Nat.le_of_ble_eq_true rfl⟩ (fun H locs hB => ?_)
  refine lv_iload_n hx hb dX8_blacken_5 rfl (lv_at hl 2 rfl) ?_
  refine m_callSE (As := [.ref (ad pp), .int v]) (rest := []) (c_X_textOf2_f l D ty L ad g pp pt vn fo wd tf v m_pp m_pt h_pp h_pt (by rw [show (nI 4).toInt = 4 by decide]; exact hv4)) ⟨hx, hb, hml, hown, hts⟩ (va_cwS 2 hts gX8_blacken_X8_textOf rfl rfl rfl (by decide +kernel) ⟨Nat.le_of_ble_eq_true rfl, Nat.le_of_ble_eq_true rfl⟩) hB rfl hl.1 rfl (Nat.le_of_ble_eq_true rfl) dX8_blacken_6 ⟨Nat.le_of_ble_eq_true rfl, Nat.le_of_ble_eq_true rfl⟩ (fun H locs hB => ?_)
  refine lv_astoreN (lv' := [(5, .null), (0, .ref (ad 0)), (1, .int (nI k)), (2, .int v), (3, .int x), (4, .int y)]) hx hb dX8_blacken_9 hl (by decide) rfl (fun ls hl => ?_)
  refine lv_aloadN hx hb dX8_blacken_11 (lv_at hl 0 rfl) ?_
  refine lv_ifnullN (tgt := 36) hx hb dX8_blacken_13 (by decide) ?_
  refine lv_iconst (v := (-1)) hx hb dX8_blacken_36 (by decide) ?_
  exact m_iret hx hb hrt hlocks hB (Nat.le_refl _) (Nat.le_refl _) dX8_blacken_37 ⟨rfl, rfl, rfl, rfl⟩
set_option maxHeartbeats 1000000 in
set_option maxRecDepth 100000 in
theorem c_X_blacken2_1 (l : Launch) (D : va_G) (ty : Nat → ClassId) (L : List Nat) (ad : Nat → Nat) (g : Nat → va_E) (pn qn : Nat) (nw : Int32) (tr : Int64) (pf : Nat → Option Nat) (pp pt vn : Nat) (fo wd : Int32) (tf : Nat → Option Nat) (k : Nat) (w t ro a bl n : Nat) (bs bk : Nat → Int32) (x y : Int32) (m_0 : 0 ∈ L) (m_6 : 6 ∈ L) (m_pp : pp ∈ L) (m_pt : pt ∈ L) (m_t : t ∈ L) (m_ro : ro ∈ L) (m_a : a ∈ L) (m_bl : bl ∈ L) (h_0 : g 0 = .inr (8, [.ref (ad 1), .ref (ad 3), .ref (ad 6), .int (nI pn), .ref (ad 7), .ref (ad 20), .ref (ad 22), .ref (ad 28), .int (nI qn), .ref (ad 29), .int nw, .long tr])) (h_6 : g 6 = .inl (ty 4, 8, .inr (.inr (.inr (.inr pf))))) (h_pp : g pp = .inr (2, [.int fo, .ref (ad pt), .int (nI vn), .int wd])) (h_pt : g pt = .inl (ty 7, 4, .inr (.inr (.inr (.inr tf))))) (h_t : g t = .inr (7, [.ref (ad ro), .ref (ad bl)])) (h_ro : g ro = .inr (5, [.ref (ad a), .int (nI n)])) (h_a : g a = .inl (ty 2, n, .inl bs)) (h_bl : g bl = .inl (ty 3, n, .inl bk)) (hk : k < 8) (hpp : pf k = some (ad pp)) (hw4 : w < 4) (htf : tf w = some (ad t)) (h : x.toInt < 0) : m_E l yX8_blacken wsX8_blacken 3 63 D ty [.ref (ad 0), .int (nI k), .int (nI w), .int x, .int y] L ad g (some (.int (-1))) g := by
  intro sz
  refine Met.ofW (cc := cX8_blacken) (maxL := 6) (ret := (some .int)) (by decide) rfl ?_
  intro p e s m args below meth c s₁ B hml hv
  have hx := B.exec
  have hb := B.bytes
  have hrt := B.returns
  have hts := atoms_spec (ws := wsX8_blacken) B.pre
  have hown : s.vm.findClass RX8 = some m.cls := findClass_of_methodNamed B.named
  have hlocks := B.notSynchronized
  obtain ⟨rfl, hB⟩ := m_start hv
  generalize va_A (m_w L ad g) sz = A at hB ⊢
  generalize s.heap = H at hB ⊢
  generalize ([] : List Loc) = locs at hB ⊢
  have hl := lv_entry ([.ref (ad 0), .int (nI k), .int (nI w), .int x, .int y]) (n := 6) (Nat.le_of_ble_eq_true rfl)
  rw [lg_entry_eq]
  generalize (lg_sl ([.ref (ad 0), .int (nI k), .int (nI w), .int x, .int y]) ++ List.replicate (6 - (lg_sl ([.ref (ad 0), .int (nI k), .int (nI w), .int x, .int y])).length) Slot.unset).toArray = ls at hl ⊢
  have hl : lv_has ls 6 [(0, .ref (ad 0)), (1, .int (nI k)), (2, .int (nI w)), (3, .int x), (4, .int y)] := hl
  refine lv_aload_n hx hb dX8_blacken_0 rfl (lv_at hl 0 rfl) ?_
  refine lv_iload_n hx hb dX8_blacken_1 rfl (lv_at hl 1 rfl) ?_
  refine m_callVE (ci := 8) (As := [.int (nI k)]) (rest := []) ((by have h9 := c_X_paperNumber_t l D ty L ad g pn qn nw tr pf k m_0 m_6 h_0 h_6 hk; rw [hpp] at h9; exact h9 : m_E l yX8_paperNumber wsX8_paperNumber 1 21 D ty [.ref (ad 0), .int (nI k)] L ad g (some (.ref (ad pp))) g)) ⟨hx, hb, hml, hown, hts⟩ (cwV 1 hts gX8_blacken_X8_paperNumber rfl rfl rfl (by decide +kernel) ⟨Nat.le_of_ble_eq_true rfl, Nat.le_of_ble_eq_true rfl⟩) hB m_0 h_0 rfl rfl hl.1 rfl (Nat.le_of_ble_eq_true rfl) dX8_blacken_2 ⟨Nat.le_of_ble_eq_true rfl, Nat.le_of_ble_eq_true rfl⟩ (fun H locs hB => ?_)
  refine lv_iload_n hx hb dX8_blacken_5 rfl (lv_at hl 2 rfl) ?_
  refine m_callSE (As := [.ref (ad pp), .int (nI w)]) (rest := []) ((by have h9 := c_X_textOf2_t l D ty L ad g pp pt vn fo wd tf w m_pp m_pt h_pp h_pt hw4; rw [htf] at h9; exact h9 : m_E l yX8_textOf wsX8_textOf 2 42 D ty [.ref (ad pp), .int (nI w)] L ad g (some (.ref (ad t))) g)) ⟨hx, hb, hml, hown, hts⟩ (va_cwS 2 hts gX8_blacken_X8_textOf rfl rfl rfl (by decide +kernel) ⟨Nat.le_of_ble_eq_true rfl, Nat.le_of_ble_eq_true rfl⟩) hB rfl hl.1 rfl (Nat.le_of_ble_eq_true rfl) dX8_blacken_6 ⟨Nat.le_of_ble_eq_true rfl, Nat.le_of_ble_eq_true rfl⟩ (fun H locs hB => ?_)
  refine lv_astore (lv' := [(5, .ref (ad t)), (0, .ref (ad 0)), (1, .int (nI k)), (2, .int (nI w)), (3, .int x), (4, .int y)]) hx hb dX8_blacken_9 hl (by decide) rfl (fun ls hl => ?_)
  refine lv_aload hx hb dX8_blacken_11 (lv_at hl 0 rfl) ?_
  refine lv_ifnull hx hb dX8_blacken_13 ?_
  refine lv_iload_n hx hb dX8_blacken_16 rfl (lv_at hl 4 rfl) ?_
  refine b_if_lt_t 36 hx hb dX8_blacken_17 (by decide) (by have := (by decide : (0 : Int32).toInt = 0); omega) ?_
  refine lv_iconst (v := (-1)) hx hb dX8_blacken_36 (by decide) ?_
  exact m_iret hx hb hrt hlocks hB (Nat.le_refl _) (Nat.le_refl _) dX8_blacken_37 ⟨rfl, rfl, rfl, rfl⟩
set_option maxHeartbeats 1000000 in
set_option maxRecDepth 100000 in
theorem c_X_blacken2_2 (l : Launch) (D : va_G) (ty : Nat → ClassId) (L : List Nat) (ad : Nat → Nat) (g : Nat → va_E) (pn qn : Nat) (nw : Int32) (tr : Int64) (pf : Nat → Option Nat) (pp pt vn : Nat) (fo wd : Int32) (tf : Nat → Option Nat) (k : Nat) (w t ro a bl n : Nat) (bs bk : Nat → Int32) (x y : Int32) (m_0 : 0 ∈ L) (m_6 : 6 ∈ L) (m_pp : pp ∈ L) (m_pt : pt ∈ L) (m_t : t ∈ L) (m_ro : ro ∈ L) (m_a : a ∈ L) (m_bl : bl ∈ L) (h_0 : g 0 = .inr (8, [.ref (ad 1), .ref (ad 3), .ref (ad 6), .int (nI pn), .ref (ad 7), .ref (ad 20), .ref (ad 22), .ref (ad 28), .int (nI qn), .ref (ad 29), .int nw, .long tr])) (h_6 : g 6 = .inl (ty 4, 8, .inr (.inr (.inr (.inr pf))))) (h_pp : g pp = .inr (2, [.int fo, .ref (ad pt), .int (nI vn), .int wd])) (h_pt : g pt = .inl (ty 7, 4, .inr (.inr (.inr (.inr tf))))) (h_t : g t = .inr (7, [.ref (ad ro), .ref (ad bl)])) (h_ro : g ro = .inr (5, [.ref (ad a), .int (nI n)])) (h_a : g a = .inl (ty 2, n, .inl bs)) (h_bl : g bl = .inl (ty 3, n, .inl bk)) (hk : k < 8) (hpp : pf k = some (ad pp)) (hw4 : w < 4) (htf : tf w = some (ad t)) (h1 : 0 ≤ x.toInt) (h : y.toInt ≤ x.toInt) : m_E l yX8_blacken wsX8_blacken 3 63 D ty [.ref (ad 0), .int (nI k), .int (nI w), .int x, .int y] L ad g (some (.int (-1))) g := by
  intro sz
  refine Met.ofW (cc := cX8_blacken) (maxL := 6) (ret := (some .int)) (by decide) rfl ?_
  intro p e s m args below meth c s₁ B hml hv
  have hx := B.exec
  have hb := B.bytes
  have hrt := B.returns
  have hts := atoms_spec (ws := wsX8_blacken) B.pre
  have hown : s.vm.findClass RX8 = some m.cls := findClass_of_methodNamed B.named
  have hlocks := B.notSynchronized
  obtain ⟨rfl, hB⟩ := m_start hv
  generalize va_A (m_w L ad g) sz = A at hB ⊢
  generalize s.heap = H at hB ⊢
  generalize ([] : List Loc) = locs at hB ⊢
  have hl := lv_entry ([.ref (ad 0), .int (nI k), .int (nI w), .int x, .int y]) (n := 6) (Nat.le_of_ble_eq_true rfl)
  rw [lg_entry_eq]
  generalize (lg_sl ([.ref (ad 0), .int (nI k), .int (nI w), .int x, .int y]) ++ List.replicate (6 - (lg_sl ([.ref (ad 0), .int (nI k), .int (nI w), .int x, .int y])).length) Slot.unset).toArray = ls at hl ⊢
  have hl : lv_has ls 6 [(0, .ref (ad 0)), (1, .int (nI k)), (2, .int (nI w)), (3, .int x), (4, .int y)] := hl
  refine lv_aload_n hx hb dX8_blacken_0 rfl (lv_at hl 0 rfl) ?_
  refine lv_iload_n hx hb dX8_blacken_1 rfl (lv_at hl 1 rfl) ?_
  refine m_callVE (ci := 8) (As := [.int (nI k)]) (rest := []) ((by have h9 := c_X_paperNumber_t l D ty L ad g pn qn nw tr pf k m_0 m_6 h_0 h_6 hk; rw [hpp] at h9; exact h9 : m_E l yX8_paperNumber wsX8_paperNumber 1 21 D ty [.ref (ad 0), .int (nI k)] L ad g (some (.ref (ad pp))) g)) ⟨hx, hb, hml, hown, hts⟩ (cwV 1 hts gX8_blacken_X8_paperNumber rfl rfl rfl (by decide +kernel) ⟨Nat.le_of_ble_eq_true rfl, Nat.le_of_ble_eq_true rfl⟩) hB m_0 h_0 rfl rfl hl.1 rfl (Nat.le_of_ble_eq_true rfl) dX8_blacken_2 ⟨Nat.le_of_ble_eq_true rfl, Nat.le_of_ble_eq_true rfl⟩ (fun H locs hB => ?_)
  refine lv_iload_n hx hb dX8_blacken_5 rfl (lv_at hl 2 rfl) ?_
  refine m_callSE (As := [.ref (ad pp), .int (nI w)]) (rest := []) ((by have h9 := c_X_textOf2_t l D ty L ad g pp pt vn fo wd tf w m_pp m_pt h_pp h_pt hw4; rw [htf] at h9; exact h9 : m_E l yX8_textOf wsX8_textOf 2 42 D ty [.ref (ad pp), .int (nI w)] L ad g (some (.ref (ad t))) g)) ⟨hx, hb, hml, hown, hts⟩ (va_cwS 2 hts gX8_blacken_X8_textOf rfl rfl rfl (by decide +kernel) ⟨Nat.le_of_ble_eq_true rfl, Nat.le_of_ble_eq_true rfl⟩) hB rfl hl.1 rfl (Nat.le_of_ble_eq_true rfl) dX8_blacken_6 ⟨Nat.le_of_ble_eq_true rfl, Nat.le_of_ble_eq_true rfl⟩ (fun H locs hB => ?_)
  refine lv_astore (lv' := [(5, .ref (ad t)), (0, .ref (ad 0)), (1, .int (nI k)), (2, .int (nI w)), (3, .int x), (4, .int y)]) hx hb dX8_blacken_9 hl (by decide) rfl (fun ls hl => ?_)
  refine lv_aload hx hb dX8_blacken_11 (lv_at hl 0 rfl) ?_
  refine lv_ifnull hx hb dX8_blacken_13 ?_
  refine lv_iload_n hx hb dX8_blacken_16 rfl (lv_at hl 4 rfl) ?_
  refine b_if_lt_f 36 hx hb dX8_blacken_17 (by decide) (by have := (by decide : (0 : Int32).toInt = 0); omega) ?_
  refine lv_iload_n hx hb dX8_blacken_20 rfl (lv_at hl 4 rfl) ?_
  refine lv_iload hx hb dX8_blacken_21 (lv_at hl 5 rfl) ?_
  refine b_icmp_ge_t 36 hx hb dX8_blacken_23 (by decide) (by omega) ?_
  refine lv_iconst (v := (-1)) hx hb dX8_blacken_36 (by decide) ?_
  exact m_iret hx hb hrt hlocks hB (Nat.le_refl _) (Nat.le_refl _) dX8_blacken_37 ⟨rfl, rfl, rfl, rfl⟩
set_option maxHeartbeats 1000000 in
set_option maxRecDepth 100000 in
theorem c_X_blacken2_3 (l : Launch) (D : va_G) (ty : Nat → ClassId) (L : List Nat) (ad : Nat → Nat) (g : Nat → va_E) (pn qn : Nat) (nw : Int32) (tr : Int64) (pf : Nat → Option Nat) (pp pt vn : Nat) (fo wd : Int32) (tf : Nat → Option Nat) (k : Nat) (w t ro a bl n : Nat) (bs bk : Nat → Int32) (x y : Int32) (m_0 : 0 ∈ L) (m_6 : 6 ∈ L) (m_pp : pp ∈ L) (m_pt : pt ∈ L) (m_t : t ∈ L) (m_ro : ro ∈ L) (m_a : a ∈ L) (m_bl : bl ∈ L) (h_0 : g 0 = .inr (8, [.ref (ad 1), .ref (ad 3), .ref (ad 6), .int (nI pn), .ref (ad 7), .ref (ad 20), .ref (ad 22), .ref (ad 28), .int (nI qn), .ref (ad 29), .int nw, .long tr])) (h_6 : g 6 = .inl (ty 4, 8, .inr (.inr (.inr (.inr pf))))) (h_pp : g pp = .inr (2, [.int fo, .ref (ad pt), .int (nI vn), .int wd])) (h_pt : g pt = .inl (ty 7, 4, .inr (.inr (.inr (.inr tf))))) (h_t : g t = .inr (7, [.ref (ad ro), .ref (ad bl)])) (h_ro : g ro = .inr (5, [.ref (ad a), .int (nI n)])) (h_a : g a = .inl (ty 2, n, .inl bs)) (h_bl : g bl = .inl (ty 3, n, .inl bk)) (hk : k < 8) (hpp : pf k = some (ad pp)) (hw4 : w < 4) (htf : tf w = some (ad t)) (hn40 : n ≤ 40) (h1 : 0 ≤ x.toInt) (h2 : x.toInt < y.toInt) (h : (n : Int) < y.toInt) : m_E l yX8_blacken wsX8_blacken 3 63 D ty [.ref (ad 0), .int (nI k), .int (nI w), .int x, .int y] L ad g (some (.int (-1))) g := by
  intro sz
  refine Met.ofW (cc := cX8_blacken) (maxL := 6) (ret := (some .int)) (by decide) rfl ?_
  intro p e s m args below meth c s₁ B hml hv
  have hx := B.exec
  have hb := B.bytes
  have hrt := B.returns
  have hts := atoms_spec (ws := wsX8_blacken) B.pre
  have hown : s.vm.findClass RX8 = some m.cls := findClass_of_methodNamed B.named
  have hlocks := B.notSynchronized
  obtain ⟨rfl, hB⟩ := m_start hv
  generalize va_A (m_w L ad g) sz = A at hB ⊢
  generalize s.heap = H at hB ⊢
  generalize ([] : List Loc) = locs at hB ⊢
  have hl := lv_entry ([.ref (ad 0), .int (nI k), .int (nI w), .int x, .int y]) (n := 6) (Nat.le_of_ble_eq_true rfl)
  rw [lg_entry_eq]
  generalize (lg_sl ([.ref (ad 0), .int (nI k), .int (nI w), .int x, .int y]) ++ List.replicate (6 - (lg_sl ([.ref (ad 0), .int (nI k), .int (nI w), .int x, .int y])).length) Slot.unset).toArray = ls at hl ⊢
  have hl : lv_has ls 6 [(0, .ref (ad 0)), (1, .int (nI k)), (2, .int (nI w)), (3, .int x), (4, .int y)] := hl
  have tI_n : (nI n).toInt = (n : Int) := nI_toInt (by omega)
  refine lv_aload_n hx hb dX8_blacken_0 rfl (lv_at hl 0 rfl) ?_
  refine lv_iload_n hx hb dX8_blacken_1 rfl (lv_at hl 1 rfl) ?_
  refine m_callVE (ci := 8) (As := [.int (nI k)]) (rest := []) ((by have h9 := c_X_paperNumber_t l D ty L ad g pn qn nw tr pf k m_0 m_6 h_0 h_6 hk; rw [hpp] at h9; exact h9 : m_E l yX8_paperNumber wsX8_paperNumber 1 21 D ty [.ref (ad 0), .int (nI k)] L ad g (some (.ref (ad pp))) g)) ⟨hx, hb, hml, hown, hts⟩ (cwV 1 hts gX8_blacken_X8_paperNumber rfl rfl rfl (by decide +kernel) ⟨Nat.le_of_ble_eq_true rfl, Nat.le_of_ble_eq_true rfl⟩) hB m_0 h_0 rfl rfl hl.1 rfl (Nat.le_of_ble_eq_true rfl) dX8_blacken_2 ⟨Nat.le_of_ble_eq_true rfl, Nat.le_of_ble_eq_true rfl⟩ (fun H locs hB => ?_)
  refine lv_iload_n hx hb dX8_blacken_5 rfl (lv_at hl 2 rfl) ?_
  refine m_callSE (As := [.ref (ad pp), .int (nI w)]) (rest := []) ((by have h9 := c_X_textOf2_t l D ty L ad g pp pt vn fo wd tf w m_pp m_pt h_pp h_pt hw4; rw [htf] at h9; exact h9 : m_E l yX8_textOf wsX8_textOf 2 42 D ty [.ref (ad pp), .int (nI w)] L ad g (some (.ref (ad t))) g)) ⟨hx, hb, hml, hown, hts⟩ (va_cwS 2 hts gX8_blacken_X8_textOf rfl rfl rfl (by decide +kernel) ⟨Nat.le_of_ble_eq_true rfl, Nat.le_of_ble_eq_true rfl⟩) hB rfl hl.1 rfl (Nat.le_of_ble_eq_true rfl) dX8_blacken_6 ⟨Nat.le_of_ble_eq_true rfl, Nat.le_of_ble_eq_true rfl⟩ (fun H locs hB => ?_)
  refine lv_astore (lv' := [(5, .ref (ad t)), (0, .ref (ad 0)), (1, .int (nI k)), (2, .int (nI w)), (3, .int x), (4, .int y)]) hx hb dX8_blacken_9 hl (by decide) rfl (fun ls hl => ?_)
  refine lv_aload hx hb dX8_blacken_11 (lv_at hl 0 rfl) ?_
  refine lv_ifnull hx hb dX8_blacken_13 ?_
  refine lv_iload_n hx hb dX8_blacken_16 rfl (lv_at hl 4 rfl) ?_
  refine b_if_lt_f 36 hx hb dX8_blacken_17 (by decide) (by have := (by decide : (0 : Int32).toInt = 0); omega) ?_
  refine lv_iload_n hx hb dX8_blacken_20 rfl (lv_at hl 4 rfl) ?_
  refine lv_iload hx hb dX8_blacken_21 (lv_at hl 5 rfl) ?_
  refine b_icmp_ge_f 36 hx hb dX8_blacken_23 (by decide) (by omega) ?_
  refine lv_iload hx hb dX8_blacken_26 (lv_at hl 5 rfl) ?_
  refine lv_aload hx hb dX8_blacken_28 (lv_at hl 0 rfl) ?_
  refine m_callVE (ci := 7) (As := []) (rest := [.int y]) (c_Text_length l D ty L ad g t ro a bl n m_t m_ro h_t h_ro) ⟨hx, hb, hml, hown, hts⟩ (cwV 0 hts gX8_blacken_X7_length rfl rfl rfl (by decide +kernel) ⟨Nat.le_of_ble_eq_true rfl, Nat.le_of_ble_eq_true rfl⟩) hB m_t h_t rfl rfl hl.1 rfl (Nat.le_of_ble_eq_true rfl) dX8_blacken_30 ⟨Nat.le_of_ble_eq_true rfl, Nat.le_of_ble_eq_true rfl⟩ (fun H locs hB => ?_)
  refine b_icmp_le_f 38 hx hb dX8_blacken_33 (by decide) (by omega) ?_
  refine lv_iconst (v := (-1)) hx hb dX8_blacken_36 (by decide) ?_
  exact m_iret hx hb hrt hlocks hB (Nat.le_refl _) (Nat.le_refl _) dX8_blacken_37 ⟨rfl, rfl, rfl, rfl⟩
set_option maxHeartbeats 1000000 in
set_option maxRecDepth 100000 in
theorem c_X_blacken2_ok (l : Launch) (D : va_G) (ty : Nat → ClassId) (L : List Nat) (ad : Nat → Nat) (g : Nat → va_E) (pn qn : Nat) (nw : Int32) (tr : Int64) (pf : Nat → Option Nat) (pp pt vn : Nat) (fo wd : Int32) (tf : Nat → Option Nat) (k : Nat) (w t ro a bl n : Nat) (bs bk : Nat → Int32) (x y : Nat) (m_0 : 0 ∈ L) (m_6 : 6 ∈ L) (m_pp : pp ∈ L) (m_pt : pt ∈ L) (m_t : t ∈ L) (m_ro : ro ∈ L) (m_a : a ∈ L) (m_bl : bl ∈ L) (h_0 : g 0 = .inr (8, [.ref (ad 1), .ref (ad 3), .ref (ad 6), .int (nI pn), .ref (ad 7), .ref (ad 20), .ref (ad 22), .ref (ad 28), .int (nI qn), .ref (ad 29), .int nw, .long tr])) (h_6 : g 6 = .inl (ty 4, 8, .inr (.inr (.inr (.inr pf))))) (h_pp : g pp = .inr (2, [.int fo, .ref (ad pt), .int (nI vn), .int wd])) (h_pt : g pt = .inl (ty 7, 4, .inr (.inr (.inr (.inr tf))))) (h_t : g t = .inr (7, [.ref (ad ro), .ref (ad bl)])) (h_ro : g ro = .inr (5, [.ref (ad a), .int (nI n)])) (h_a : g a = .inl (ty 2, n, .inl bs)) (h_bl : g bl = .inl (ty 3, n, .inl bk)) (hk : k < 8) (hpp : pf k = some (ad pp)) (hw4 : w < 4) (htf : tf w = some (ad t)) (hn40 : n ≤ 40) (h2 : x < y) (h3 : y ≤ n) (hne : t ≠ bl) (hbk : ∀ i, i < n → bk i = 0 ∨ bk i = 1) : m_E l yX8_blacken wsX8_blacken 3 63 D ty [.ref (ad 0), .int (nI k), .int (nI w), .int (nI x), .int (nI y)] L ad g (some (.int (nI (bl_c bk x y n)))) (va_up g bl (.inl (ty 3, n, .inl (bl_f bk x y n)))) := by
  intro sz
  refine Met.ofW (cc := cX8_blacken) (maxL := 6) (ret := (some .int)) (by decide) rfl ?_
  intro p e s m args below meth c s₁ B hml hv
  have hx := B.exec
  have hb := B.bytes
  have hrt := B.returns
  have hts := atoms_spec (ws := wsX8_blacken) B.pre
  have hown : s.vm.findClass RX8 = some m.cls := findClass_of_methodNamed B.named
  have hlocks := B.notSynchronized
  obtain ⟨rfl, hB⟩ := m_start hv
  generalize va_A (m_w L ad g) sz = A at hB ⊢
  generalize s.heap = H at hB ⊢
  generalize ([] : List Loc) = locs at hB ⊢
  have hl := lv_entry ([.ref (ad 0), .int (nI k), .int (nI w), .int (nI x), .int (nI y)]) (n := 6) (Nat.le_of_ble_eq_true rfl)
  rw [lg_entry_eq]
  generalize (lg_sl ([.ref (ad 0), .int (nI k), .int (nI w), .int (nI x), .int (nI y)]) ++ List.replicate (6 - (lg_sl ([.ref (ad 0), .int (nI k), .int (nI w), .int (nI x), .int (nI y)])).length) Slot.unset).toArray = ls at hl ⊢
  have hl : lv_has ls 6 [(0, .ref (ad 0)), (1, .int (nI k)), (2, .int (nI w)), (3, .int (nI x)), (4, .int (nI y))] := hl
  have tI_n : (nI n).toInt = (n : Int) := nI_toInt (by omega)
  have tI_x : (nI x).toInt = (x : Int) := nI_toInt (by omega)
  have tI_y : (nI y).toInt = (y : Int) := nI_toInt (by omega)
  refine lv_aload_n hx hb dX8_blacken_0 rfl (lv_at hl 0 rfl) ?_
  refine lv_iload_n hx hb dX8_blacken_1 rfl (lv_at hl 1 rfl) ?_
  refine m_callVE (ci := 8) (As := [.int (nI k)]) (rest := []) ((by have h9 := c_X_paperNumber_t l D ty L ad g pn qn nw tr pf k m_0 m_6 h_0 h_6 hk; rw [hpp] at h9; exact h9 : m_E l yX8_paperNumber wsX8_paperNumber 1 21 D ty [.ref (ad 0), .int (nI k)] L ad g (some (.ref (ad pp))) g)) ⟨hx, hb, hml, hown, hts⟩ (cwV 1 hts gX8_blacken_X8_paperNumber rfl rfl rfl (by decide +kernel) ⟨Nat.le_of_ble_eq_true rfl, Nat.le_of_ble_eq_true rfl⟩) hB m_0 h_0 rfl rfl hl.1 rfl (Nat.le_of_ble_eq_true rfl) dX8_blacken_2 ⟨Nat.le_of_ble_eq_true rfl, Nat.le_of_ble_eq_true rfl⟩ (fun H locs hB => ?_)
  refine lv_iload_n hx hb dX8_blacken_5 rfl (lv_at hl 2 rfl) ?_
  refine m_callSE (As := [.ref (ad pp), .int (nI w)]) (rest := []) ((by have h9 := c_X_textOf2_t l D ty L ad g pp pt vn fo wd tf w m_pp m_pt h_pp h_pt hw4; rw [htf] at h9; exact h9 : m_E l yX8_textOf wsX8_textOf 2 42 D ty [.ref (ad pp), .int (nI w)] L ad g (some (.ref (ad t))) g)) ⟨hx, hb, hml, hown, hts⟩ (va_cwS 2 hts gX8_blacken_X8_textOf rfl rfl rfl (by decide +kernel) ⟨Nat.le_of_ble_eq_true rfl, Nat.le_of_ble_eq_true rfl⟩) hB rfl hl.1 rfl (Nat.le_of_ble_eq_true rfl) dX8_blacken_6 ⟨Nat.le_of_ble_eq_true rfl, Nat.le_of_ble_eq_true rfl⟩ (fun H locs hB => ?_)
  refine lv_astore (lv' := [(5, .ref (ad t)), (0, .ref (ad 0)), (1, .int (nI k)), (2, .int (nI w)), (3, .int (nI x)), (4, .int (nI y))]) hx hb dX8_blacken_9 hl (by decide) rfl (fun ls hl => ?_)
  refine lv_aload hx hb dX8_blacken_11 (lv_at hl 0 rfl) ?_
  refine lv_ifnull hx hb dX8_blacken_13 ?_
  refine lv_iload_n hx hb dX8_blacken_16 rfl (lv_at hl 4 rfl) ?_
  refine b_if_lt_f 36 hx hb dX8_blacken_17 (by decide) (by have := (by decide : (0 : Int32).toInt = 0); omega) ?_
  refine lv_iload_n hx hb dX8_blacken_20 rfl (lv_at hl 4 rfl) ?_
  refine lv_iload hx hb dX8_blacken_21 (lv_at hl 5 rfl) ?_
  refine b_icmp_ge_f 36 hx hb dX8_blacken_23 (by decide) (by omega) ?_
  refine lv_iload hx hb dX8_blacken_26 (lv_at hl 5 rfl) ?_
  refine lv_aload hx hb dX8_blacken_28 (lv_at hl 0 rfl) ?_
  refine m_callVE (ci := 7) (As := []) (rest := [.int (nI y)]) (c_Text_length l D ty L ad g t ro a bl n m_t m_ro h_t h_ro) ⟨hx, hb, hml, hown, hts⟩ (cwV 0 hts gX8_blacken_X7_length rfl rfl rfl (by decide +kernel) ⟨Nat.le_of_ble_eq_true rfl, Nat.le_of_ble_eq_true rfl⟩) hB m_t h_t rfl rfl hl.1 rfl (Nat.le_of_ble_eq_true rfl) dX8_blacken_30 ⟨Nat.le_of_ble_eq_true rfl, Nat.le_of_ble_eq_true rfl⟩ (fun H locs hB => ?_)
  refine b_icmp_le_t 38 hx hb dX8_blacken_33 (by decide) (by omega) ?_
  refine lv_aload hx hb dX8_blacken_38 (lv_at hl 0 rfl) ?_
  refine lv_iload_n hx hb dX8_blacken_40 rfl (lv_at hl 4 rfl) ?_
  refine lv_iload hx hb dX8_blacken_41 (lv_at hl 5 rfl) ?_
  refine m_callVE (ci := 7) (As := [.int (nI x), .int (nI y)]) (rest := []) (c_Text_span l D ty L ad g t ro a bl n bs bk x y m_t m_ro m_a m_bl h_t h_ro h_a h_bl hn40 hne h3 h2 hbk) ⟨hx, hb, hml, hown, hts⟩ (cwV 2 hts gX8_blacken_X7_blackenSpan rfl rfl rfl (by decide +kernel) ⟨Nat.le_of_ble_eq_true rfl, Nat.le_of_ble_eq_true rfl⟩) hB m_t h_t rfl rfl hl.1 rfl (Nat.le_of_ble_eq_true rfl) dX8_blacken_43 ⟨Nat.le_of_ble_eq_true rfl, Nat.le_of_ble_eq_true rfl⟩ (fun H locs hB => ?_)
  replace hB : m_B D ty A s L ad (va_up g bl (.inl (ty 3, n, .inl (bl_f bk x y n)))) H locs := hB
  exact m_iret hx hb hrt hlocks hB (Nat.le_refl _) (Nat.le_refl _) dX8_blacken_46 ⟨rfl, rfl, rfl, rfl⟩
