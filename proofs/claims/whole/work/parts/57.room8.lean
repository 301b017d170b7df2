set_option maxHeartbeats 1000000 in
set_option maxRecDepth 100000 in
theorem c_X_paper_1 (l : Launch) (D : va_G) (ty : Nat → ClassId) (L : List Nat) (ad : Nat → Nat) (g : Nat → va_E) (pn qn : Nat) (nw : Int32) (tr : Int64) (k f u : Int32) (m_0 : 0 ∈ L) (h_0 : g 0 = .inr (8, [.ref (ad 1), .ref (ad 3), .ref (ad 6), .int (nI pn), .ref (ad 7), .ref (ad 20), .ref (ad 22), .ref (ad 28), .int (nI qn), .ref (ad 29), .int nw, .long tr])) (h : ¬ (0 ≤ k.toInt ∧ k.toInt < 3)) : m_E l yX8_paper wsX8_paper 4 85 D ty [.ref (ad 0), .int k, .int f, .int u] L ad g (some (.int (-1))) g := by
  intro sz
  refine Met.ofW (cc := cX8_paper) (maxL := 5) (ret := (some .int)) (by decide) rfl ?_
  intro p e s m args below meth c s₁ B hml hv
  have hx := B.exec
  have hb := B.bytes
  have hrt := B.returns
  have hts := atoms_spec (ws := wsX8_paper) B.pre
  have hown : s.vm.findClass RX8 = some m.cls := findClass_of_methodNamed B.named
  have hlocks := B.notSynchronized
  obtain ⟨rfl, hB⟩ := m_start hv
  generalize va_A (m_w L ad g) sz = A at hB ⊢
  generalize s.heap = H at hB ⊢
  generalize ([] : List Loc) = locs at hB ⊢
  have hl := lv_entry ([.ref (ad 0), .int k, .int f, .int u]) (n := 5) (Nat.le_of_ble_eq_true rfl)
  rw [lg_entry_eq]
  generalize (lg_sl ([.ref (ad 0), .int k, .int f, .int u]) ++ List.replicate (5 - (lg_sl ([.ref (ad 0), .int k, .int f, .int u])).length) Slot.unset).toArray = ls at hl ⊢
  have hl : lv_has ls 5 [(0, .ref (ad 0)), (1, .int k), (2, .int f), (3, .int u)] := hl
  have l0 : (0 : Int32).toInt = 0 := by decide
  have l1 : (1 : Int32).toInt = 1 := by decide
  have l3 : (3 : Int32).toInt = 3 := by decide
  have l4 : (4 : Int32).toInt = 4 := by decide
  refine lv_iload_n hx hb dX8_paper_0 rfl (lv_at hl 1 rfl) ?_
  refine lv_iconst (v := 3) hx hb dX8_paper_1 (by decide) ?_
  refine m_callSE (As := [.int k, .int 3]) (rest := []) (c_isBelow_f l D ty L ad _ _ _ (by omega)) ⟨hx, hb, hml, hown, hts⟩ (va_cwS 2 hts gX8_paper_X8_isBelow rfl rfl rfl (by decide +kernel) ⟨Nat.le_of_ble_eq_true rfl, Nat.le_of_ble_eq_true rfl⟩) hB rfl hl.1 rfl (Nat.le_of_ble_eq_true rfl) dX8_paper_2 ⟨Nat.le_of_ble_eq_true rfl, Nat.le_of_ble_eq_true rfl⟩ (fun H locs hB => ?_)
  refine b_if_eq_t 16 hx hb dX8_paper_5 (by decide) (by decide) ?_
  refine lv_iconst (v := (-1)) hx hb dX8_paper_16 (by decide) ?_
  exact m_iret hx hb hrt hlocks hB (Nat.le_refl _) (Nat.le_refl _) dX8_paper_17 ⟨rfl, rfl, rfl, rfl⟩
set_option maxHeartbeats 1000000 in
set_option maxRecDepth 100000 in
theorem c_X_paper_2 (l : Launch) (D : va_G) (ty : Nat → ClassId) (L : List Nat) (ad : Nat → Nat) (g : Nat → va_E) (pn qn : Nat) (nw : Int32) (tr : Int64) (k f u : Int32) (m_0 : 0 ∈ L) (h_0 : g 0 = .inr (8, [.ref (ad 1), .ref (ad 3), .ref (ad 6), .int (nI pn), .ref (ad 7), .ref (ad 20), .ref (ad 22), .ref (ad 28), .int (nI qn), .ref (ad 29), .int nw, .long tr])) (h1 : 0 ≤ k.toInt ∧ k.toInt < 3) (h : ¬ (0 ≤ f.toInt ∧ f.toInt < 4)) : m_E l yX8_paper wsX8_paper 4 85 D ty [.ref (ad 0), .int k, .int f, .int u] L ad g (some (.int (-1))) g := by
  intro sz
  refine Met.ofW (cc := cX8_paper) (maxL := 5) (ret := (some .int)) (by decide) rfl ?_
  intro p e s m args below meth c s₁ B hml hv
  have hx := B.exec
  have hb := B.bytes
  have hrt := B.returns
  have hts := atoms_spec (ws := wsX8_paper) B.pre
  have hown : s.vm.findClass RX8 = some m.cls := findClass_of_methodNamed B.named
  have hlocks := B.notSynchronized
  obtain ⟨rfl, hB⟩ := m_start hv
  generalize va_A (m_w L ad g) sz = A at hB ⊢
  generalize s.heap = H at hB ⊢
  generalize ([] : List Loc) = locs at hB ⊢
  have hl := lv_entry ([.ref (ad 0), .int k, .int f, .int u]) (n := 5) (Nat.le_of_ble_eq_true rfl)
  rw [lg_entry_eq]
  generalize (lg_sl ([.ref (ad 0), .int k, .int f, .int u]) ++ List.replicate (5 - (lg_sl ([.ref (ad 0), .int k, .int f, .int u])).length) Slot.unset).toArray = ls at hl ⊢
  have hl : lv_has ls 5 [(0, .ref (ad 0)), (1, .int k), (2, .int f), (3, .int u)] := hl
  have l0 : (0 : Int32).toInt = 0 := by decide
  have l1 : (1 : Int32).toInt = 1 := by decide
  have l3 : (3 : Int32).toInt = 3 := by decide
  have l4 : (4 : Int32).toInt = 4 := by decide
  refine lv_iload_n hx hb dX8_paper_0 rfl (lv_at hl 1 rfl) ?_
  refine lv_iconst (v := 3) hx hb dX8_paper_1 (by decide) ?_
  refine m_callSE (As := [.int k, .int 3]) (rest := []) (c_isBelow_t l D ty L ad _ _ _ (by omega) (by omega)) ⟨hx, hb, hml, hown, hts⟩ (va_cwS 2 hts gX8_paper_X8_isBelow rfl rfl rfl (by decide +kernel) ⟨Nat.le_of_ble_eq_true rfl, Nat.le_of_ble_eq_true rfl⟩) hB rfl hl.1 rfl (Nat.le_of_ble_eq_true rfl) dX8_paper_2 ⟨Nat.le_of_ble_eq_true rfl, Nat.le_of_ble_eq_true rfl⟩ (fun H locs hB => ?_)
  refine b_if_eq_f 16 hx hb dX8_paper_5 (by decide) (by decide) ?_
  refine lv_iload_n hx hb dX8_paper_8 rfl (lv_at hl 2 rfl) ?_
  refine lv_iconst (v := 4) hx hb dX8_paper_9 (by decide) ?_
  refine m_callSE (As := [.int f, .int 4]) (rest := []) (c_isBelow_f l D ty L ad _ _ _ (by omega)) ⟨hx, hb, hml, hown, hts⟩ (va_cwS 2 hts gX8_paper_X8_isBelow rfl rfl rfl (by decide +kernel) ⟨Nat.le_of_ble_eq_true rfl, Nat.le_of_ble_eq_true rfl⟩) hB rfl hl.1 rfl (Nat.le_of_ble_eq_true rfl) dX8_paper_10 ⟨Nat.le_of_ble_eq_true rfl, Nat.le_of_ble_eq_true rfl⟩ (fun H locs hB => ?_)
  refine b_if_ne_f 18 hx hb dX8_paper_13 (by decide) (by decide) ?_
  refine lv_iconst (v := (-1)) hx hb dX8_paper_16 (by decide) ?_
  exact m_iret hx hb hrt hlocks hB (Nat.le_refl _) (Nat.le_refl _) dX8_paper_17 ⟨rfl, rfl, rfl, rfl⟩
set_option maxHeartbeats 1000000 in
set_option maxRecDepth 100000 in
theorem c_X_paper_3 (l : Launch) (D : va_G) (ty : Nat → ClassId) (L : List Nat) (ad : Nat → Nat) (g : Nat → va_E) (pn qn : Nat) (nw : Int32) (tr : Int64) (k f u : Int32) (m_0 : 0 ∈ L) (h_0 : g 0 = .inr (8, [.ref (ad 1), .ref (ad 3), .ref (ad 6), .int (nI pn), .ref (ad 7), .ref (ad 20), .ref (ad 22), .ref (ad 28), .int (nI qn), .ref (ad 29), .int nw, .long tr])) (h1 : 0 ≤ k.toInt ∧ k.toInt < 3) (h2 : 0 ≤ f.toInt ∧ f.toInt < 4) (hk1 : k = 1) (h : u.toInt < 0) : m_E l yX8_paper wsX8_paper 4 85 D ty [.ref (ad 0), .int k, .int f, .int u] L ad g (some (.int (-1))) g := by
  intro sz
  refine Met.ofW (cc := cX8_paper) (maxL := 5) (ret := (some .int)) (by decide) rfl ?_
  intro p e s m args below meth c s₁ B hml hv
  have hx := B.exec
  have hb := B.bytes
  have hrt := B.returns
  have hts := atoms_spec (ws := wsX8_paper) B.pre
  have hown : s.vm.findClass RX8 = some m.cls := findClass_of_methodNamed B.named
  have hlocks := B.notSynchronized
  obtain ⟨rfl, hB⟩ := m_start hv
  generalize va_A (m_w L ad g) sz = A at hB ⊢
  generalize s.heap = H at hB ⊢
  generalize ([] : List Loc) = locs at hB ⊢
  have hl := lv_entry ([.ref (ad 0), .int k, .int f, .int u]) (n := 5) (Nat.le_of_ble_eq_true rfl)
  rw [lg_entry_eq]
  generalize (lg_sl ([.ref (ad 0), .int k, .int f, .int u]) ++ List.replicate (5 - (lg_sl ([.ref (ad 0), .int k, .int f, .int u])).length) Slot.unset).toArray = ls at hl ⊢
  have hl : lv_has ls 5 [(0, .ref (ad 0)), (1, .int k), (2, .int f), (3, .int u)] := hl
  have l0 : (0 : Int32).toInt = 0 := by decide
  have l1 : (1 : Int32).toInt = 1 := by decide
  have l3 : (3 : Int32).toInt = 3 := by decide
  have l4 : (4 : Int32).toInt = 4 := by decide
  refine lv_iload_n hx hb dX8_paper_0 rfl (lv_at hl 1 rfl) ?_
  refine lv_iconst (v := 3) hx hb dX8_paper_1 (by decide) ?_
  refine m_callSE (As := [.int k, .int 3]) (rest := []) (c_isBelow_t l D ty L ad _ _ _ (by omega) (by omega)) ⟨hx, hb, hml, hown, hts⟩ (va_cwS 2 hts gX8_paper_X8_isBelow rfl rfl rfl (by decide +kernel) ⟨Nat.le_of_ble_eq_true rfl, Nat.le_of_ble_eq_true rfl⟩) hB rfl hl.1 rfl (Nat.le_of_ble_eq_true rfl) dX8_paper_2 ⟨Nat.le_of_ble_eq_true rfl, Nat.le_of_ble_eq_true rfl⟩ (fun H locs hB => ?_)
  refine b_if_eq_f 16 hx hb dX8_paper_5 (by decide) (by decide) ?_
  refine lv_iload_n hx hb dX8_paper_8 rfl (lv_at hl 2 rfl) ?_
  refine lv_iconst (v := 4) hx hb dX8_paper_9 (by decide) ?_
  refine m_callSE (As := [.int f, .int 4]) (rest := []) (c_isBelow_t l D ty L ad _ _ _ (by omega) (by omega)) ⟨hx, hb, hml, hown, hts⟩ (va_cwS 2 hts gX8_paper_X8_isBelow rfl rfl rfl (by decide +kernel) ⟨Nat.le_of_ble_eq_true rfl, Nat.le_of_ble_eq_true rfl⟩) hB rfl hl.1 rfl (Nat.le_of_ble_eq_true rfl) dX8_paper_10 ⟨Nat.le_of_ble_eq_true rfl, Nat.le_of_ble_eq_true rfl⟩ (fun H locs hB => ?_)
  refine b_if_ne_t 18 hx hb dX8_paper_13 (by decide) (by decide) ?_
  refine lv_iload_n hx hb dX8_paper_18 rfl (lv_at hl 1 rfl) ?_
  refine lv_iconst (v := 1) hx hb dX8_paper_19 (by decide) ?_
  refine b_icmp_ne_f 29 hx hb dX8_paper_20 (by decide) (by rw [hk1]) ?_
  refine lv_iload_n hx hb dX8_paper_23 rfl (lv_at hl 3 rfl) ?_
  refine b_if_ge_f 29 hx hb dX8_paper_24 (by decide) (by omega) ?_
  refine lv_iconst (v := (-1)) hx hb dX8_paper_27 (by decide) ?_
  exact m_iret hx hb hrt hlocks hB (Nat.le_refl _) (Nat.le_refl _) dX8_paper_28 ⟨rfl, rfl, rfl, rfl⟩
set_option maxRecDepth 20000 in
theorem in_X8_paper_X8 : ∀ w ∈ wsX80, w ∈ wsX8_paper := by decide +kernel
set_option maxHeartbeats 1000000 in
set_option maxRecDepth 100000 in
theorem c_X_paper_state (l : Launch) (D : va_G) (ty : Nat → ClassId) (L : List Nat) (ad : Nat → Nat) (g : Nat → va_E) (pn qn : Nat) (nw : Int32) (tr : Int64) (dn : Nat) (k f u : Int32) (m_0 : 0 ∈ L) (m_1 : 1 ∈ L) (h_0 : g 0 = .inr (8, [.ref (ad 1), .ref (ad 3), .ref (ad 6), .int (nI pn), .ref (ad 7), .ref (ad 20), .ref (ad 22), .ref (ad 28), .int (nI qn), .ref (ad 29), .int nw, .long tr])) (h_1 : g 1 = .inr (5, [.ref (ad 2), .int (nI dn)])) (h1 : 0 ≤ k.toInt ∧ k.toInt < 3) (h2 : 0 ≤ f.toInt ∧ f.toInt < 4) (hkt : k = 1 → 0 ≤ u.toInt) (hd : dn = 0) : m_E l yX8_paper wsX8_paper 4 85 D ty [.ref (ad 0), .int k, .int f, .int u] L ad g (some (.int (-2))) g := by
  intro sz
  refine Met.ofW (cc := cX8_paper) (maxL := 5) (ret := (some .int)) (by decide) rfl ?_
  intro p e s m args below meth c s₁ B hml hv
  have hx := B.exec
  have hb := B.bytes
  have hrt := B.returns
  have hts := atoms_spec (ws := wsX8_paper) B.pre
  have hown : s.vm.findClass RX8 = some m.cls := findClass_of_methodNamed B.named
  have hlocks := B.notSynchronized
  obtain ⟨rfl, hB⟩ := m_start hv
  generalize va_A (m_w L ad g) sz = A at hB ⊢
  generalize s.heap = H at hB ⊢
  generalize ([] : List Loc) = locs at hB ⊢
  have hl := lv_entry ([.ref (ad 0), .int k, .int f, .int u]) (n := 5) (Nat.le_of_ble_eq_true rfl)
  rw [lg_entry_eq]
  generalize (lg_sl ([.ref (ad 0), .int k, .int f, .int u]) ++ List.replicate (5 - (lg_sl ([.ref (ad 0), .int k, .int f, .int u])).length) Slot.unset).toArray = ls at hl ⊢
  have hl : lv_has ls 5 [(0, .ref (ad 0)), (1, .int k), (2, .int f), (3, .int u)] := hl
  have l0 : (0 : Int32).toInt = 0 := by decide
  have l1 : (1 : Int32).toInt = 1 := by decide
  have l3 : (3 : Int32).toInt = 3 := by decide
  have l4 : (4 : Int32).toInt = 4 := by decide
  by_cases hk1 : k = 1
  · skip
    refine lv_iload_n hx hb dX8_paper_0 rfl (lv_at hl 1 rfl) ?_
    refine lv_iconst (v := 3) hx hb dX8_paper_1 (by decide) ?_
    refine m_callSE (As := [.int k, .int 3]) (rest := []) (c_isBelow_t l D ty L ad _ _ _ (by omega) (by omega)) ⟨hx, hb, hml, hown, hts⟩ (va_cwS 2 hts gX8_paper_X8_isBelow rfl rfl rfl (by decide +kernel) ⟨Nat.le_of_ble_eq_true rfl, Nat.le_of_ble_eq_true rfl⟩) hB rfl hl.1 rfl (Nat.le_of_ble_eq_true rfl) dX8_paper_2 ⟨Nat.le_of_ble_eq_true rfl, Nat.le_of_ble_eq_true rfl⟩ (fun H locs hB => ?_)
    refine b_if_eq_f 16 hx hb dX8_paper_5 (by decide) (by decide) ?_
    refine lv_iload_n hx hb dX8_paper_8 rfl (lv_at hl 2 rfl) ?_
    refine lv_iconst (v := 4) hx hb dX8_paper_9 (by decide) ?_
    refine m_callSE (As := [.int f, .int 4]) (rest := []) (c_isBelow_t l D ty L ad _ _ _ (by omega) (by omega)) ⟨hx, hb, hml, hown, hts⟩ (va_cwS 2 hts gX8_paper_X8_isBelow rfl rfl rfl (by decide +kernel) ⟨Nat.le_of_ble_eq_true rfl, Nat.le_of_ble_eq_true rfl⟩) hB rfl hl.1 rfl (Nat.le_of_ble_eq_true rfl) dX8_paper_10 ⟨Nat.le_of_ble_eq_true rfl, Nat.le_of_ble_eq_true rfl⟩ (fun H locs hB => ?_)
    refine b_if_ne_t 18 hx hb dX8_paper_13 (by decide) (by decide) ?_
    refine lv_iload_n hx hb dX8_paper_18 rfl (lv_at hl 1 rfl) ?_
    refine lv_iconst (v := 1) hx hb dX8_paper_19 (by decide) ?_
    refine b_icmp_ne_f 29 hx hb dX8_paper_20 (by decide) (by rw [hk1]) ?_
    refine lv_iload_n hx hb dX8_paper_23 rfl (lv_at hl 3 rfl) ?_
    refine b_if_ge_t 29 hx hb dX8_paper_24 (by decide) (by have := hkt hk1; omega) ?_
    refine lv_aload_n hx hb dX8_paper_29 rfl (lv_at hl 0 rfl) ?_
    refine m_get (C := RX8) (T := TX8) (N := 12) (ci := 8) hx hb hts in_X8_paper_X8 hown hB m_0 h_0 rfl 0 (by decide) (hts (.fieldLink RX8 14 "PaperRoom" "draft" "LPaperRoom$Row;") (by decide +kernel)) (fun _ h9 => h9) rfl dX8_paper_30 ?_
    refine m_callVE (ci := 5) (As := []) (rest := []) (c_Row_length l D ty L ad g 1 2 dn m_1 h_1) ⟨hx, hb, hml, hown, hts⟩ (cwV 0 hts gX8_paper_X5_length rfl rfl rfl (by decide +kernel) ⟨Nat.le_of_ble_eq_true rfl, Nat.le_of_ble_eq_true rfl⟩) hB m_1 h_1 rfl rfl hl.1 rfl (Nat.le_of_ble_eq_true rfl) dX8_paper_33 ⟨Nat.le_of_ble_eq_true rfl, Nat.le_of_ble_eq_true rfl⟩ (fun H locs hB => ?_)
    refine b_if_ne_f 42 hx hb dX8_paper_36 (by decide) (by rw [hd]; decide) ?_
    refine lv_bipush (v := (-2)) hx hb dX8_paper_39 (by decide) ?_
    exact m_iret hx hb hrt hlocks hB (Nat.le_refl _) (Nat.le_refl _) dX8_paper_41 ⟨rfl, rfl, rfl, rfl⟩
  · skip
    refine lv_iload_n hx hb dX8_paper_0 rfl (lv_at hl 1 rfl) ?_
    refine lv_iconst (v := 3) hx hb dX8_paper_1 (by decide) ?_
    refine m_callSE (As := [.int k, .int 3]) (rest := []) (c_isBelow_t l D ty L ad _ _ _ (by omega) (by omega)) ⟨hx, hb, hml, hown, hts⟩ (va_cwS 2 hts gX8_paper_X8_isBelow rfl rfl rfl (by decide +kernel) ⟨Nat.le_of_ble_eq_true rfl, Nat.le_of_ble_eq_true rfl⟩) hB rfl hl.1 rfl (Nat.le_of_ble_eq_true rfl) dX8_paper_2 ⟨Nat.le_of_ble_eq_true rfl, Nat.le_of_ble_eq_true rfl⟩ (fun H locs hB => ?_)
    refine b_if_eq_f 16 hx hb dX8_paper_5 (by decide) (by decide) ?_
    refine lv_iload_n hx hb dX8_paper_8 rfl (lv_at hl 2 rfl) ?_
    refine lv_iconst (v := 4) hx hb dX8_paper_9 (by decide) ?_
    refine m_callSE (As := [.int f, .int 4]) (rest := []) (c_isBelow_t l D ty L ad _ _ _ (by omega) (by omega)) ⟨hx, hb, hml, hown, hts⟩ (va_cwS 2 hts gX8_paper_X8_isBelow rfl rfl rfl (by decide +kernel) ⟨Nat.le_of_ble_eq_true rfl, Nat.le_of_ble_eq_true rfl⟩) hB rfl hl.1 rfl (Nat.le_of_ble_eq_true rfl) dX8_paper_10 ⟨Nat.le_of_ble_eq_true rfl, Nat.le_of_ble_eq_true rfl⟩ (fun H locs hB => ?_)
    refine b_if_ne_t 18 hx hb dX8_paper_13 (by decide) (by decide) ?_
    refine lv_iload_n hx hb dX8_paper_18 rfl (lv_at hl 1 rfl) ?_
    refine lv_iconst (v := 1) hx hb dX8_paper_19 (by decide) ?_
    refine b_icmp_ne_t 29 hx hb dX8_paper_20 (by decide) (fun h8 => hk1 ((i_eq _ _).mpr h8)) ?_
    refine lv_aload_n hx hb dX8_paper_29 rfl (lv_at hl 0 rfl) ?_
    refine m_get (C := RX8) (T := TX8) (N := 12) (ci := 8) hx hb hts in_X8_paper_X8 hown hB m_0 h_0 rfl 0 (by decide) (hts (.fieldLink RX8 14 "PaperRoom" "draft" "LPaperRoom$Row;") (by decide +kernel)) (fun _ h9 => h9) rfl dX8_paper_30 ?_
    refine m_callVE (ci := 5) (As := []) (rest := []) (c_Row_length l D ty L ad g 1 2 dn m_1 h_1) ⟨hx, hb, hml, hown, hts⟩ (cwV 0 hts gX8_paper_X5_length rfl rfl rfl (by decide +kernel) ⟨Nat.le_of_ble_eq_true rfl, Nat.le_of_ble_eq_true rfl⟩) hB m_1 h_1 rfl rfl hl.1 rfl (Nat.le_of_ble_eq_true rfl) dX8_paper_33 ⟨Nat.le_of_ble_eq_true rfl, Nat.le_of_ble_eq_true rfl⟩ (fun H locs hB => ?_)
    refine b_if_ne_f 42 hx hb dX8_paper_36 (by decide) (by rw [hd]; decide) ?_
    refine lv_bipush (v := (-2)) hx hb dX8_paper_39 (by decide) ?_
    exact m_iret hx hb hrt hlocks hB (Nat.le_refl _) (Nat.le_refl _) dX8_paper_41 ⟨rfl, rfl, rfl, rfl⟩
set_option maxHeartbeats 1000000 in
set_option maxRecDepth 100000 in
theorem c_X_paper_full (l : Launch) (D : va_G) (ty : Nat → ClassId) (L : List Nat) (ad : Nat → Nat) (g : Nat → va_E) (pn qn : Nat) (nw : Int32) (tr : Int64) (pf : Nat → Option Nat) (dn : Nat) (k f u : Int32) (m_0 : 0 ∈ L) (m_1 : 1 ∈ L) (m_6 : 6 ∈ L) (h_0 : g 0 = .inr (8, [.ref (ad 1), .ref (ad 3), .ref (ad 6), .int (nI pn), .ref (ad 7), .ref (ad 20), .ref (ad 22), .ref (ad 28), .int (nI qn), .ref (ad 29), .int nw, .long tr])) (h_1 : g 1 = .inr (5, [.ref (ad 2), .int (nI dn)])) (h_6 : g 6 = .inl (ty 4, 8, .inr (.inr (.inr (.inr pf))))) (h1 : 0 ≤ k.toInt ∧ k.toInt < 3) (h2 : 0 ≤ f.toInt ∧ f.toInt < 4) (hkt : k = 1 → 0 ≤ u.toInt) (hd : 0 < dn) (hdn : dn ≤ 40) (hp8 : pn = 8) : m_E l yX8_paper wsX8_paper 4 85 D ty [.ref (ad 0), .int k, .int f, .int u] L ad g (some (.int (-3))) g := by
  intro sz
  refine Met.ofW (cc := cX8_paper) (maxL := 5) (ret := (some .int)) (by decide) rfl ?_
  intro p e s m args below meth c s₁ B hml hv
  have hx := B.exec
  have hb := B.bytes
  have hrt := B.returns
  have hts := atoms_spec (ws := wsX8_paper) B.pre
  have hown : s.vm.findClass RX8 = some m.cls := findClass_of_methodNamed B.named
  have hlocks := B.notSynchronized
  obtain ⟨rfl, hB⟩ := m_start hv
  generalize va_A (m_w L ad g) sz = A at hB ⊢
  generalize s.heap = H at hB ⊢
  generalize ([] : List Loc) = locs at hB ⊢
  have hl := lv_entry ([.ref (ad 0), .int k, .int f, .int u]) (n := 5) (Nat.le_of_ble_eq_true rfl)
  rw [lg_entry_eq]
  generalize (lg_sl ([.ref (ad 0), .int k, .int f, .int u]) ++ List.replicate (5 - (lg_sl ([.ref (ad 0), .int k, .int f, .int u])).length) Slot.unset).toArray = ls at hl ⊢
  have hl : lv_has ls 5 [(0, .ref (ad 0)), (1, .int k), (2, .int f), (3, .int u)] := hl
  have l0 : (0 : Int32).toInt = 0 := by decide
  have l1 : (1 : Int32).toInt = 1 := by decide
  have l3 : (3 : Int32).toInt = 3 := by decide
  have l4 : (4 : Int32).toInt = 4 := by decide
  by_cases hk1 : k = 1
  · skip
    refine lv_iload_n hx hb dX8_paper_0 rfl (lv_at hl 1 rfl) ?_
    refine lv_iconst (v := 3) hx hb dX8_paper_1 (by decide) ?_
    refine m_callSE (As := [.int k, .int 3]) (rest := []) (c_isBelow_t l D ty L ad _ _ _ (by omega) (by omega)) ⟨hx, hb, hml, hown, hts⟩ (va_cwS 2 hts gX8_paper_X8_isBelow rfl rfl rfl (by decide +kernel) ⟨Nat.le_of_ble_eq_true rfl, Nat.le_of_ble_eq_true rfl⟩) hB rfl hl.1 rfl (Nat.le_of_ble_eq_true rfl) dX8_paper_2 ⟨Nat.le_of_ble_eq_true rfl, Nat.le_of_ble_eq_true rfl⟩ (fun H locs hB => ?_)
    refine b_if_eq_f 16 hx hb dX8_paper_5 (by decide) (by decide) ?_
    refine lv_iload_n hx hb dX8_paper_8 rfl (lv_at hl 2 rfl) ?_
    refine lv_iconst (v := 4) hx hb dX8_paper_9 (by decide) ?_
    refine m_callSE (As := [.int f, .int 4]) (rest := []) (c_isBelow_t l D ty L ad _ _ _ (by omega) (by omega)) ⟨hx, hb, hml, hown, hts⟩ (va_cwS 2 hts gX8_paper_X8_isBelow rfl rfl rfl (by decide +kernel) ⟨Nat.le_of_ble_eq_true rfl, Nat.le_of_ble_eq_true rfl⟩) hB rfl hl.1 rfl (Nat.le_of_ble_eq_true rfl) dX8_paper_10 ⟨Nat.le_of_ble_eq_true rfl, Nat.le_of_ble_eq_true rfl⟩ (fun H locs hB => ?_)
    refine b_if_ne_t 18 hx hb dX8_paper_13 (by decide) (by decide) ?_
    refine lv_iload_n hx hb dX8_paper_18 rfl (lv_at hl 1 rfl) ?_
    refine lv_iconst (v := 1) hx hb dX8_paper_19 (by decide) ?_
    refine b_icmp_ne_f 29 hx hb dX8_paper_20 (by decide) (by rw [hk1]) ?_
    refine lv_iload_n hx hb dX8_paper_23 rfl (lv_at hl 3 rfl) ?_
    refine b_if_ge_t 29 hx hb dX8_paper_24 (by decide) (by have := hkt hk1; omega) ?_
    refine lv_aload_n hx hb dX8_paper_29 rfl (lv_at hl 0 rfl) ?_
    refine m_get (C := RX8) (T := TX8) (N := 12) (ci := 8) hx hb hts in_X8_paper_X8 hown hB m_0 h_0 rfl 0 (by decide) (hts (.fieldLink RX8 14 "PaperRoom" "draft" "LPaperRoom$Row;") (by decide +kernel)) (fun _ h9 => h9) rfl dX8_paper_30 ?_
    refine m_callVE (ci := 5) (As := []) (rest := []) (c_Row_length l D ty L ad g 1 2 dn m_1 h_1) ⟨hx, hb, hml, hown, hts⟩ (cwV 0 hts gX8_paper_X5_length rfl rfl rfl (by decide +kernel) ⟨Nat.le_of_ble_eq_true rfl, Nat.le_of_ble_eq_true rfl⟩) hB m_1 h_1 rfl rfl hl.1 rfl (Nat.le_of_ble_eq_true rfl) dX8_paper_33 ⟨Nat.le_of_ble_eq_true rfl, Nat.le_of_ble_eq_true rfl⟩ (fun H locs hB => ?_)
    refine b_if_ne_t 42 hx hb dX8_paper_36 (by decide) (by rw [nI_toInt (by omega)]; omega) ?_
    refine lv_aload_n hx hb dX8_paper_42 rfl (lv_at hl 0 rfl) ?_
    refine m_get (C := RX8) (T := TX8) (N := 12) (ci := 8) hx hb hts in_X8_paper_X8 hown hB m_0 h_0 rfl 3 (by decide) (hts (.fieldLink RX8 76 "PaperRoom" "paperCount" "I") (by decide +kernel)) (fun _ h9 => h9) rfl dX8_paper_43 ?_
    refine lv_aload_n hx hb dX8_paper_46 rfl (lv_at hl 0 rfl) ?_
    refine m_get (C := RX8) (T := TX8) (N := 12) (ci := 8) hx hb hts in_X8_paper_X8 hown hB m_0 h_0 rfl 2 (by decide) (hts (.fieldLink RX8 27 "PaperRoom" "papers" "[LPaperRoom$Paper;") (by decide +kernel)) (fun _ h9 => h9) rfl dX8_paper_47 ?_
    refine m_alen hx hb hB m_6 4 h_6 rfl (v := nI 8) rfl dX8_paper_50 ?_
    refine b_icmp_lt_f 57 hx hb dX8_paper_51 (by decide) (by rw [hp8]; decide) ?_
    refine lv_bipush (v := (-3)) hx hb dX8_paper_54 (by decide) ?_
    exact m_iret hx hb hrt hlocks hB (Nat.le_refl _) (Nat.le_refl _) dX8_paper_56 ⟨rfl, rfl, rfl, rfl⟩
  · skip
    refine lv_iload_n hx hb dX8_paper_0 rfl (lv_at hl 1 rfl) ?_
    refine lv_iconst (v := 3) hx hb dX8_paper_1 (by decide) ?_
    refine m_callSE (As := [.int k, .int 3]) (rest := []) (c_isBelow_t l D ty L ad _ _ _ (by omega) (by omega)) ⟨hx, hb, hml, hown, hts⟩ (va_cwS 2 hts gX8_paper_X8_isBelow rfl rfl rfl (by decide +kernel) ⟨Nat.le_of_ble_eq_true rfl, Nat.le_of_ble_eq_true rfl⟩) hB rfl hl.1 rfl (Nat.le_of_ble_eq_true rfl) dX8_paper_2 ⟨Nat.le_of_ble_eq_true rfl, Nat.le_of_ble_eq_true rfl⟩ (fun H locs hB => ?_)
    refine b_if_eq_f 16 hx hb dX8_paper_5 (by decide) (by decide) ?_
    refine lv_iload_n hx hb dX8_paper_8 rfl (lv_at hl 2 rfl) ?_
    refine lv_iconst (v := 4) hx hb dX8_paper_9 (by decide) ?_
    refine m_callSE (As := [.int f, .int 4]) (rest := []) (c_isBelow_t l D ty L ad _ _ _ (by omega) (by omega)) ⟨hx, hb, hml, hown, hts⟩ (va_cwS 2 hts gX8_paper_X8_isBelow rfl rfl rfl (by decide +kernel) ⟨Nat.le_of_ble_eq_true rfl, Nat.le_of_ble_eq_true rfl⟩) hB rfl hl.1 rfl (Nat.le_of_ble_eq_true rfl) dX8_paper_10 ⟨Nat.le_of_ble_eq_true rfl, Nat.le_of_ble_eq_true rfl⟩ (fun H locs hB => ?_)
    refine b_if_ne_t 18 hx hb dX8_paper_13 (by decide) (by decide) ?_
    refine lv_iload_n hx hb dX8_paper_18 rfl (lv_at hl 1 rfl) ?_
    refine lv_iconst (v := 1) hx hb dX8_paper_19 (by decide) ?_
    refine b_icmp_ne_t 29 hx hb dX8_paper_20 (by decide) (fun h8 => hk1 ((i_eq _ _).mpr h8)) ?_
    refine lv_aload_n hx hb dX8_paper_29 rfl (lv_at hl 0 rfl) ?_
    refine m_get (C := RX8) (T := TX8) (N := 12) (ci := 8) hx hb hts in_X8_paper_X8 hown hB m_0 h_0 rfl 0 (by decide) (hts (.fieldLink RX8 14 "PaperRoom" "draft" "LPaperRoom$Row;") (by decide +kernel)) (fun _ h9 => h9) rfl dX8_paper_30 ?_
    refine m_callVE (ci := 5) (As := []) (rest := []) (c_Row_length l D ty L ad g 1 2 dn m_1 h_1) ⟨hx, hb, hml, hown, hts⟩ (cwV 0 hts gX8_paper_X5_length rfl rfl rfl (by decide +kernel) ⟨Nat.le_of_ble_eq_true rfl, Nat.le_of_ble_eq_true rfl⟩) hB m_1 h_1 rfl rfl hl.1 rfl (Nat.le_of_ble_eq_true rfl) dX8_paper_33 ⟨Nat.le_of_ble_eq_true rfl, Nat.le_of_ble_eq_true rfl⟩ (fun H locs hB => ?_)
    refine b_if_ne_t 42 hx hb dX8_paper_36 (by decide) (by rw [nI_toInt (by omega)]; omega) ?_
    refine lv_aload_n hx hb dX8_paper_42 rfl (lv_at hl 0 rfl) ?_
    refine m_get (C := RX8) (T := TX8) (N := 12) (ci := 8) hx hb hts in_X8_paper_X8 hown hB m_0 h_0 rfl 3 (by decide) (hts (.fieldLink RX8 76 "PaperRoom" "paperCount" "I") (by decide +kernel)) (fun _ h9 => h9) rfl dX8_paper_43 ?_
    refine lv_aload_n hx hb dX8_paper_46 rfl (lv_at hl 0 rfl) ?_
    refine m_get (C := RX8) (T := TX8) (N := 12) (ci := 8) hx hb hts in_X8_paper_X8 hown hB m_0 h_0 rfl 2 (by decide) (hts (.fieldLink RX8 27 "PaperRoom" "papers" "[LPaperRoom$Paper;") (by decide +kernel)) (fun _ h9 => h9) rfl dX8_paper_47 ?_
    refine m_alen hx hb hB m_6 4 h_6 rfl (v := nI 8) rfl dX8_paper_50 ?_
    refine b_icmp_lt_f 57 hx hb dX8_paper_51 (by decide) (by rw [hp8]; decide) ?_
    refine lv_bipush (v := (-3)) hx hb dX8_paper_54 (by decide) ?_
    exact m_iret hx hb hrt hlocks hB (Nat.le_refl _) (Nat.le_refl _) dX8_paper_56 ⟨rfl, rfl, rfl, rfl⟩
set_option maxHeartbeats 1000000 in
set_option maxRecDepth 100000 in
theorem c_X_paper_ok0 (l : Launch) (D : va_G) (ty : Nat → ClassId) (L : List Nat) (ad : Nat → Nat) (g : Nat → va_E) (pn qn : Nat) (nw : Int32) (tr : Int64) (pf : Nat → Option Nat) (dn fo : Nat) (u : Int32) (pp pt t ro a bl : Nat) (db : Nat → Int32) (hL0 : ∀ r, r < 30 → r ∈ L) (h_0 : g 0 = .inr (8, [.ref (ad 1), .ref (ad 3), .ref (ad 6), .int (nI pn), .ref (ad 7), .ref (ad 20), .ref (ad 22), .ref (ad 28), .int (nI qn), .ref (ad 29), .int nw, .long tr])) (h_1 : g 1 = .inr (5, [.ref (ad 2), .int (nI dn)])) (h_2 : g 2 = .inl (ty 2, 40, .inl db)) (h_6 : g 6 = .inl (ty 4, 8, .inr (.inr (.inr (.inr pf))))) (hfo : fo < 4) (hd : 0 < dn) (hdn : dn ≤ 40) (hp8 : pn < 8) (n_pp : pp ∉ L) (n_pt : pt ∉ L) (n_t : t ∉ L) (n_ro : ro ∉ L) (n_a : a ∉ L) (n_bl : bl ∉ L) (h8 : ∀ k, k < dn → (db k).toInt8.toInt32 = db k) (ne_pp_pt : pp ≠ pt) (ne_pp_t : pp ≠ t) (ne_pp_ro : pp ≠ ro) (ne_pp_a : pp ≠ a) (ne_pp_bl : pp ≠ bl) (ne_pt_t : pt ≠ t) (ne_pt_ro : pt ≠ ro) (ne_pt_a : pt ≠ a) (ne_pt_bl : pt ≠ bl) (ne_t_ro : t ≠ ro) (ne_t_a : t ≠ a) (ne_t_bl : t ≠ bl) (ne_ro_a : ro ≠ a) (ne_ro_bl : ro ≠ bl) (ne_a_bl : a ≠ bl) (hb_pp : 30 ≤ pp) (hb_pt : 30 ≤ pt) (hb_t : 30 ≤ t) (hb_ro : 30 ≤ ro) (hb_a : 30 ≤ a) (hb_bl : 30 ≤ bl) : m_C l yX8_paper wsX8_paper 4 85 6 133 D ty [.ref (ad 0), .int 0, .int (nI fo), .int u] L ad g (fun v1 L1 ad1 g1 => v1 = some (.int (nI pn)) ∧ L1 = ((((((L ++ [pp]) ++ [pt]) ++ [t]) ++ [ro]) ++ [a]) ++ [bl]) ∧ (∀ x ∈ L, ad x = ad1 x) ∧ (∀ x ∈ L, x ≠ 1 → x ≠ 6 → x ≠ 0 → g1 x = g x) ∧ g1 1 = .inr (5, [.ref (ad1 2), .int 0]) ∧ g1 t = .inr (7, [.ref (ad1 ro), .ref (ad1 bl)]) ∧ g1 ro = .inr (5, [.ref (ad1 a), .int (nI dn)]) ∧ g1 a = .inl (ty 2, dn, .inl (cpf db dn)) ∧ g1 bl = .inl (ty 3, dn, .inl (fun _ => 0)) ∧ g1 pt = .inl (ty 7, 4, .inr (.inr (.inr (.inr (va_up (fun _ => none) 0 (some (ad1 t))))))) ∧ g1 pp = .inr (2, [.int (nI fo), .ref (ad1 pt), .int (nI 1), .int 0]) ∧ g1 6 = .inl (ty 4, 8, .inr (.inr (.inr (.inr (va_up pf pn (some (ad1 pp))))))) ∧ g1 0 = .inr (8, [.ref (ad1 1), .ref (ad1 3), .ref (ad1 6), .int (nI (pn + 1)), .ref (ad1 7), .ref (ad1 20), .ref (ad1 22), .ref (ad1 28), .int (nI qn), .ref (ad1 29), .int nw, .long tr])) := by
  intro sz
  refine Met.ofW (cc := cX8_paper) (maxL := 5) (ret := (some .int)) (by decide) rfl ?_
  intro p e s m args below meth c s₁ B hml hv
  have hx := B.exec
  have hb := B.bytes
  have hrt := B.returns
  have hts := atoms_spec (ws := wsX8_paper) B.pre
  have hown : s.vm.findClass RX8 = some m.cls := findClass_of_methodNamed B.named
  have hlocks := B.notSynchronized
  obtain ⟨rfl, hB⟩ := m_start hv
  generalize va_A (m_w L ad g) sz = A at hB ⊢
  generalize s.heap = H at hB ⊢
  generalize ([] : List Loc) = locs at hB ⊢
  have hl := lv_entry ([.ref (ad 0), .int 0, .int (nI fo), .int u]) (n := 5) (Nat.le_of_ble_eq_true rfl)
  rw [lg_entry_eq]
  generalize (lg_sl ([.ref (ad 0), .int 0, .int (nI fo), .int u]) ++ List.replicate (5 - (lg_sl ([.ref (ad 0), .int 0, .int (nI fo), .int u])).length) Slot.unset).toArray = ls at hl ⊢
  have hl : lv_has ls 5 [(0, .ref (ad 0)), (1, .int 0), (2, .int (nI fo)), (3, .int u)] := hl
  have tI_fo : (nI fo).toInt = (fo : Int) := nI_toInt (by omega)
  have l4 : (4 : Int32).toInt = 4 := by decide
  refine lv_iload_n hx hb dX8_paper_0 rfl (lv_at hl 1 rfl) ?_
  refine lv_iconst (v := 3) hx hb dX8_paper_1 (by decide) ?_
  refine m_callSE (As := [.int 0, .int 3]) (rest := []) (c_isBelow_t l D ty L ad _ _ _ (by decide) (by decide)) ⟨hx, hb, hml, hown, hts⟩ (va_cwS 2 hts gX8_paper_X8_isBelow rfl rfl rfl (by decide +kernel) ⟨Nat.le_of_ble_eq_true rfl, Nat.le_of_ble_eq_true rfl⟩) hB rfl hl.1 rfl (Nat.le_of_ble_eq_true rfl) dX8_paper_2 ⟨Nat.le_of_ble_eq_true rfl, Nat.le_of_ble_eq_true rfl⟩ (fun H locs hB => ?_)
  refine b_if_eq_f 16 hx hb dX8_paper_5 (by decide) (by decide) ?_
  refine lv_iload_n hx hb dX8_paper_8 rfl (lv_at hl 2 rfl) ?_
  refine lv_iconst (v := 4) hx hb dX8_paper_9 (by decide) ?_
  refine m_callSE (As := [.int (nI fo), .int 4]) (rest := []) (c_isBelow_t l D ty L ad _ _ _ (by omega) (by omega)) ⟨hx, hb, hml, hown, hts⟩ (va_cwS 2 hts gX8_paper_X8_isBelow rfl rfl rfl (by decide +kernel) ⟨Nat.le_of_ble_eq_true rfl, Nat.le_of_ble_eq_true rfl⟩) hB rfl hl.1 rfl (Nat.le_of_ble_eq_true rfl) dX8_paper_10 ⟨Nat.le_of_ble_eq_true rfl, Nat.le_of_ble_eq_true rfl⟩ (fun H locs hB => ?_)
  refine b_if_ne_t 18 hx hb dX8_paper_13 (by decide) (by decide) ?_
  refine lv_iload_n hx hb dX8_paper_18 rfl (lv_at hl 1 rfl) ?_
  refine lv_iconst (v := 1) hx hb dX8_paper_19 (by decide) ?_
  refine b_icmp_ne_t 29 hx hb dX8_paper_20 (by decide) (by decide) ?_
  refine lv_aload_n hx hb dX8_paper_29 rfl (lv_at hl 0 rfl) ?_
  refine m_get (C := RX8) (T := TX8) (N := 12) (ci := 8) hx hb hts in_X8_paper_X8 hown hB (hL0 0 (by decide)) h_0 rfl 0 (by decide) (hts (.fieldLink RX8 14 "PaperRoom" "draft" "LPaperRoom$Row;") (by decide +kernel)) (fun _ h9 => h9) rfl dX8_paper_30 ?_
  refine m_callVE (ci := 5) (As := []) (rest := []) (c_Row_length l D ty L ad g 1 2 dn (hL0 1 (by decide)) h_1) ⟨hx, hb, hml, hown, hts⟩ (cwV 0 hts gX8_paper_X5_length rfl rfl rfl (by decide +kernel) ⟨Nat.le_of_ble_eq_true rfl, Nat.le_of_ble_eq_true rfl⟩) hB (hL0 1 (by decide)) h_1 rfl rfl hl.1 rfl (Nat.le_of_ble_eq_true rfl) dX8_paper_33 ⟨Nat.le_of_ble_eq_true rfl, Nat.le_of_ble_eq_true rfl⟩ (fun H locs hB => ?_)
  refine b_if_ne_t 42 hx hb dX8_paper_36 (by decide) (by rw [nI_toInt (by omega)]; omega) ?_
  refine lv_aload_n hx hb dX8_paper_42 rfl (lv_at hl 0 rfl) ?_
  refine m_get (C := RX8) (T := TX8) (N := 12) (ci := 8) hx hb hts in_X8_paper_X8 hown hB (hL0 0 (by decide)) h_0 rfl 3 (by decide) (hts (.fieldLink RX8 76 "PaperRoom" "paperCount" "I") (by decide +kernel)) (fun _ h9 => h9) rfl dX8_paper_43 ?_
  refine lv_aload_n hx hb dX8_paper_46 rfl (lv_at hl 0 rfl) ?_
  refine m_get (C := RX8) (T := TX8) (N := 12) (ci := 8) hx hb hts in_X8_paper_X8 hown hB (hL0 0 (by decide)) h_0 rfl 2 (by decide) (hts (.fieldLink RX8 27 "PaperRoom" "papers" "[LPaperRoom$Paper;") (by decide +kernel)) (fun _ h9 => h9) rfl dX8_paper_47 ?_
  refine m_alen hx hb hB (hL0 6 (by decide)) 4 h_6 rfl (v := nI 8) rfl dX8_paper_50 ?_
  refine b_icmp_lt_t 57 hx hb dX8_paper_51 (by decide) (by rw [nI_toInt (by omega), show (nI 8).toInt = 8 by decide]; omega) ?_
  refine lv_iload_n hx hb dX8_paper_57 rfl (lv_at hl 1 rfl) ?_
  refine lv_iload_n hx hb dX8_paper_58 rfl (lv_at hl 2 rfl) ?_
  refine lv_iload_n hx hb dX8_paper_59 rfl (lv_at hl 3 rfl) ?_
  refine m_callS (As := [.int 0, .int (nI fo), .int u]) (rest := []) (c_X_newPaper_0 l D ty L ad _ pp pt (nI fo) u n_pp n_pt ne_pp_pt) ⟨hx, hb, hml, hown, hts⟩ (va_cwS 3 hts gX8_paper_X8_newPaper rfl rfl rfl (by decide +kernel) ⟨Nat.le_of_ble_eq_true rfl, Nat.le_of_ble_eq_true rfl⟩) hB rfl hl.1 rfl (Nat.le_of_ble_eq_true rfl) dX8_paper_60 ⟨Nat.le_of_ble_eq_true rfl, Nat.le_of_ble_eq_true rfl⟩ (fun v160 L160 ad_160 g160 H locs hp160 hB => ?_)
  obtain ⟨q1_160, q2_160, had_160, hfr_160, hf160_0, hf160_1⟩ := hp160
  subst q2_160
  have e160_0 : ad 0 = ad_160 0 := had_160 0 (hL0 0 (by decide))
  have e160_1 : ad 1 = ad_160 1 := had_160 1 (hL0 1 (by decide))
  have e160_2 : ad 2 = ad_160 2 := had_160 2 (hL0 2 (by decide))
  have e160_20 : ad 20 = ad_160 20 := had_160 20 (hL0 20 (by decide))
  have e160_22 : ad 22 = ad_160 22 := had_160 22 (hL0 22 (by decide))
  have e160_28 : ad 28 = ad_160 28 := had_160 28 (hL0 28 (by decide))
  have e160_29 : ad 29 = ad_160 29 := had_160 29 (hL0 29 (by decide))
  have e160_3 : ad 3 = ad_160 3 := had_160 3 (hL0 3 (by decide))
  have e160_6 : ad 6 = ad_160 6 := had_160 6 (hL0 6 (by decide))
  have e160_7 : ad 7 = ad_160 7 := had_160 7 (hL0 7 (by decide))
  replace hl : lv_has ls 5 [(0, .ref (ad_160 0)), (1, .int 0), (2, .int (nI fo)), (3, .int u)] := by rw [← e160_0]; exact hl
  have fa160_0 : g 0 = .inr (8, [.ref (ad_160 1), .ref (ad_160 3), .ref (ad_160 6), .int (nI pn), .ref (ad_160 7), .ref (ad_160 20), .ref (ad_160 22), .ref (ad_160 28), .int (nI qn), .ref (ad_160 29), .int nw, .long tr]) := by rw [← e160_1, ← e160_20, ← e160_22, ← e160_28, ← e160_29, ← e160_3, ← e160_6, ← e160_7]; exact h_0
  have fa160_1 : g 1 = .inr (5, [.ref (ad_160 2), .int (nI dn)]) := by rw [← e160_2]; exact h_1
  refine W.eq (g2 := F0 m 63 ls [.ref (ad_160 pp)]) (by rw [q1_160]; rfl) ?_
  refine lv_astore (lv' := [(4, .ref (ad_160 pp)), (0, .ref (ad_160 0)), (1, .int 0), (2, .int (nI fo)), (3, .int u)]) hx hb dX8_paper_63 hl (by decide) rfl (fun ls hl => ?_)
  refine lv_aload hx hb dX8_paper_65 (lv_at hl 0 rfl) ?_
  refine lv_aload_n hx hb dX8_paper_67 rfl (lv_at hl 1 rfl) ?_
  refine m_callV (ci := 8) (As := []) (rest := [.ref (ad_160 pp)]) (c_X_takeDraft l D ty ((L ++ [pp]) ++ [pt]) ad_160 _ pn qn nw tr dn t ro a bl db (fun r hr => List.mem_append_left _ (List.mem_append_left _ (hL0 r hr))) ((hfr_160 0 (hL0 0 (by decide))).trans fa160_0) ((hfr_160 1 (hL0 1 (by decide))).trans fa160_1) ((hfr_160 2 (hL0 2 (by decide))).trans h_2) (fun h9 => (List.mem_append.mp h9).elim (fun h9 => (List.mem_append.mp h9).elim n_t (fun h8 => ne_pp_t (List.mem_singleton.mp h8).symm)) (fun h8 => ne_pt_t (List.mem_singleton.mp h8).symm)) (fun h9 => (List.mem_append.mp h9).elim (fun h9 => (List.mem_append.mp h9).elim n_ro (fun h8 => ne_pp_ro (List.mem_singleton.mp h8).symm)) (fun h8 => ne_pt_ro (List.mem_singleton.mp h8).symm)) (fun h9 => (List.mem_append.mp h9).elim (fun h9 => (List.mem_append.mp h9).elim n_a (fun h8 => ne_pp_a (List.mem_singleton.mp h8).symm)) (fun h8 => ne_pt_a (List.mem_singleton.mp h8).symm)) (fun h9 => (List.mem_append.mp h9).elim (fun h9 => (List.mem_append.mp h9).elim n_bl (fun h8 => ne_pp_bl (List.mem_singleton.mp h8).symm)) (fun h8 => ne_pt_bl (List.mem_singleton.mp h8).symm)) hdn h8 ne_t_ro ne_t_a ne_t_bl ne_ro_a ne_ro_bl ne_a_bl hb_t hb_ro hb_a hb_bl) ⟨hx, hb, hml, hown, hts⟩ (cwV 0 hts gX8_paper_X8_takeDraft rfl rfl rfl (by decide +kernel) ⟨Nat.le_of_ble_eq_true rfl, Nat.le_of_ble_eq_true rfl⟩) hB (List.mem_append_left _ (List.mem_append_left _ (hL0 0 (by decide)))) ((hfr_160 0 (hL0 0 (by decide))).trans fa160_0) rfl rfl hl.1 rfl (Nat.le_of_ble_eq_true rfl) dX8_paper_68 ⟨Nat.le_of_ble_eq_true rfl, Nat.le_of_ble_eq_true rfl⟩ (fun v168 L168 ad_168 g168 H locs hp168 hB => ?_)
  obtain ⟨q1_168, q2_168, had_168, hfr_168, hf168_0, hf168_1, hf168_2, hf168_3, hf168_4⟩ := hp168
  subst q2_168
  have e168_0 : ad_160 0 = ad_168 0 := had_168 0 (List.mem_append_left _ (List.mem_append_left _ (hL0 0 (by decide))))
  have e168_1 : ad_160 1 = ad_168 1 := had_168 1 (List.mem_append_left _ (List.mem_append_left _ (hL0 1 (by decide))))
  have e168_2 : ad_160 2 = ad_168 2 := had_168 2 (List.mem_append_left _ (List.mem_append_left _ (hL0 2 (by decide))))
  have e168_20 : ad_160 20 = ad_168 20 := had_168 20 (List.mem_append_left _ (List.mem_append_left _ (hL0 20 (by decide))))
  have e168_22 : ad_160 22 = ad_168 22 := had_168 22 (List.mem_append_left _ (List.mem_append_left _ (hL0 22 (by decide))))
  have e168_28 : ad_160 28 = ad_168 28 := had_168 28 (List.mem_append_left _ (List.mem_append_left _ (hL0 28 (by decide))))
  have e168_29 : ad_160 29 = ad_168 29 := had_168 29 (List.mem_append_left _ (List.mem_append_left _ (hL0 29 (by decide))))
  have e168_3 : ad_160 3 = ad_168 3 := had_168 3 (List.mem_append_left _ (List.mem_append_left _ (hL0 3 (by decide))))
  have e168_6 : ad_160 6 = ad_168 6 := had_168 6 (List.mem_append_left _ (List.mem_append_left _ (hL0 6 (by decide))))
  have e168_7 : ad_160 7 = ad_168 7 := had_168 7 (List.mem_append_left _ (List.mem_append_left _ (hL0 7 (by decide))))
  have e168_pp : ad_160 pp = ad_168 pp := had_168 pp (List.mem_append_left _ (List.mem_append_right _ List.mem_cons_self))
  have e168_pt : ad_160 pt = ad_168 pt := had_168 pt (List.mem_append_right _ List.mem_cons_self)
  replace hl : lv_has ls 5 [(4, .ref (ad_168 pp)), (0, .ref (ad_168 0)), (1, .int 0), (2, .int (nI fo)), (3, .int u)] := by rw [← e168_0, ← e168_pp]; exact hl
  have fa168_0 : g160 0 = .inr (8, [.ref (ad_168 1), .ref (ad_168 3), .ref (ad_168 6), .int (nI pn), .ref (ad_168 7), .ref (ad_168 20), .ref (ad_168 22), .ref (ad_168 28), .int (nI qn), .ref (ad_168 29), .int nw, .long tr]) := by rw [← e168_1, ← e168_20, ← e168_22, ← e168_28, ← e168_29, ← e168_3, ← e168_6, ← e168_7]; exact ((hfr_160 0 (hL0 0 (by decide))).trans fa160_0)
  have fa168_1 : g160 1 = .inr (5, [.ref (ad_168 2), .int (nI dn)]) := by rw [← e168_2]; exact ((hfr_160 1 (hL0 1 (by decide))).trans fa160_1)
  have fa168_pp : g160 pp = .inr (2, [.int (nI fo), .ref (ad_168 pt), .int 0, .int 0]) := by rw [← e168_pt]; exact hf160_0
  refine W.eq (g2 := F0 m 71 ls [.ref (ad_168 t), .ref (ad_168 pp)]) (by rw [q1_168]; (try rw [e168_pp]); rfl) ?_
  refine m_callVE (ci := 2) (As := [.ref (ad_168 t)]) (rest := []) (c_Paper_addText l D ty ((((((L ++ [pp]) ++ [pt]) ++ [t]) ++ [ro]) ++ [a]) ++ [bl]) ad_168 _ pp pt 0 (nI fo) 0 (fun _ => none) t ro bl (List.mem_append_left _ (List.mem_append_left _ (List.mem_append_left _ (List.mem_append_left _ (List.mem_append_left _ (List.mem_append_right _ List.mem_cons_self)))))) (List.mem_append_left _ (List.mem_append_left _ (List.mem_append_left _ (List.mem_append_left _ (List.mem_append_right _ List.mem_cons_self))))) (List.mem_append_left _ (List.mem_append_left _ (List.mem_append_left _ (List.mem_append_right _ List.mem_cons_self)))) ((hfr_168 pp (List.mem_append_left _ (List.mem_append_right _ List.mem_cons_self)) (by omega)).trans fa168_pp) ((hfr_168 pt (List.mem_append_right _ List.mem_cons_self) (by omega)).trans hf160_1) hf168_1 (by omega) ne_pp_pt (Ne.symm ne_pt_t) (Ne.symm ne_pp_t)) ⟨hx, hb, hml, hown, hts⟩ (cwV 1 hts gX8_paper_X2_addText rfl rfl rfl (by decide +kernel) ⟨Nat.le_of_ble_eq_true rfl, Nat.le_of_ble_eq_true rfl⟩) hB (List.mem_append_left _ (List.mem_append_left _ (List.mem_append_left _ (List.mem_append_left _ (List.mem_append_left _ (List.mem_append_right _ List.mem_cons_self)))))) ((hfr_168 pp (List.mem_append_left _ (List.mem_append_right _ List.mem_cons_self)) (by omega)).trans fa168_pp) rfl rfl hl.1 rfl (Nat.le_of_ble_eq_true rfl) dX8_paper_71 ⟨Nat.le_of_ble_eq_true rfl, Nat.le_of_ble_eq_true rfl⟩ (fun H locs hB => ?_)
  replace hB : m_B D ty A s ((((((L ++ [pp]) ++ [pt]) ++ [t]) ++ [ro]) ++ [a]) ++ [bl]) ad_168 (va_up (va_up g168 pt (.inl (ty 7, 4, .inr (.inr (.inr (.inr (va_up (fun _ => none) 0 (some (ad_168 t))))))))) pp (.inr (2, [.int (nI fo), .ref (ad_168 pt), .int (nI 1), .int 0]))) H locs := hB
  refine lv_pop hx hb dX8_paper_74 rfl ?_
  refine lv_aload_n hx hb dX8_paper_75 rfl (lv_at hl 1 rfl) ?_
  refine m_get (C := RX8) (T := TX8) (N := 12) (ci := 8) hx hb hts in_X8_paper_X8 hown hB (List.mem_append_left _ (List.mem_append_left _ (List.mem_append_left _ (List.mem_append_left _ (List.mem_append_left _ (List.mem_append_left _ (hL0 0 (by decide)))))))) ((va_up_ne _ _ (by omega)).trans ((va_up_ne _ _ (by omega)).trans ((hfr_168 0 (List.mem_append_left _ (List.mem_append_left _ (hL0 0 (by decide)))) (by decide)).trans fa168_0))) rfl 2 (by decide) (hts (.fieldLink RX8 27 "PaperRoom" "papers" "[LPaperRoom$Paper;") (by decide +kernel)) (fun _ h9 => h9) rfl dX8_paper_76 ?_
  refine lv_aload_n hx hb dX8_paper_79 rfl (lv_at hl 1 rfl) ?_
  refine m_get (C := RX8) (T := TX8) (N := 12) (ci := 8) hx hb hts in_X8_paper_X8 hown hB (List.mem_append_left _ (List.mem_append_left _ (List.mem_append_left _ (List.mem_append_left _ (List.mem_append_left _ (List.mem_append_left _ (hL0 0 (by decide)))))))) ((va_up_ne _ _ (by omega)).trans ((va_up_ne _ _ (by omega)).trans ((hfr_168 0 (List.mem_append_left _ (List.mem_append_left _ (hL0 0 (by decide)))) (by decide)).trans fa168_0))) rfl 3 (by decide) (hts (.fieldLink RX8 76 "PaperRoom" "paperCount" "I") (by decide +kernel)) (fun _ h9 => h9) rfl dX8_paper_80 ?_
  refine lv_aload hx hb dX8_paper_83 (lv_at hl 0 rfl) ?_
  refine n_aast hx hb hB (List.mem_append_left _ (List.mem_append_left _ (List.mem_append_left _ (List.mem_append_left _ (List.mem_append_left _ (List.mem_append_left _ (hL0 6 (by decide)))))))) 4 ((va_up_ne _ _ (by omega)).trans ((va_up_ne _ _ (by omega)).trans ((hfr_168 6 (List.mem_append_left _ (List.mem_append_left _ (hL0 6 (by decide)))) (by decide)).trans ((hfr_160 6 (hL0 6 (by decide))).trans h_6)))) rfl (List.mem_append_left _ (List.mem_append_left _ (List.mem_append_left _ (List.mem_append_left _ (List.mem_append_left _ (List.mem_append_right _ List.mem_cons_self)))))) (va_up_self _ _ _) rfl (fun _ _ h1 h2 => m_asg_self h1 h2) pn rfl (by omega) (by omega) dX8_paper_85 (fun H locs hB => ?_)
  replace hB : m_B D ty A s ((((((L ++ [pp]) ++ [pt]) ++ [t]) ++ [ro]) ++ [a]) ++ [bl]) ad_168 (va_up (va_up (va_up g168 pt (.inl (ty 7, 4, .inr (.inr (.inr (.inr (va_up (fun _ => none) 0 (some (ad_168 t))))))))) pp (.inr (2, [.int (nI fo), .ref (ad_168 pt), .int (nI 1), .int 0]))) 6 (.inl (ty 4, 8, .inr (.inr (.inr (.inr (va_up pf pn (some (ad_168 pp))))))))) H locs := hB
  refine lv_aload_n hx hb dX8_paper_86 rfl (lv_at hl 1 rfl) ?_
  refine lv_dup hx hb dX8_paper_87 rfl ?_
  refine m_get (C := RX8) (T := TX8) (N := 12) (ci := 8) hx hb hts in_X8_paper_X8 hown hB (List.mem_append_left _ (List.mem_append_left _ (List.mem_append_left _ (List.mem_append_left _ (List.mem_append_left _ (List.mem_append_left _ (hL0 0 (by decide)))))))) ((va_up_ne _ _ (by decide)).trans ((va_up_ne _ _ (by omega)).trans ((va_up_ne _ _ (by omega)).trans ((hfr_168 0 (List.mem_append_left _ (List.mem_append_left _ (hL0 0 (by decide)))) (by decide)).trans fa168_0)))) rfl 3 (by decide) (hts (.fieldLink RX8 76 "PaperRoom" "paperCount" "I") (by decide +kernel)) (fun _ h9 => h9) rfl dX8_paper_88 ?_
  refine lv_iconst (v := 1) hx hb dX8_paper_91 (by decide) ?_
  refine lv_iadd hx hb dX8_paper_92 ?_
  refine b_topi (w := nI (pn + 1)) (nI_add pn 1) ?_
  refine m_put (C := RX8) (T := TX8) (N := 12) (ci := 8) (v := .int (nI (pn + 1))) (ft := .int) hx hb hts in_X8_paper_X8 tyX8 tyX8_ok nmX8 hown hB (List.mem_append_left _ (List.mem_append_left _ (List.mem_append_left _ (List.mem_append_left _ (List.mem_append_left _ (List.mem_append_left _ (hL0 0 (by decide)))))))) ((va_up_ne _ _ (by decide)).trans ((va_up_ne _ _ (by omega)).trans ((va_up_ne _ _ (by omega)).trans ((hfr_168 0 (List.mem_append_left _ (List.mem_append_left _ (hL0 0 (by decide)))) (by decide)).trans fa168_0)))) rfl 3 (by decide) (hts (.fieldLink RX8 76 "PaperRoom" "paperCount" "I") (by decide +kernel)) (fun _ h9 => h9) rfl (by decide +kernel) rfl rfl (Nat.le_of_ble_eq_true rfl) dX8_paper_93 (fun H locs hB => ?_)
  replace hB : m_B D ty A s ((((((L ++ [pp]) ++ [pt]) ++ [t]) ++ [ro]) ++ [a]) ++ [bl]) ad_168 (va_up (va_up (va_up (va_up g168 pt (.inl (ty 7, 4, .inr (.inr (.inr (.inr (va_up (fun _ => none) 0 (some (ad_168 t))))))))) pp (.inr (2, [.int (nI fo), .ref (ad_168 pt), .int (nI 1), .int 0]))) 6 (.inl (ty 4, 8, .inr (.inr (.inr (.inr (va_up pf pn (some (ad_168 pp))))))))) 0 (.inr (8, [.ref (ad_168 1), .ref (ad_168 3), .ref (ad_168 6), .int (nI (pn + 1)), .ref (ad_168 7), .ref (ad_168 20), .ref (ad_168 22), .ref (ad_168 28), .int (nI qn), .ref (ad_168 29), .int nw, .long tr]))) H locs := hB
  refine lv_aload_n hx hb dX8_paper_96 rfl (lv_at hl 1 rfl) ?_
  refine m_get (C := RX8) (T := TX8) (N := 12) (ci := 8) hx hb hts in_X8_paper_X8 hown hB (List.mem_append_left _ (List.mem_append_left _ (List.mem_append_left _ (List.mem_append_left _ (List.mem_append_left _ (List.mem_append_left _ (hL0 0 (by decide)))))))) (va_up_self _ _ _) rfl 3 (by decide) (hts (.fieldLink RX8 76 "PaperRoom" "paperCount" "I") (by decide +kernel)) (fun _ h9 => h9) rfl dX8_paper_97 ?_
  refine lv_iconst (v := 1) hx hb dX8_paper_100 (by decide) ?_
  refine lv_isub hx hb dX8_paper_101 ?_
  refine b_topi (w := nI pn) ((pk_sub (a := pn + 1) (b := 1) (by omega)).trans (by rw [Nat.add_sub_cancel])) ?_
  exact m_iret hx hb hrt hlocks hB (Nat.le_refl _) (Nat.le_refl _) dX8_paper_102 ⟨rfl, rfl, (fun x hx => ((had_160 x hx).trans (had_168 x (List.mem_append_left _ (List.mem_append_left _ hx))))), (fun x hx hn_1 hn_6 hn_0 => ((va_up_ne _ _ hn_0).trans ((va_up_ne _ _ hn_6).trans ((va_up_ne _ _ (fun e9 => n_pp (by rw [← e9]; exact hx))).trans ((va_up_ne _ _ (fun e9 => n_pt (by rw [← e9]; exact hx))).trans ((hfr_168 x (List.mem_append_left _ (List.mem_append_left _ hx)) hn_1).trans ((hfr_160 x hx).trans rfl))))))), ((va_up_ne _ _ (by decide)).trans ((va_up_ne _ _ (by decide)).trans ((va_up_ne _ _ (by omega)).trans ((va_up_ne _ _ (by omega)).trans hf168_0)))), ((va_up_ne _ _ (by omega)).trans ((va_up_ne _ _ (by omega)).trans ((va_up_ne _ _ (Ne.symm ne_pp_t)).trans ((va_up_ne _ _ (Ne.symm ne_pt_t)).trans hf168_1)))), ((va_up_ne _ _ (by omega)).trans ((va_up_ne _ _ (by omega)).trans ((va_up_ne _ _ (Ne.symm ne_pp_ro)).trans ((va_up_ne _ _ (Ne.symm ne_pt_ro)).trans hf168_2)))), ((va_up_ne _ _ (by omega)).trans ((va_up_ne _ _ (by omega)).trans ((va_up_ne _ _ (Ne.symm ne_pp_a)).trans ((va_up_ne _ _ (Ne.symm ne_pt_a)).trans hf168_3)))), ((va_up_ne _ _ (by omega)).trans ((va_up_ne _ _ (by omega)).trans ((va_up_ne _ _ (Ne.symm ne_pp_bl)).trans ((va_up_ne _ _ (Ne.symm ne_pt_bl)).trans hf168_4)))), ((va_up_ne _ _ (by omega)).trans ((va_up_ne _ _ (by omega)).trans ((va_up_ne _ _ (Ne.symm ne_pp_pt)).trans (va_up_self _ _ _)))), ((va_up_ne _ _ (by omega)).trans ((va_up_ne _ _ (by omega)).trans (va_up_self _ _ _))), ((va_up_ne _ _ (by decide)).trans (va_up_self _ _ _)), (va_up_self _ _ _)⟩
set_option maxHeartbeats 1000000 in
set_option maxRecDepth 100000 in
theorem c_X_paper_ok1 (l : Launch) (D : va_G) (ty : Nat → ClassId) (L : List Nat) (ad : Nat → Nat) (g : Nat → va_E) (pn qn : Nat) (nw : Int32) (tr : Int64) (pf : Nat → Option Nat) (dn fo : Nat) (u : Int32) (pp pt t ro a bl : Nat) (db : Nat → Int32) (hL0 : ∀ r, r < 30 → r ∈ L) (h_0 : g 0 = .inr (8, [.ref (ad 1), .ref (ad 3), .ref (ad 6), .int (nI pn), .ref (ad 7), .ref (ad 20), .ref (ad 22), .ref (ad 28), .int (nI qn), .ref (ad 29), .int nw, .long tr])) (h_1 : g 1 = .inr (5, [.ref (ad 2), .int (nI dn)])) (h_2 : g 2 = .inl (ty 2, 40, .inl db)) (h_6 : g 6 = .inl (ty 4, 8, .inr (.inr (.inr (.inr pf))))) (hfo : fo < 4) (hu : 0 ≤ u.toInt) (hd : 0 < dn) (hdn : dn ≤ 40) (hp8 : pn < 8) (n_pp : pp ∉ L) (n_pt : pt ∉ L) (n_t : t ∉ L) (n_ro : ro ∉ L) (n_a : a ∉ L) (n_bl : bl ∉ L) (h8 : ∀ k, k < dn → (db k).toInt8.toInt32 = db k) (ne_pp_pt : pp ≠ pt) (ne_pp_t : pp ≠ t) (ne_pp_ro : pp ≠ ro) (ne_pp_a : pp ≠ a) (ne_pp_bl : pp ≠ bl) (ne_pt_t : pt ≠ t) (ne_pt_ro : pt ≠ ro) (ne_pt_a : pt ≠ a) (ne_pt_bl : pt ≠ bl) (ne_t_ro : t ≠ ro) (ne_t_a : t ≠ a) (ne_t_bl : t ≠ bl) (ne_ro_a : ro ≠ a) (ne_ro_bl : ro ≠ bl) (ne_a_bl : a ≠ bl) (hb_pp : 30 ≤ pp) (hb_pt : 30 ≤ pt) (hb_t : 30 ≤ t) (hb_ro : 30 ≤ ro) (hb_a : 30 ≤ a) (hb_bl : 30 ≤ bl) : m_C l yX8_paper wsX8_paper 4 85 6 133 D ty [.ref (ad 0), .int 1, .int (nI fo), .int u] L ad g (fun v1 L1 ad1 g1 => v1 = some (.int (nI pn)) ∧ L1 = ((((((L ++ [pp]) ++ [pt]) ++ [t]) ++ [ro]) ++ [a]) ++ [bl]) ∧ (∀ x ∈ L, ad x = ad1 x) ∧ (∀ x ∈ L, x ≠ 1 → x ≠ 6 → x ≠ 0 → g1 x = g x) ∧ g1 1 = .inr (5, [.ref (ad1 2), .int 0]) ∧ g1 t = .inr (7, [.ref (ad1 ro), .ref (ad1 bl)]) ∧ g1 ro = .inr (5, [.ref (ad1 a), .int (nI dn)]) ∧ g1 a = .inl (ty 2, dn, .inl (cpf db dn)) ∧ g1 bl = .inl (ty 3, dn, .inl (fun _ => 0)) ∧ g1 pt = .inl (ty 7, 4, .inr (.inr (.inr (.inr (va_up (fun _ => none) 0 (some (ad1 t))))))) ∧ g1 pp = .inr (0, [.int (nI fo), .ref (ad1 pt), .int (nI 1), .int 0, .int u]) ∧ g1 6 = .inl (ty 4, 8, .inr (.inr (.inr (.inr (va_up pf pn (some (ad1 pp))))))) ∧ g1 0 = .inr (8, [.ref (ad1 1), .ref (ad1 3), .ref (ad1 6), .int (nI (pn + 1)), .ref (ad1 7), .ref (ad1 20), .ref (ad1 22), .ref (ad1 28), .int (nI qn), .ref (ad1 29), .int nw, .long tr])) := by
  intro sz
  refine Met.ofW (cc := cX8_paper) (maxL := 5) (ret := (some .int)) (by decide) rfl ?_
  intro p e s m args below meth c s₁ B hml hv
  have hx := B.exec
  have hb := B.bytes
  have hrt := B.returns
  have hts := atoms_spec (ws := wsX8_paper) B.pre
  have hown : s.vm.findClass RX8 = some m.cls := findClass_of_methodNamed B.named
  have hlocks := B.notSynchronized
  obtain ⟨rfl, hB⟩ := m_start hv
  generalize va_A (m_w L ad g) sz = A at hB ⊢
  generalize s.heap = H at hB ⊢
  generalize ([] : List Loc) = locs at hB ⊢
  have hl := lv_entry ([.ref (ad 0), .int 1, .int (nI fo), .int u]) (n := 5) (Nat.le_of_ble_eq_true rfl)
  rw [lg_entry_eq]
  generalize (lg_sl ([.ref (ad 0), .int 1, .int (nI fo), .int u]) ++ List.replicate (5 - (lg_sl ([.ref (ad 0), .int 1, .int (nI fo), .int u])).length) Slot.unset).toArray = ls at hl ⊢
  have hl : lv_has ls 5 [(0, .ref (ad 0)), (1, .int 1), (2, .int (nI fo)), (3, .int u)] := hl
  have tI_fo : (nI fo).toInt = (fo : Int) := nI_toInt (by omega)
  have l4 : (4 : Int32).toInt = 4 := by decide
  refine lv_iload_n hx hb dX8_paper_0 rfl (lv_at hl 1 rfl) ?_
  refine lv_iconst (v := 3) hx hb dX8_paper_1 (by decide) ?_
  refine m_callSE (As := [.int 1, .int 3]) (rest := []) (c_isBelow_t l D ty L ad _ _ _ (by decide) (by decide)) ⟨hx, hb, hml, hown, hts⟩ (va_cwS 2 hts gX8_paper_X8_isBelow rfl rfl rfl (by decide +kernel) ⟨Nat.le_of_ble_eq_true rfl, Nat.le_of_ble_eq_true rfl⟩) hB rfl hl.1 rfl (Nat.le_of_ble_eq_true rfl) dX8_paper_2 ⟨Nat.le_of_ble_eq_true rfl, Nat.le_of_ble_eq_true rfl⟩ (fun H locs hB => ?_)
  refine b_if_eq_f 16 hx hb dX8_paper_5 (by decide) (by decide) ?_
  refine lv_iload_n hx hb dX8_paper_8 rfl (lv_at hl 2 rfl) ?_
  refine lv_iconst (v := 4) hx hb dX8_paper_9 (by decide) ?_
  refine m_callSE (As := [.int (nI fo), .int 4]) (rest := []) (c_isBelow_t l D ty L ad _ _ _ (by omega) (by omega)) ⟨hx, hb, hml, hown, hts⟩ (va_cwS 2 hts gX8_paper_X8_isBelow rfl rfl rfl (by decide +kernel) ⟨Nat.le_of_ble_eq_true rfl, Nat.le_of_ble_eq_true rfl⟩) hB rfl hl.1 rfl (Nat.le_of_ble_eq_true rfl) dX8_paper_10 ⟨Nat.le_of_ble_eq_true rfl, Nat.le_of_ble_eq_true rfl⟩ (fun H locs hB => ?_)
  refine b_if_ne_t 18 hx hb dX8_paper_13 (by decide) (by decide) ?_
  refine lv_iload_n hx hb dX8_paper_18 rfl (lv_at hl 1 rfl) ?_
  refine lv_iconst (v := 1) hx hb dX8_paper_19 (by decide) ?_
  refine b_icmp_ne_f 29 hx hb dX8_paper_20 (by decide) (by decide) ?_
  refine lv_iload_n hx hb dX8_paper_23 rfl (lv_at hl 3 rfl) ?_
  refine b_if_ge_t 29 hx hb dX8_paper_24 (by decide) (by omega) ?_
  refine lv_aload_n hx hb dX8_paper_29 rfl (lv_at hl 0 rfl) ?_
  refine m_get (C := RX8) (T := TX8) (N := 12) (ci := 8) hx hb hts in_X8_paper_X8 hown hB (hL0 0 (by decide)) h_0 rfl 0 (by decide) (hts (.fieldLink RX8 14 "PaperRoom" "draft" "LPaperRoom$Row;") (by decide +kernel)) (fun _ h9 => h9) rfl dX8_paper_30 ?_
  refine m_callVE (ci := 5) (As := []) (rest := []) (c_Row_length l D ty L ad g 1 2 dn (hL0 1 (by decide)) h_1) ⟨hx, hb, hml, hown, hts⟩ (cwV 0 hts gX8_paper_X5_length rfl rfl rfl (by decide +kernel) ⟨Nat.le_of_ble_eq_true rfl, Nat.le_of_ble_eq_true rfl⟩) hB (hL0 1 (by decide)) h_1 rfl rfl hl.1 rfl (Nat.le_of_ble_eq_true rfl) dX8_paper_33 ⟨Nat.le_of_ble_eq_true rfl, Nat.le_of_ble_eq_true rfl⟩ (fun H locs hB => ?_)
  refine b_if_ne_t 42 hx hb dX8_paper_36 (by decide) (by rw [nI_toInt (by omega)]; omega) ?_
  refine lv_aload_n hx hb dX8_paper_42 rfl (lv_at hl 0 rfl) ?_
  refine m_get (C := RX8) (T := TX8) (N := 12) (ci := 8) hx hb hts in_X8_paper_X8 hown hB (hL0 0 (by decide)) h_0 rfl 3 (by decide) (hts (.fieldLink RX8 76 "PaperRoom" "paperCount" "I") (by decide +kernel)) (fun _ h9 => h9) rfl dX8_paper_43 ?_
  refine lv_aload_n hx hb dX8_paper_46 rfl (lv_at hl 0 rfl) ?_
  refine m_get (C := RX8) (T := TX8) (N := 12) (ci := 8) hx hb hts in_X8_paper_X8 hown hB (hL0 0 (by decide)) h_0 rfl 2 (by decide) (hts (.fieldLink RX8 27 "PaperRoom" "papers" "[LPaperRoom$Paper;") (by decide +kernel)) (fun _ h9 => h9) rfl dX8_paper_47 ?_
  refine m_alen hx hb hB (hL0 6 (by decide)) 4 h_6 rfl (v := nI 8) rfl dX8_paper_50 ?_
  refine b_icmp_lt_t 57 hx hb dX8_paper_51 (by decide) (by rw [nI_toInt (by omega), show (nI 8).toInt = 8 by decide]; omega) ?_
  refine lv_iload_n hx hb dX8_paper_57 rfl (lv_at hl 1 rfl) ?_
  refine lv_iload_n hx hb dX8_paper_58 rfl (lv_at hl 2 rfl) ?_
  refine lv_iload_n hx hb dX8_paper_59 rfl (lv_at hl 3 rfl) ?_
  refine m_callS (As := [.int 1, .int (nI fo), .int u]) (rest := []) (c_X_newPaper_1 l D ty L ad _ pp pt (nI fo) u n_pp n_pt ne_pp_pt) ⟨hx, hb, hml, hown, hts⟩ (va_cwS 3 hts gX8_paper_X8_newPaper rfl rfl rfl (by decide +kernel) ⟨Nat.le_of_ble_eq_true rfl, Nat.le_of_ble_eq_true rfl⟩) hB rfl hl.1 rfl (Nat.le_of_ble_eq_true rfl) dX8_paper_60 ⟨Nat.le_of_ble_eq_true rfl, Nat.le_of_ble_eq_true rfl⟩ (fun v160 L160 ad_160 g160 H locs hp160 hB => ?_)
  obtain ⟨q1_160, q2_160, had_160, hfr_160, hf160_0, hf160_1⟩ := hp160
  subst q2_160
  have e160_0 : ad 0 = ad_160 0 := had_160 0 (hL0 0 (by decide))
  have e160_1 : ad 1 = ad_160 1 := had_160 1 (hL0 1 (by decide))
  have e160_2 : ad 2 = ad_160 2 := had_160 2 (hL0 2 (by decide))
  have e160_20 : ad 20 = ad_160 20 := had_160 20 (hL0 20 (by decide))
  have e160_22 : ad 22 = ad_160 22 := had_160 22 (hL0 22 (by decide))
  have e160_28 : ad 28 = ad_160 28 := had_160 28 (hL0 28 (by decide))
  have e160_29 : ad 29 = ad_160 29 := had_160 29 (hL0 29 (by decide))
  have e160_3 : ad 3 = ad_160 3 := had_160 3 (hL0 3 (by decide))
  have e160_6 : ad 6 = ad_160 6 := had_160 6 (hL0 6 (by decide))
  have e160_7 : ad 7 = ad_160 7 := had_160 7 (hL0 7 (by decide))
  replace hl : lv_has ls 5 [(0, .ref (ad_160 0)), (1, .int 1), (2, .int (nI fo)), (3, .int u)] := by rw [← e160_0]; exact hl
  have fa160_0 : g 0 = .inr (8, [.ref (ad_160 1), .ref (ad_160 3), .ref (ad_160 6), .int (nI pn), .ref (ad_160 7), .ref (ad_160 20), .ref (ad_160 22), .ref (ad_160 28), .int (nI qn), .ref (ad_160 29), .int nw, .long tr]) := by rw [← e160_1, ← e160_20, ← e160_22, ← e160_28, ← e160_29, ← e160_3, ← e160_6, ← e160_7]; exact h_0
  have fa160_1 : g 1 = .inr (5, [.ref (ad_160 2), .int (nI dn)]) := by rw [← e160_2]; exact h_1
  refine W.eq (g2 := F0 m 63 ls [.ref (ad_160 pp)]) (by rw [q1_160]; rfl) ?_
  refine lv_astore (lv' := [(4, .ref (ad_160 pp)), (0, .ref (ad_160 0)), (1, .int 1), (2, .int (nI fo)), (3, .int u)]) hx hb dX8_paper_63 hl (by decide) rfl (fun ls hl => ?_)
  refine lv_aload hx hb dX8_paper_65 (lv_at hl 0 rfl) ?_
  refine lv_aload_n hx hb dX8_paper_67 rfl (lv_at hl 1 rfl) ?_
  refine m_callV (ci := 8) (As := []) (rest := [.ref (ad_160 pp)]) (c_X_takeDraft l D ty ((L ++ [pp]) ++ [pt]) ad_160 _ pn qn nw tr dn t ro a bl db (fun r hr => List.mem_append_left _ (List.mem_append_left _ (hL0 r hr))) ((hfr_160 0 (hL0 0 (by decide))).trans fa160_0) ((hfr_160 1 (hL0 1 (by decide))).trans fa160_1) ((hfr_160 2 (hL0 2 (by decide))).trans h_2) (fun h9 => (List.mem_append.mp h9).elim (fun h9 => (List.mem_append.mp h9).elim n_t (fun h8 => ne_pp_t (List.mem_singleton.mp h8).symm)) (fun h8 => ne_pt_t (List.mem_singleton.mp h8).symm)) (fun h9 => (List.mem_append.mp h9).elim (fun h9 => (List.mem_append.mp h9).elim n_ro (fun h8 => ne_pp_ro (List.mem_singleton.mp h8).symm)) (fun h8 => ne_pt_ro (List.mem_singleton.mp h8).symm)) (fun h9 => (List.mem_append.mp h9).elim (fun h9 => (List.mem_append.mp h9).elim n_a (fun h8 => ne_pp_a (List.mem_singleton.mp h8).symm)) (fun h8 => ne_pt_a (List.mem_singleton.mp h8).symm)) (fun h9 => (List.mem_append.mp h9).elim (fun h9 => (List.mem_append.mp h9).elim n_bl (fun h8 => ne_pp_bl (List.mem_singleton.mp h8).symm)) (fun h8 => ne_pt_bl (List.mem_singleton.mp h8).symm)) hdn h8 ne_t_ro ne_t_a ne_t_bl ne_ro_a ne_ro_bl ne_a_bl hb_t hb_ro hb_a hb_bl) ⟨hx, hb, hml, hown, hts⟩ (cwV 0 hts gX8_paper_X8_takeDraft rfl rfl rfl (by decide +kernel) ⟨Nat.le_of_ble_eq_true rfl, Nat.le_of_ble_eq_true rfl⟩) hB (List.mem_append_left _ (List.mem_append_left _ (hL0 0 (by decide)))) ((hfr_160 0 (hL0 0 (by decide))).trans fa160_0) rfl rfl hl.1 rfl (Nat.le_of_ble_eq_true rfl) dX8_paper_68 ⟨Nat.le_of_ble_eq_true rfl, Nat.le_of_ble_eq_true rfl⟩ (fun v168 L168 ad_168 g168 H locs hp168 hB => ?_)
  obtain ⟨q1_168, q2_168, had_168, hfr_168, hf168_0, hf168_1, hf168_2, hf168_3, hf168_4⟩ := hp168
  subst q2_168
  have e168_0 : ad_160 0 = ad_168 0 := had_168 0 (List.mem_append_left _ (List.mem_append_left _ (hL0 0 (by decide))))
  have e168_1 : ad_160 1 = ad_168 1 := had_168 1 (List.mem_append_left _ (List.mem_append_left _ (hL0 1 (by decide))))
  have e168_2 : ad_160 2 = ad_168 2 := had_168 2 (List.mem_append_left _ (List.mem_append_left _ (hL0 2 (by decide))))
  have e168_20 : ad_160 20 = ad_168 20 := had_168 20 (List.mem_append_left _ (List.mem_append_left _ (hL0 20 (by decide))))
  have e168_22 : ad_160 22 = ad_168 22 := had_168 22 (List.mem_append_left _ (List.mem_append_left _ (hL0 22 (by decide))))
  have e168_28 : ad_160 28 = ad_168 28 := had_168 28 (List.mem_append_left _ (List.mem_append_left _ (hL0 28 (by decide))))
  have e168_29 : ad_160 29 = ad_168 29 := had_168 29 (List.mem_append_left _ (List.mem_append_left _ (hL0 29 (by decide))))
  have e168_3 : ad_160 3 = ad_168 3 := had_168 3 (List.mem_append_left _ (List.mem_append_left _ (hL0 3 (by decide))))
  have e168_6 : ad_160 6 = ad_168 6 := had_168 6 (List.mem_append_left _ (List.mem_append_left _ (hL0 6 (by decide))))
  have e168_7 : ad_160 7 = ad_168 7 := had_168 7 (List.mem_append_left _ (List.mem_append_left _ (hL0 7 (by decide))))
  have e168_pp : ad_160 pp = ad_168 pp := had_168 pp (List.mem_append_left _ (List.mem_append_right _ List.mem_cons_self))
  have e168_pt : ad_160 pt = ad_168 pt := had_168 pt (List.mem_append_right _ List.mem_cons_self)
  replace hl : lv_has ls 5 [(4, .ref (ad_168 pp)), (0, .ref (ad_168 0)), (1, .int 1), (2, .int (nI fo)), (3, .int u)] := by rw [← e168_0, ← e168_pp]; exact hl
  have fa168_0 : g160 0 = .inr (8, [.ref (ad_168 1), .ref (ad_168 3), .ref (ad_168 6), .int (nI pn), .ref (ad_168 7), .ref (ad_168 20), .ref (ad_168 22), .ref (ad_168 28), .int (nI qn), .ref (ad_168 29), .int nw, .long tr]) := by rw [← e168_1, ← e168_20, ← e168_22, ← e168_28, ← e168_29, ← e168_3, ← e168_6, ← e168_7]; exact ((hfr_160 0 (hL0 0 (by decide))).trans fa160_0)
  have fa168_1 : g160 1 = .inr (5, [.ref (ad_168 2), .int (nI dn)]) := by rw [← e168_2]; exact ((hfr_160 1 (hL0 1 (by decide))).trans fa160_1)
  have fa168_pp : g160 pp = .inr (0, [.int (nI fo), .ref (ad_168 pt), .int 0, .int 0, .int u]) := by rw [← e168_pt]; exact hf160_0
  refine W.eq (g2 := F0 m 71 ls [.ref (ad_168 t), .ref (ad_168 pp)]) (by rw [q1_168]; (try rw [e168_pp]); rfl) ?_
  refine m_callUE (ci := 0) (As := [.ref (ad_168 t)]) (rest := []) (c_Held_addText l D ty ((((((L ++ [pp]) ++ [pt]) ++ [t]) ++ [ro]) ++ [a]) ++ [bl]) ad_168 _ pp pt 0 (nI fo) 0 u (fun _ => none) t ro bl (List.mem_append_left _ (List.mem_append_left _ (List.mem_append_left _ (List.mem_append_left _ (List.mem_append_left _ (List.mem_append_right _ List.mem_cons_self)))))) (List.mem_append_left _ (List.mem_append_left _ (List.mem_append_left _ (List.mem_append_left _ (List.mem_append_right _ List.mem_cons_self))))) (List.mem_append_left _ (List.mem_append_left _ (List.mem_append_left _ (List.mem_append_right _ List.mem_cons_self)))) ((hfr_168 pp (List.mem_append_left _ (List.mem_append_right _ List.mem_cons_self)) (by omega)).trans fa168_pp) ((hfr_168 pt (List.mem_append_right _ List.mem_cons_self) (by omega)).trans hf160_1) hf168_1 (by omega) ne_pp_pt (Ne.symm ne_pt_t) (Ne.symm ne_pp_t)) ⟨hx, hb, hml, hown, hts⟩ (va_cwU 1 hts gX8_paper_X2_addText_u88X0 rfl rfl rfl rfl (by decide +kernel) ⟨Nat.le_of_ble_eq_true rfl, Nat.le_of_ble_eq_true rfl⟩) hB (List.mem_append_left _ (List.mem_append_left _ (List.mem_append_left _ (List.mem_append_left _ (List.mem_append_left _ (List.mem_append_right _ List.mem_cons_self)))))) ((hfr_168 pp (List.mem_append_left _ (List.mem_append_right _ List.mem_cons_self)) (by omega)).trans fa168_pp) rfl rfl hl.1 rfl (Nat.le_of_ble_eq_true rfl) dX8_paper_71 ⟨Nat.le_of_ble_eq_true rfl, Nat.le_of_ble_eq_true rfl⟩ (fun H locs hB => ?_)
  replace hB : m_B D ty A s ((((((L ++ [pp]) ++ [pt]) ++ [t]) ++ [ro]) ++ [a]) ++ [bl]) ad_168 (va_up (va_up g168 pt (.inl (ty 7, 4, .inr (.inr (.inr (.inr (va_up (fun _ => none) 0 (some (ad_168 t))))))))) pp (.inr (0, [.int (nI fo), .ref (ad_168 pt), .int (nI 1), .int 0, .int u]))) H locs := hB
  refine lv_pop hx hb dX8_paper_74 rfl ?_
  refine lv_aload_n hx hb dX8_paper_75 rfl (lv_at hl 1 rfl) ?_
  refine m_get (C := RX8) (T := TX8) (N := 12) (ci := 8) hx hb hts in_X8_paper_X8 hown hB (List.mem_append_left _ (List.mem_append_left _ (List.mem_append_left _ (List.mem_append_left _ (List.mem_append_left _ (List.mem_append_left _ (hL0 0 (by decide)))))))) ((va_up_ne _ _ (by omega)).trans ((va_up_ne _ _ (by omega)).trans ((hfr_168 0 (List.mem_append_left _ (List.mem_append_left _ (hL0 0 (by decide)))) (by decide)).trans fa168_0))) rfl 2 (by decide) (hts (.fieldLink RX8 27 "PaperRoom" "papers" "[LPaperRoom$Paper;") (by decide +kernel)) (fun _ h9 => h9) rfl dX8_paper_76 ?_
  refine lv_aload_n hx hb dX8_paper_79 rfl (lv_at hl 1 rfl) ?_
  refine m_get (C := RX8) (T := TX8) (N := 12) (ci := 8) hx hb hts in_X8_paper_X8 hown hB (List.mem_append_left _ (List.mem_append_left _ (List.mem_append_left _ (List.mem_append_left _ (List.mem_append_left _ (List.mem_append_left _ (hL0 0 (by decide)))))))) ((va_up_ne _ _ (by omega)).trans ((va_up_ne _ _ (by omega)).trans ((hfr_168 0 (List.mem_append_left _ (List.mem_append_left _ (hL0 0 (by decide)))) (by decide)).trans fa168_0))) rfl 3 (by decide) (hts (.fieldLink RX8 76 "PaperRoom" "paperCount" "I") (by decide +kernel)) (fun _ h9 => h9) rfl dX8_paper_80 ?_
  refine lv_aload hx hb dX8_paper_83 (lv_at hl 0 rfl) ?_
  refine n_aast hx hb hB (List.mem_append_left _ (List.mem_append_left _ (List.mem_append_left _ (List.mem_append_left _ (List.mem_append_left _ (List.mem_append_left _ (hL0 6 (by decide)))))))) 4 ((va_up_ne _ _ (by omega)).trans ((va_up_ne _ _ (by omega)).trans ((hfr_168 6 (List.mem_append_left _ (List.mem_append_left _ (hL0 6 (by decide)))) (by decide)).trans ((hfr_160 6 (hL0 6 (by decide))).trans h_6)))) rfl (List.mem_append_left _ (List.mem_append_left _ (List.mem_append_left _ (List.mem_append_left _ (List.mem_append_left _ (List.mem_append_right _ List.mem_cons_self)))))) (va_up_self _ _ _) rfl (fun _ _ h1 h2 => m_asg_cast hB.2.1.2.1.1 h1 h2) pn rfl (by omega) (by omega) dX8_paper_85 (fun H locs hB => ?_)
  replace hB : m_B D ty A s ((((((L ++ [pp]) ++ [pt]) ++ [t]) ++ [ro]) ++ [a]) ++ [bl]) ad_168 (va_up (va_up (va_up g168 pt (.inl (ty 7, 4, .inr (.inr (.inr (.inr (va_up (fun _ => none) 0 (some (ad_168 t))))))))) pp (.inr (0, [.int (nI fo), .ref (ad_168 pt), .int (nI 1), .int 0, .int u]))) 6 (.inl (ty 4, 8, .inr (.inr (.inr (.inr (va_up pf pn (some (ad_168 pp))))))))) H locs := hB
  refine lv_aload_n hx hb dX8_paper_86 rfl (lv_at hl 1 rfl) ?_
  refine lv_dup hx hb dX8_paper_87 rfl ?_
  refine m_get (C := RX8) (T := TX8) (N := 12) (ci := 8) hx hb hts in_X8_paper_X8 hown hB (List.mem_append_left _ (List.mem_append_left _ (List.mem_append_left _ (List.mem_append_left _ (List.mem_append_left _ (List.mem_append_left _ (hL0 0 (by decide)))))))) ((va_up_ne _ _ (by decide)).trans ((va_up_ne _ _ (by omega)).trans ((va_up_ne _ _ (by omega)).trans ((hfr_168 0 (List.mem_append_left _ (List.mem_append_left _ (hL0 0 (by decide)))) (by decide)).trans fa168_0)))) rfl 3 (by decide) (hts (.fieldLink RX8 76 "PaperRoom" "paperCount" "I") (by decide +kernel)) (fun _ h9 => h9) rfl dX8_paper_88 ?_
  refine lv_iconst (v := 1) hx hb dX8_paper_91 (by decide) ?_
  refine lv_iadd hx hb dX8_paper_92 ?_
  refine b_topi (w := nI (pn + 1)) (nI_add pn 1) ?_
  refine m_put (C := RX8) (T := TX8) (N := 12) (ci := 8) (v := .int (nI (pn + 1))) (ft := .int) hx hb hts in_X8_paper_X8 tyX8 tyX8_ok nmX8 hown hB (List.mem_append_left _ (List.mem_append_left _ (List.mem_append_left _ (List.mem_append_left _ (List.mem_append_left _ (List.mem_append_left _ (hL0 0 (by decide)))))))) ((va_up_ne _ _ (by decide)).trans ((va_up_ne _ _ (by omega)).trans ((va_up_ne _ _ (by omega)).trans ((hfr_168 0 (List.mem_append_left _ (List.mem_append_left _ (hL0 0 (by decide)))) (by decide)).trans fa168_0)))) rfl 3 (by decide) (hts (.fieldLink RX8 76 "PaperRoom" "paperCount" "I") (by decide +kernel)) (fun _ h9 => h9) rfl (by decide +kernel) rfl rfl (Nat.le_of_ble_eq_true rfl) dX8_paper_93 (fun H locs hB => ?_)
  replace hB : m_B D ty A s ((((((L ++ [pp]) ++ [pt]) ++ [t]) ++ [ro]) ++ [a]) ++ [bl]) ad_168 (va_up (va_up (va_up (va_up g168 pt (.inl (ty 7, 4, .inr (.inr (.inr (.inr (va_up (fun _ => none) 0 (some (ad_168 t))))))))) pp (.inr (0, [.int (nI fo), .ref (ad_168 pt), .int (nI 1), .int 0, .int u]))) 6 (.inl (ty 4, 8, .inr (.inr (.inr (.inr (va_up pf pn (some (ad_168 pp))))))))) 0 (.inr (8, [.ref (ad_168 1), .ref (ad_168 3), .ref (ad_168 6), .int (nI (pn + 1)), .ref (ad_168 7), .ref (ad_168 20), .ref (ad_168 22), .ref (ad_168 28), .int (nI qn), .ref (ad_168 29), .int nw, .long tr]))) H locs := hB
  refine lv_aload_n hx hb dX8_paper_96 rfl (lv_at hl 1 rfl) ?_
  refine m_get (C := RX8) (T := TX8) (N := 12) (ci := 8) hx hb hts in_X8_paper_X8 hown hB (List.mem_append_left _ (List.mem_append_left _ (List.mem_append_left _ (List.mem_append_left _ (List.mem_append_left _ (List.mem_append_left _ (hL0 0 (by decide)))))))) (va_up_self _ _ _) rfl 3 (by decide) (hts (.fieldLink RX8 76 "PaperRoom" "paperCount" "I") (by decide +kernel)) (fun _ h9 => h9) rfl dX8_paper_97 ?_
  refine lv_iconst (v := 1) hx hb dX8_paper_100 (by decide) ?_
  refine lv_isub hx hb dX8_paper_101 ?_
  refine b_topi (w := nI pn) ((pk_sub (a := pn + 1) (b := 1) (by omega)).trans (by rw [Nat.add_sub_cancel])) ?_
  exact m_iret hx hb hrt hlocks hB (Nat.le_refl _) (Nat.le_refl _) dX8_paper_102 ⟨rfl, rfl, (fun x hx => ((had_160 x hx).trans (had_168 x (List.mem_append_left _ (List.mem_append_left _ hx))))), (fun x hx hn_1 hn_6 hn_0 => ((va_up_ne _ _ hn_0).trans ((va_up_ne _ _ hn_6).trans ((va_up_ne _ _ (fun e9 => n_pp (by rw [← e9]; exact hx))).trans ((va_up_ne _ _ (fun e9 => n_pt (by rw [← e9]; exact hx))).trans ((hfr_168 x (List.mem_append_left _ (List.mem_append_left _ hx)) hn_1).trans ((hfr_160 x hx).trans rfl))))))), ((va_up_ne _ _ (by decide)).trans ((va_up_ne _ _ (by decide)).trans ((va_up_ne _ _ (by omega)).trans ((va_up_ne _ _ (by omega)).trans hf168_0)))), ((va_up_ne _ _ (by omega)).trans ((va_up_ne _ _ (by omega)).trans ((va_up_ne _ _ (Ne.symm ne_pp_t)).trans ((va_up_ne _ _ (Ne.symm ne_pt_t)).trans hf168_1)))), ((va_up_ne _ _ (by omega)).trans ((va_up_ne _ _ (by omega)).trans ((va_up_ne _ _ (Ne.symm ne_pp_ro)).trans ((va_up_ne _ _ (Ne.symm ne_pt_ro)).trans hf168_2)))), ((va_up_ne _ _ (by omega)).trans ((va_up_ne _ _ (by omega)).trans ((va_up_ne _ _ (Ne.symm ne_pp_a)).trans ((va_up_ne _ _ (Ne.symm ne_pt_a)).trans hf168_3)))), ((va_up_ne _ _ (by omega)).trans ((va_up_ne _ _ (by omega)).trans ((va_up_ne _ _ (Ne.symm ne_pp_bl)).trans ((va_up_ne _ _ (Ne.symm ne_pt_bl)).trans hf168_4)))), ((va_up_ne _ _ (by omega)).trans ((va_up_ne _ _ (by omega)).trans ((va_up_ne _ _ (Ne.symm ne_pp_pt)).trans (va_up_self _ _ _)))), ((va_up_ne _ _ (by omega)).trans ((va_up_ne _ _ (by omega)).trans (va_up_self _ _ _))), ((va_up_ne _ _ (by decide)).trans (va_up_self _ _ _)), (va_up_self _ _ _)⟩
set_option maxHeartbeats 1000000 in
set_option maxRecDepth 100000 in
theorem c_X_paper_ok2 (l : Launch) (D : va_G) (ty : Nat → ClassId) (L : List Nat) (ad : Nat → Nat) (g : Nat → va_E) (pn qn : Nat) (nw : Int32) (tr : Int64) (pf : Nat → Option Nat) (dn fo : Nat) (u : Int32) (pp pt t ro a bl : Nat) (db : Nat → Int32) (hL0 : ∀ r, r < 30 → r ∈ L) (h_0 : g 0 = .inr (8, [.ref (ad 1), .ref (ad 3), .ref (ad 6), .int (nI pn), .ref (ad 7), .ref (ad 20), .ref (ad 22), .ref (ad 28), .int (nI qn), .ref (ad 29), .int nw, .long tr])) (h_1 : g 1 = .inr (5, [.ref (ad 2), .int (nI dn)])) (h_2 : g 2 = .inl (ty 2, 40, .inl db)) (h_6 : g 6 = .inl (ty 4, 8, .inr (.inr (.inr (.inr pf))))) (hfo : fo < 4) (hd : 0 < dn) (hdn : dn ≤ 40) (hp8 : pn < 8) (n_pp : pp ∉ L) (n_pt : pt ∉ L) (n_t : t ∉ L) (n_ro : ro ∉ L) (n_a : a ∉ L) (n_bl : bl ∉ L) (h8 : ∀ k, k < dn → (db k).toInt8.toInt32 = db k) (ne_pp_pt : pp ≠ pt) (ne_pp_t : pp ≠ t) (ne_pp_ro : pp ≠ ro) (ne_pp_a : pp ≠ a) (ne_pp_bl : pp ≠ bl) (ne_pt_t : pt ≠ t) (ne_pt_ro : pt ≠ ro) (ne_pt_a : pt ≠ a) (ne_pt_bl : pt ≠ bl) (ne_t_ro : t ≠ ro) (ne_t_a : t ≠ a) (ne_t_bl : t ≠ bl) (ne_ro_a : ro ≠ a) (ne_ro_bl : ro ≠ bl) (ne_a_bl : a ≠ bl) (hb_pp : 30 ≤ pp) (hb_pt : 30 ≤ pt) (hb_t : 30 ≤ t) (hb_ro : 30 ≤ ro) (hb_a : 30 ≤ a) (hb_bl : 30 ≤ bl) : m_C l yX8_paper wsX8_paper 4 85 6 133 D ty [.ref (ad 0), .int 2, .int (nI fo), .int u] L ad g (fun v1 L1 ad1 g1 => v1 = some (.int (nI pn)) ∧ L1 = ((((((L ++ [pp]) ++ [pt]) ++ [t]) ++ [ro]) ++ [a]) ++ [bl]) ∧ (∀ x ∈ L, ad x = ad1 x) ∧ (∀ x ∈ L, x ≠ 1 → x ≠ 6 → x ≠ 0 → g1 x = g x) ∧ g1 1 = .inr (5, [.ref (ad1 2), .int 0]) ∧ g1 t = .inr (7, [.ref (ad1 ro), .ref (ad1 bl)]) ∧ g1 ro = .inr (5, [.ref (ad1 a), .int (nI dn)]) ∧ g1 a = .inl (ty 2, dn, .inl (cpf db dn)) ∧ g1 bl = .inl (ty 3, dn, .inl (fun _ => 0)) ∧ g1 pt = .inl (ty 7, 4, .inr (.inr (.inr (.inr (va_up (fun _ => none) 0 (some (ad1 t))))))) ∧ g1 pp = .inr (1, [.int (nI fo), .ref (ad1 pt), .int (nI 1), .int 0]) ∧ g1 6 = .inl (ty 4, 8, .inr (.inr (.inr (.inr (va_up pf pn (some (ad1 pp))))))) ∧ g1 0 = .inr (8, [.ref (ad1 1), .ref (ad1 3), .ref (ad1 6), .int (nI (pn + 1)), .ref (ad1 7), .ref (ad1 20), .ref (ad1 22), .ref (ad1 28), .int (nI qn), .ref (ad1 29), .int nw, .long tr])) := by
  intro sz
  refine Met.ofW (cc := cX8_paper) (maxL := 5) (ret := (some .int)) (by decide) rfl ?_
  intro p e s m args below meth c s₁ B hml hv
  have hx := B.exec
  have hb := B.bytes
  have hrt := B.returns
  have hts := atoms_spec (ws := wsX8_paper) B.pre
  have hown : s.vm.findClass RX8 = some m.cls := findClass_of_methodNamed B.named
  have hlocks := B.notSynchronized
  obtain ⟨rfl, hB⟩ := m_start hv
  generalize va_A (m_w L ad g) sz = A at hB ⊢
  generalize s.heap = H at hB ⊢
  generalize ([] : List Loc) = locs at hB ⊢
  have hl := lv_entry ([.ref (ad 0), .int 2, .int (nI fo), .int u]) (n := 5) (Nat.le_of_ble_eq_true rfl)
  rw [lg_entry_eq]
  generalize (lg_sl ([.ref (ad 0), .int 2, .int (nI fo), .int u]) ++ List.replicate (5 - (lg_sl ([.ref (ad 0), .int 2, .int (nI fo), .int u])).length) Slot.unset).toArray = ls at hl ⊢
  have hl : lv_has ls 5 [(0, .ref (ad 0)), (1, .int 2), (2, .int (nI fo)), (3, .int u)] := hl
  have tI_fo : (nI fo).toInt = (fo : Int) := nI_toInt (by omega)
  have l4 : (4 : Int32).toInt = 4 := by decide
  refine lv_iload_n hx hb dX8_paper_0 rfl (lv_at hl 1 rfl) ?_
  refine lv_iconst (v := 3) hx hb dX8_paper_1 (by decide) ?_
  refine m_callSE (As := [.int 2, .int 3]) (rest := []) (c_isBelow_t l D ty L ad _ _ _ (by decide) (by decide)) ⟨hx, hb, hml, hown, hts⟩ (va_cwS 2 hts gX8_paper_X8_isBelow rfl rfl rfl (by decide +kernel) ⟨Nat.le_of_ble_eq_true rfl, Nat.le_of_ble_eq_true rfl⟩) hB rfl hl.1 rfl (Nat.le_of_ble_eq_true rfl) dX8_paper_2 ⟨Nat.le_of_ble_eq_true rfl, Nat.le_of_ble_eq_true rfl⟩ (fun H locs hB => ?_)
  refine b_if_eq_f 16 hx hb dX8_paper_5 (by decide) (by decide) ?_
  refine lv_iload_n hx hb dX8_paper_8 rfl (lv_at hl 2 rfl) ?_
  refine lv_iconst (v := 4) hx hb dX8_paper_9 (by decide) ?_
  refine m_callSE (As := [.int (nI fo), .int 4]) (rest := []) (c_isBelow_t l D ty L ad _ _ _ (by omega) (by omega)) ⟨hx, hb, hml, hown, hts⟩ (va_cwS 2 hts gX8_paper_X8_isBelow rfl rfl rfl (by decide +kernel) ⟨Nat.le_of_ble_eq_true rfl, Nat.le_of_ble_eq_true rfl⟩) hB rfl hl.1 rfl (Nat.le_of_ble_eq_true rfl) dX8_paper_10 ⟨Nat.le_of_ble_eq_true rfl, Nat.le_of_ble_eq_true rfl⟩ (fun H locs hB => ?_)
  refine b_if_ne_t 18 hx hb dX8_paper_13 (by decide) (by decide) ?_
  refine lv_iload_n hx hb dX8_paper_18 rfl (lv_at hl 1 rfl) ?_
  refine lv_iconst (v := 1) hx hb dX8_paper_19 (by decide) ?_
  refine b_icmp_ne_t 29 hx hb dX8_paper_20 (by decide) (by decide) ?_
  refine lv_aload_n hx hb dX8_paper_29 rfl (lv_at hl 0 rfl) ?_
  refine m_get (C := RX8) (T := TX8) (N := 12) (ci := 8) hx hb hts in_X8_paper_X8 hown hB (hL0 0 (by decide)) h_0 rfl 0 (by decide) (hts (.fieldLink RX8 14 "PaperRoom" "draft" "LPaperRoom$Row;") (by decide +kernel)) (fun _ h9 => h9) rfl dX8_paper_30 ?_
  refine m_callVE (ci := 5) (As := []) (rest := []) (c_Row_length l D ty L ad g 1 2 dn (hL0 1 (by decide)) h_1) ⟨hx, hb, hml, hown, hts⟩ (cwV 0 hts gX8_paper_X5_length rfl rfl rfl (by decide +kernel) ⟨Nat.le_of_ble_eq_true rfl, Nat.le_of_ble_eq_true rfl⟩) hB (hL0 1 (by decide)) h_1 rfl rfl hl.1 rfl (Nat.le_of_ble_eq_true rfl) dX8_paper_33 ⟨Nat.le_of_ble_eq_true rfl, Nat.le_of_ble_eq_true rfl⟩ (fun H locs hB => ?_)
  refine b_if_ne_t 42 hx hb dX8_paper_36 (by decide) (by rw [nI_toInt (by omega)]; omega) ?_
  refine lv_aload_n hx hb dX8_paper_42 rfl (lv_at hl 0 rfl) ?_
  refine m_get (C := RX8) (T := TX8) (N := 12) (ci := 8) hx hb hts in_X8_paper_X8 hown hB (hL0 0 (by decide)) h_0 rfl 3 (by decide) (hts (.fieldLink RX8 76 "PaperRoom" "paperCount" "I") (by decide +kernel)) (fun _ h9 => h9) rfl dX8_paper_43 ?_
  refine lv_aload_n hx hb dX8_paper_46 rfl (lv_at hl 0 rfl) ?_
  refine m_get (C := RX8) (T := TX8) (N := 12) (ci := 8) hx hb hts in_X8_paper_X8 hown hB (hL0 0 (by decide)) h_0 rfl 2 (by decide) (hts (.fieldLink RX8 27 "PaperRoom" "papers" "[LPaperRoom$Paper;") (by decide +kernel)) (fun _ h9 => h9) rfl dX8_paper_47 ?_
  refine m_alen hx hb hB (hL0 6 (by decide)) 4 h_6 rfl (v := nI 8) rfl dX8_paper_50 ?_
  refine b_icmp_lt_t 57 hx hb dX8_paper_51 (by decide) (by rw [nI_toInt (by omega), show (nI 8).toInt = 8 by decide]; omega) ?_
  refine lv_iload_n hx hb dX8_paper_57 rfl (lv_at hl 1 rfl) ?_
  refine lv_iload_n hx hb dX8_paper_58 rfl (lv_at hl 2 rfl) ?_
  refine lv_iload_n hx hb dX8_paper_59 rfl (lv_at hl 3 rfl) ?_
  refine m_callS (As := [.int 2, .int (nI fo), .int u]) (rest := []) (c_X_newPaper_2 l D ty L ad _ pp pt (nI fo) u n_pp n_pt ne_pp_pt) ⟨hx, hb, hml, hown, hts⟩ (va_cwS 3 hts gX8_paper_X8_newPaper rfl rfl rfl (by decide +kernel) ⟨Nat.le_of_ble_eq_true rfl, Nat.le_of_ble_eq_true rfl⟩) hB rfl hl.1 rfl (Nat.le_of_ble_eq_true rfl) dX8_paper_60 ⟨Nat.le_of_ble_eq_true rfl, Nat.le_of_ble_eq_true rfl⟩ (fun v160 L160 ad_160 g160 H locs hp160 hB => ?_)
  obtain ⟨q1_160, q2_160, had_160, hfr_160, hf160_0, hf160_1⟩ := hp160
  subst q2_160
  have e160_0 : ad 0 = ad_160 0 := had_160 0 (hL0 0 (by decide))
  have e160_1 : ad 1 = ad_160 1 := had_160 1 (hL0 1 (by decide))
  have e160_2 : ad 2 = ad_160 2 := had_160 2 (hL0 2 (by decide))
  have e160_20 : ad 20 = ad_160 20 := had_160 20 (hL0 20 (by decide))
  have e160_22 : ad 22 = ad_160 22 := had_160 22 (hL0 22 (by decide))
  have e160_28 : ad 28 = ad_160 28 := had_160 28 (hL0 28 (by decide))
  have e160_29 : ad 29 = ad_160 29 := had_160 29 (hL0 29 (by decide))
  have e160_3 : ad 3 = ad_160 3 := had_160 3 (hL0 3 (by decide))
  have e160_6 : ad 6 = ad_160 6 := had_160 6 (hL0 6 (by decide))
  have e160_7 : ad 7 = ad_160 7 := had_160 7 (hL0 7 (by decide))
  replace hl : lv_has ls 5 [(0, .ref (ad_160 0)), (1, .int 2), (2, .int (nI fo)), (3, .int u)] := by rw [← e160_0]; exact hl
  have fa160_0 : g 0 = .inr (8, [.ref (ad_160 1), .ref (ad_160 3), .ref (ad_160 6), .int (nI pn), .ref (ad_160 7), .ref (ad_160 20), .ref (ad_160 22), .ref (ad_160 28), .int (nI qn), .ref (ad_160 29), .int nw, .long tr]) := by rw [← e160_1, ← e160_20, ← e160_22, ← e160_28, ← e160_29, ← e160_3, ← e160_6, ← e160_7]; exact h_0
  have fa160_1 : g 1 = .inr (5, [.ref (ad_160 2), .int (nI dn)]) := by rw [← e160_2]; exact h_1
  refine W.eq (g2 := F0 m 63 ls [.ref (ad_160 pp)]) (by rw [q1_160]; rfl) ?_
  refine lv_astore (lv' := [(4, .ref (ad_160 pp)), (0, .ref (ad_160 0)), (1, .int 2), (2, .int (nI fo)), (3, .int u)]) hx hb dX8_paper_63 hl (by decide) rfl (fun ls hl => ?_)
  refine lv_aload hx hb dX8_paper_65 (lv_at hl 0 rfl) ?_
  refine lv_aload_n hx hb dX8_paper_67 rfl (lv_at hl 1 rfl) ?_
  refine m_callV (ci := 8) (As := []) (rest := [.ref (ad_160 pp)]) (c_X_takeDraft l D ty ((L ++ [pp]) ++ [pt]) ad_160 _ pn qn nw tr dn t ro a bl db (fun r hr => List.mem_append_left _ (List.mem_append_left _ (hL0 r hr))) ((hfr_160 0 (hL0 0 (by decide))).trans fa160_0) ((hfr_160 1 (hL0 1 (by decide))).trans fa160_1) ((hfr_160 2 (hL0 2 (by decide))).trans h_2) (fun h9 => (List.mem_append.mp h9).elim (fun h9 => (List.mem_append.mp h9).elim n_t (fun h8 => ne_pp_t (List.mem_singleton.mp h8).symm)) (fun h8 => ne_pt_t (List.mem_singleton.mp h8).symm)) (fun h9 => (List.mem_append.mp h9).elim (fun h9 => (List.mem_append.mp h9).elim n_ro (fun h8 => ne_pp_ro (List.mem_singleton.mp h8).symm)) (fun h8 => ne_pt_ro (List.mem_singleton.mp h8).symm)) (fun h9 => (List.mem_append.mp h9).elim (fun h9 => (List.mem_append.mp h9).elim n_a (fun h8 => ne_pp_a (List.mem_singleton.mp h8).symm)) (fun h8 => ne_pt_a (List.mem_singleton.mp h8).symm)) (fun h9 => (List.mem_append.mp h9).elim (fun h9 => (List.mem_append.mp h9).elim n_bl (fun h8 => ne_pp_bl (List.mem_singleton.mp h8).symm)) (fun h8 => ne_pt_bl (List.mem_singleton.mp h8).symm)) hdn h8 ne_t_ro ne_t_a ne_t_bl ne_ro_a ne_ro_bl ne_a_bl hb_t hb_ro hb_a hb_bl) ⟨hx, hb, hml, hown, hts⟩ (cwV 0 hts gX8_paper_X8_takeDraft rfl rfl rfl (by decide +kernel) ⟨Nat.le_of_ble_eq_true rfl, Nat.le_of_ble_eq_true rfl⟩) hB (List.mem_append_left _ (List.mem_append_left _ (hL0 0 (by decide)))) ((hfr_160 0 (hL0 0 (by decide))).trans fa160_0) rfl rfl hl.1 rfl (Nat.le_of_ble_eq_true rfl) dX8_paper_68 ⟨Nat.le_of_ble_eq_true rfl, Nat.le_of_ble_eq_true rfl⟩ (fun v168 L168 ad_168 g168 H locs hp168 hB => ?_)
  obtain ⟨q1_168, q2_168, had_168, hfr_168, hf168_0, hf168_1, hf168_2, hf168_3, hf168_4⟩ := hp168
  subst q2_168
  have e168_0 : ad_160 0 = ad_168 0 := had_168 0 (List.mem_append_left _ (List.mem_append_left _ (hL0 0 (by decide))))
  have e168_1 : ad_160 1 = ad_168 1 := had_168 1 (List.mem_append_left _ (List.mem_append_left _ (hL0 1 (by decide))))
  have e168_2 : ad_160 2 = ad_168 2 := had_168 2 (List.mem_append_left _ (List.mem_append_left _ (hL0 2 (by decide))))
  have e168_20 : ad_160 20 = ad_168 20 := had_168 20 (List.mem_append_left _ (List.mem_append_left _ (hL0 20 (by decide))))
  have e168_22 : ad_160 22 = ad_168 22 := had_168 22 (List.mem_append_left _ (List.mem_append_left _ (hL0 22 (by decide))))
  have e168_28 : ad_160 28 = ad_168 28 := had_168 28 (List.mem_append_left _ (List.mem_append_left _ (hL0 28 (by decide))))
  have e168_29 : ad_160 29 = ad_168 29 := had_168 29 (List.mem_append_left _ (List.mem_append_left _ (hL0 29 (by decide))))
  have e168_3 : ad_160 3 = ad_168 3 := had_168 3 (List.mem_append_left _ (List.mem_append_left _ (hL0 3 (by decide))))
  have e168_6 : ad_160 6 = ad_168 6 := had_168 6 (List.mem_append_left _ (List.mem_append_left _ (hL0 6 (by decide))))
  have e168_7 : ad_160 7 = ad_168 7 := had_168 7 (List.mem_append_left _ (List.mem_append_left _ (hL0 7 (by decide))))
  have e168_pp : ad_160 pp = ad_168 pp := had_168 pp (List.mem_append_left _ (List.mem_append_right _ List.mem_cons_self))
  have e168_pt : ad_160 pt = ad_168 pt := had_168 pt (List.mem_append_right _ List.mem_cons_self)
  replace hl : lv_has ls 5 [(4, .ref (ad_168 pp)), (0, .ref (ad_168 0)), (1, .int 2), (2, .int (nI fo)), (3, .int u)] := by rw [← e168_0, ← e168_pp]; exact hl
  have fa168_0 : g160 0 = .inr (8, [.ref (ad_168 1), .ref (ad_168 3), .ref (ad_168 6), .int (nI pn), .ref (ad_168 7), .ref (ad_168 20), .ref (ad_168 22), .ref (ad_168 28), .int (nI qn), .ref (ad_168 29), .int nw, .long tr]) := by rw [← e168_1, ← e168_20, ← e168_22, ← e168_28, ← e168_29, ← e168_3, ← e168_6, ← e168_7]; exact ((hfr_160 0 (hL0 0 (by decide))).trans fa160_0)
  have fa168_1 : g160 1 = .inr (5, [.ref (ad_168 2), .int (nI dn)]) := by rw [← e168_2]; exact ((hfr_160 1 (hL0 1 (by decide))).trans fa160_1)
  have fa168_pp : g160 pp = .inr (1, [.int (nI fo), .ref (ad_168 pt), .int 0, .int 0]) := by rw [← e168_pt]; exact hf160_0
  refine W.eq (g2 := F0 m 71 ls [.ref (ad_168 t), .ref (ad_168 pp)]) (by rw [q1_168]; (try rw [e168_pp]); rfl) ?_
  refine m_callUE (ci := 1) (As := [.ref (ad_168 t)]) (rest := []) (c_Marked_addText l D ty ((((((L ++ [pp]) ++ [pt]) ++ [t]) ++ [ro]) ++ [a]) ++ [bl]) ad_168 _ pp pt 0 (nI fo) 0 (fun _ => none) t ro bl (List.mem_append_left _ (List.mem_append_left _ (List.mem_append_left _ (List.mem_append_left _ (List.mem_append_left _ (List.mem_append_right _ List.mem_cons_self)))))) (List.mem_append_left _ (List.mem_append_left _ (List.mem_append_left _ (List.mem_append_left _ (List.mem_append_right _ List.mem_cons_self))))) (List.mem_append_left _ (List.mem_append_left _ (List.mem_append_left _ (List.mem_append_right _ List.mem_cons_self)))) ((hfr_168 pp (List.mem_append_left _ (List.mem_append_right _ List.mem_cons_self)) (by omega)).trans fa168_pp) ((hfr_168 pt (List.mem_append_right _ List.mem_cons_self) (by omega)).trans hf160_1) hf168_1 (by omega) ne_pp_pt (Ne.symm ne_pt_t) (Ne.symm ne_pp_t)) ⟨hx, hb, hml, hown, hts⟩ (va_cwU 1 hts gX8_paper_X2_addText_u88X1 rfl rfl rfl rfl (by decide +kernel) ⟨Nat.le_of_ble_eq_true rfl, Nat.le_of_ble_eq_true rfl⟩) hB (List.mem_append_left _ (List.mem_append_left _ (List.mem_append_left _ (List.mem_append_left _ (List.mem_append_left _ (List.mem_append_right _ List.mem_cons_self)))))) ((hfr_168 pp (List.mem_append_left _ (List.mem_append_right _ List.mem_cons_self)) (by omega)).trans fa168_pp) rfl rfl hl.1 rfl (Nat.le_of_ble_eq_true rfl) dX8_paper_71 ⟨Nat.le_of_ble_eq_true rfl, Nat.le_of_ble_eq_true rfl⟩ (fun H locs hB => ?_)
  replace hB : m_B D ty A s ((((((L ++ [pp]) ++ [pt]) ++ [t]) ++ [ro]) ++ [a]) ++ [bl]) ad_168 (va_up (va_up g168 pt (.inl (ty 7, 4, .inr (.inr (.inr (.inr (va_up (fun _ => none) 0 (some (ad_168 t))))))))) pp (.inr (1, [.int (nI fo), .ref (ad_168 pt), .int (nI 1), .int 0]))) H locs := hB
  refine lv_pop hx hb dX8_paper_74 rfl ?_
  refine lv_aload_n hx hb dX8_paper_75 rfl (lv_at hl 1 rfl) ?_
  refine m_get (C := RX8) (T := TX8) (N := 12) (ci := 8) hx hb hts in_X8_paper_X8 hown hB (List.mem_append_left _ (List.mem_append_left _ (List.mem_append_left _ (List.mem_append_left _ (List.mem_append_left _ (List.mem_append_left _ (hL0 0 (by decide)))))))) ((va_up_ne _ _ (by omega)).trans ((va_up_ne _ _ (by omega)).trans ((hfr_168 0 (List.mem_append_left _ (List.mem_append_left _ (hL0 0 (by decide)))) (by decide)).trans fa168_0))) rfl 2 (by decide) (hts (.fieldLink RX8 27 "PaperRoom" "papers" "[LPaperRoom$Paper;") (by decide +kernel)) (fun _ h9 => h9) rfl dX8_paper_76 ?_
  refine lv_aload_n hx hb dX8_paper_79 rfl (lv_at hl 1 rfl) ?_
  refine m_get (C := RX8) (T := TX8) (N := 12) (ci := 8) hx hb hts in_X8_paper_X8 hown hB (List.mem_append_left _ (List.mem_append_left _ (List.mem_append_left _ (List.mem_append_left _ (List.mem_append_left _ (List.mem_append_left _ (hL0 0 (by decide)))))))) ((va_up_ne _ _ (by omega)).trans ((va_up_ne _ _ (by omega)).trans ((hfr_168 0 (List.mem_append_left _ (List.mem_append_left _ (hL0 0 (by decide)))) (by decide)).trans fa168_0))) rfl 3 (by decide) (hts (.fieldLink RX8 76 "PaperRoom" "paperCount" "I") (by decide +kernel)) (fun _ h9 => h9) rfl dX8_paper_80 ?_
  refine lv_aload hx hb dX8_paper_83 (lv_at hl 0 rfl) ?_
  refine n_aast hx hb hB (List.mem_append_left _ (List.mem_append_left _ (List.mem_append_left _ (List.mem_append_left _ (List.mem_append_left _ (List.mem_append_left _ (hL0 6 (by decide)))))))) 4 ((va_up_ne _ _ (by omega)).trans ((va_up_ne _ _ (by omega)).trans ((hfr_168 6 (List.mem_append_left _ (List.mem_append_left _ (hL0 6 (by decide)))) (by decide)).trans ((hfr_160 6 (hL0 6 (by decide))).trans h_6)))) rfl (List.mem_append_left _ (List.mem_append_left _ (List.mem_append_left _ (List.mem_append_left _ (List.mem_append_left _ (List.mem_append_right _ List.mem_cons_self)))))) (va_up_self _ _ _) rfl (fun _ _ h1 h2 => m_asg_cast hB.2.1.2.1.2 h1 h2) pn rfl (by omega) (by omega) dX8_paper_85 (fun H locs hB => ?_)
  replace hB : m_B D ty A s ((((((L ++ [pp]) ++ [pt]) ++ [t]) ++ [ro]) ++ [a]) ++ [bl]) ad_168 (va_up (va_up (va_up g168 pt (.inl (ty 7, 4, .inr (.inr (.inr (.inr (va_up (fun _ => none) 0 (some (ad_168 t))))))))) pp (.inr (1, [.int (nI fo), .ref (ad_168 pt), .int (nI 1), .int 0]))) 6 (.inl (ty 4, 8, .inr (.inr (.inr (.inr (va_up pf pn (some (ad_168 pp))))))))) H locs := hB
  refine lv_aload_n hx hb dX8_paper_86 rfl (lv_at hl 1 rfl) ?_
  refine lv_dup hx hb dX8_paper_87 rfl ?_
  refine m_get (C := RX8) (T := TX8) (N := 12) (ci := 8) hx hb hts in_X8_paper_X8 hown hB (List.mem_append_left _ (List.mem_append_left _ (List.mem_append_left _ (List.mem_append_left _ (List.mem_append_left _ (List.mem_append_left _ (hL0 0 (by decide)))))))) ((va_up_ne _ _ (by decide)).trans ((va_up_ne _ _ (by omega)).trans ((va_up_ne _ _ (by omega)).trans ((hfr_168 0 (List.mem_append_left _ (List.mem_append_left _ (hL0 0 (by decide)))) (by decide)).trans fa168_0)))) rfl 3 (by decide) (hts (.fieldLink RX8 76 "PaperRoom" "paperCount" "I") (by decide +kernel)) (fun _ h9 => h9) rfl dX8_paper_88 ?_
  refine lv_iconst (v := 1) hx hb dX8_paper_91 (by decide) ?_
  refine lv_iadd hx hb dX8_paper_92 ?_
  refine b_topi (w := nI (pn + 1)) (nI_add pn 1) ?_
  refine m_put (C := RX8) (T := TX8) (N := 12) (ci := 8) (v := .int (nI (pn + 1))) (ft := .int) hx hb hts in_X8_paper_X8 tyX8 tyX8_ok nmX8 hown hB (List.mem_append_left _ (List.mem_append_left _ (List.mem_append_left _ (List.mem_append_left _ (List.mem_append_left _ (List.mem_append_left _ (hL0 0 (by decide)))))))) ((va_up_ne _ _ (by decide)).trans ((va_up_ne _ _ (by omega)).trans ((va_up_ne _ _ (by omega)).trans ((hfr_168 0 (List.mem_append_left _ (List.mem_append_left _ (hL0 0 (by decide)))) (by decide)).trans fa168_0)))) rfl 3 (by decide) (hts (.fieldLink RX8 76 "PaperRoom" "paperCount" "I") (by decide +kernel)) (fun _ h9 => h9) rfl (by decide +kernel) rfl rfl (Nat.le_of_ble_eq_true rfl) dX8_paper_93 (fun H locs hB => ?_)
  replace hB : m_B D ty A s ((((((L ++ [pp]) ++ [pt]) ++ [t]) ++ [ro]) ++ [a]) ++ [bl]) ad_168 (va_up (va_up (va_up (va_up g168 pt (.inl (ty 7, 4, .inr (.inr (.inr (.inr (va_up (fun _ => none) 0 (some (ad_168 t))))))))) pp (.inr (1, [.int (nI fo), .ref (ad_168 pt), .int (nI 1), .int 0]))) 6 (.inl (ty 4, 8, .inr (.inr (.inr (.inr (va_up pf pn (some (ad_168 pp))))))))) 0 (.inr (8, [.ref (ad_168 1), .ref (ad_168 3), .ref (ad_168 6), .int (nI (pn + 1)), .ref (ad_168 7), .ref (ad_168 20), .ref (ad_168 22), .ref (ad_168 28), .int (nI qn), .ref (ad_168 29), .int nw, .long tr]))) H locs := hB
  refine lv_aload_n hx hb dX8_paper_96 rfl (lv_at hl 1 rfl) ?_
  refine m_get (C := RX8) (T := TX8) (N := 12) (ci := 8) hx hb hts in_X8_paper_X8 hown hB (List.mem_append_left _ (List.mem_append_left _ (List.mem_append_left _ (List.mem_append_left _ (List.mem_append_left _ (List.mem_append_left _ (hL0 0 (by decide)))))))) (va_up_self _ _ _) rfl 3 (by decide) (hts (.fieldLink RX8 76 "PaperRoom" "paperCount" "I") (by decide +kernel)) (fun _ h9 => h9) rfl dX8_paper_97 ?_
  refine lv_iconst (v := 1) hx hb dX8_paper_100 (by decide) ?_
  refine lv_isub hx hb dX8_paper_101 ?_
  refine b_topi (w := nI pn) ((pk_sub (a := pn + 1) (b := 1) (by omega)).trans (by rw [Nat.add_sub_cancel])) ?_
  exact m_iret hx hb hrt hlocks hB (Nat.le_refl _) (Nat.le_refl _) dX8_paper_102 ⟨rfl, rfl, (fun x hx => ((had_160 x hx).trans (had_168 x (List.mem_append_left _ (List.mem_append_left _ hx))))), (fun x hx hn_1 hn_6 hn_0 => ((va_up_ne _ _ hn_0).trans ((va_up_ne _ _ hn_6).trans ((va_up_ne _ _ (fun e9 => n_pp (by rw [← e9]; exact hx))).trans ((va_up_ne _ _ (fun e9 => n_pt (by rw [← e9]; exact hx))).trans ((hfr_168 x (List.mem_append_left _ (List.mem_append_left _ hx)) hn_1).trans ((hfr_160 x hx).trans rfl))))))), ((va_up_ne _ _ (by decide)).trans ((va_up_ne _ _ (by decide)).trans ((va_up_ne _ _ (by omega)).trans ((va_up_ne _ _ (by omega)).trans hf168_0)))), ((va_up_ne _ _ (by omega)).trans ((va_up_ne _ _ (by omega)).trans ((va_up_ne _ _ (Ne.symm ne_pp_t)).trans ((va_up_ne _ _ (Ne.symm ne_pt_t)).trans hf168_1)))), ((va_up_ne _ _ (by omega)).trans ((va_up_ne _ _ (by omega)).trans ((va_up_ne _ _ (Ne.symm ne_pp_ro)).trans ((va_up_ne _ _ (Ne.symm ne_pt_ro)).trans hf168_2)))), ((va_up_ne _ _ (by omega)).trans ((va_up_ne _ _ (by omega)).trans ((va_up_ne _ _ (Ne.symm ne_pp_a)).trans ((va_up_ne _ _ (Ne.symm ne_pt_a)).trans hf168_3)))), ((va_up_ne _ _ (by omega)).trans ((va_up_ne _ _ (by omega)).trans ((va_up_ne _ _ (Ne.symm ne_pp_bl)).trans ((va_up_ne _ _ (Ne.symm ne_pt_bl)).trans hf168_4)))), ((va_up_ne _ _ (by omega)).trans ((va_up_ne _ _ (by omega)).trans ((va_up_ne _ _ (Ne.symm ne_pp_pt)).trans (va_up_self _ _ _)))), ((va_up_ne _ _ (by omega)).trans ((va_up_ne _ _ (by omega)).trans (va_up_self _ _ _))), ((va_up_ne _ _ (by decide)).trans (va_up_self _ _ _)), (va_up_self _ _ _)⟩
