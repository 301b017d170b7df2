set_option maxHeartbeats 1000000 in
set_option maxRecDepth 100000 in
theorem c_X_hear_b1 (l : Launch) (D : va_G) (ty : Nat → ClassId) (L : List Nat) (ad : Nat → Nat) (g : Nat → va_E) (pn qn : Nat) (nw : Int32) (tr : Int64) (qf : Nat → Option Nat) (i w : Int32) (m_0 : 0 ∈ L) (m_28 : 28 ∈ L) (h_0 : g 0 = .inr (8, [.ref (ad 1), .ref (ad 3), .ref (ad 6), .int (nI pn), .ref (ad 7), .ref (ad 20), .ref (ad 22), .ref (ad 28), .int (nI qn), .ref (ad 29), .int nw, .long tr])) (h_28 : g 28 = .inl (ty 5, 30, .inr (.inr (.inr (.inr qf))))) (hb : ¬ (0 ≤ w.toInt ∧ w.toInt < 6)) (hi : ¬ (0 ≤ i.toInt ∧ i.toInt < 30)) : m_E l yX8_hear wsX8_hear 5 113 D ty [.ref (ad 0), .int w, .int i] L ad g (some (.int (-1))) g := by
  intro sz
  refine Met.ofW (cc := cX8_hear) (maxL := 4) (ret := (some .int)) (by decide) rfl ?_
  intro p e s m args below meth c s₁ B hml hv
  have hx := B.exec
  have hb := B.bytes
  have hrt := B.returns
  have hts := atoms_spec (ws := wsX8_hear) B.pre
  have hown : s.vm.findClass RX8 = some m.cls := findClass_of_methodNamed B.named
  have hlocks := B.notSynchronized
  obtain ⟨rfl, hB⟩ := m_start hv
  generalize va_A (m_w L ad g) sz = A at hB ⊢
  generalize s.heap = H at hB ⊢
  generalize ([] : List Loc) = locs at hB ⊢
  have hl := lv_entry ([.ref (ad 0), .int w, .int i]) (n := 4) (Nat.le_of_ble_eq_true rfl)
  rw [lg_entry_eq]
  generalize (lg_sl ([.ref (ad 0), .int w, .int i]) ++ List.replicate (4 - (lg_sl ([.ref (ad 0), .int w, .int i])).length) Slot.unset).toArray = ls at hl ⊢
  have hl : lv_has ls 4 [(0, .ref (ad 0)), (1, .int w), (2, .int i)] := hl
  have l6 : (6 : Int32).toInt = 6 := by decide
  refine lv_aload_n hx hb dX8_hear_0 rfl (lv_at hl 0 rfl) ?_
  refine lv_iload_n hx hb dX8_hear_1 rfl (lv_at hl 2 rfl) ?_
  refine m_callVE (ci := 8) (As := [.int i]) (rest := []) (c_X_questionNumber_f l D ty L ad g pn qn nw tr qf i m_0 m_28 h_0 h_28 hi) ⟨hx, hb, hml, hown, hts⟩ (cwV 1 hts gX8_hear_X8_questionNumber rfl rfl rfl (by decide +kernel) ⟨Nat.le_of_ble_eq_true rfl, Nat.le_of_ble_eq_true rfl⟩) hB m_0 h_0 rfl rfl hl.1 rfl (Nat.le_of_ble_eq_true rfl) dX8_hear_2 ⟨Nat.le_of_ble_eq_true rfl, Nat.le_of_ble_eq_true rfl⟩ (fun H locs hB => ?_)
  refine lv_astore_nN (lv' := [(3, .null), (0, .ref (ad 0)), (1, .int w), (2, .int i)]) hx hb dX8_hear_5 rfl hl (by decide) rfl (fun ls hl => ?_)
  refine lv_iload_n hx hb dX8_hear_6 rfl (lv_at hl 2 rfl) ?_
  refine lv_bipush (v := 6) hx hb dX8_hear_7 (by decide) ?_
  refine m_callSE (As := [.int w, .int 6]) (rest := []) (c_isBelow_f l D ty L ad _ _ _ (by omega)) ⟨hx, hb, hml, hown, hts⟩ (va_cwS 2 hts gX8_hear_X8_isBelow rfl rfl rfl (by decide +kernel) ⟨Nat.le_of_ble_eq_true rfl, Nat.le_of_ble_eq_true rfl⟩) hB rfl hl.1 rfl (Nat.le_of_ble_eq_true rfl) dX8_hear_9 ⟨Nat.le_of_ble_eq_true rfl, Nat.le_of_ble_eq_true rfl⟩ (fun H locs hB => ?_)
  refine b_if_eq_t 19 hx hb dX8_hear_12 (by decide) (by decide) ?_
  refine lv_iconst (v := (-1)) hx hb dX8_hear_19 (by decide) ?_
  exact m_iret hx hb hrt hlocks hB (Nat.le_refl _) (Nat.le_refl _) dX8_hear_20 ⟨rfl, rfl, rfl, rfl⟩
set_option maxHeartbeats 1000000 in
set_option maxRecDepth 100000 in
theorem c_X_hear_b2 (l : Launch) (D : va_G) (ty : Nat → ClassId) (L : List Nat) (ad : Nat → Nat) (g : Nat → va_E) (pn qn : Nat) (nw : Int32) (tr : Int64) (qf : Nat → Option Nat) (k : Nat) (w : Int32) (m_0 : 0 ∈ L) (m_28 : 28 ∈ L) (h_0 : g 0 = .inr (8, [.ref (ad 1), .ref (ad 3), .ref (ad 6), .int (nI pn), .ref (ad 7), .ref (ad 20), .ref (ad 22), .ref (ad 28), .int (nI qn), .ref (ad 29), .int nw, .long tr])) (h_28 : g 28 = .inl (ty 5, 30, .inr (.inr (.inr (.inr qf))))) (hb : ¬ (0 ≤ w.toInt ∧ w.toInt < 6)) (hk : k < 30) : m_E l yX8_hear wsX8_hear 5 113 D ty [.ref (ad 0), .int w, .int (nI k)] L ad g (some (.int (-1))) g := by
  intro sz
  refine Met.ofW (cc := cX8_hear) (maxL := 4) (ret := (some .int)) (by decide) rfl ?_
  intro p e s m args below meth c s₁ B hml hv
  have hx := B.exec
  have hb := B.bytes
  have hrt := B.returns
  have hts := atoms_spec (ws := wsX8_hear) B.pre
  have hown : s.vm.findClass RX8 = some m.cls := findClass_of_methodNamed B.named
  have hlocks := B.notSynchronized
  obtain ⟨rfl, hB⟩ := m_start hv
  generalize va_A (m_w L ad g) sz = A at hB ⊢
  generalize s.heap = H at hB ⊢
  generalize ([] : List Loc) = locs at hB ⊢
  have hl := lv_entry ([.ref (ad 0), .int w, .int (nI k)]) (n := 4) (Nat.le_of_ble_eq_true rfl)
  rw [lg_entry_eq]
  generalize (lg_sl ([.ref (ad 0), .int w, .int (nI k)]) ++ List.replicate (4 - (lg_sl ([.ref (ad 0), .int w, .int (nI k)])).length) Slot.unset).toArray = ls at hl ⊢
  have hl : lv_has ls 4 [(0, .ref (ad 0)), (1, .int w), (2, .int (nI k))] := hl
  have l6 : (6 : Int32).toInt = 6 := by decide
  rcases hq : qf k with _ | r9
  · skip
    refine lv_aload_n hx hb dX8_hear_0 rfl (lv_at hl 0 rfl) ?_
    refine lv_iload_n hx hb dX8_hear_1 rfl (lv_at hl 2 rfl) ?_
    refine m_callVE (ci := 8) (As := [.int (nI k)]) (rest := []) ((by have h9 := c_X_questionNumber_t l D ty L ad g pn qn nw tr qf k m_0 m_28 h_0 h_28 hk; rw [hq] at h9; exact h9 : m_E l yX8_questionNumber wsX8_questionNumber 1 21 D ty [.ref (ad 0), .int (nI k)] L ad g (some .null) g)) ⟨hx, hb, hml, hown, hts⟩ (cwV 1 hts gX8_hear_X8_questionNumber rfl rfl rfl (by decide +kernel) ⟨Nat.le_of_ble_eq_true rfl, Nat.le_of_ble_eq_true rfl⟩) hB m_0 h_0 rfl rfl hl.1 rfl (Nat.le_of_ble_eq_true rfl) dX8_hear_2 ⟨Nat.le_of_ble_eq_true rfl, Nat.le_of_ble_eq_true rfl⟩ (fun H locs hB => ?_)
    refine lv_astore_nN (lv' := [(3, .null), (0, .ref (ad 0)), (1, .int w), (2, .int (nI k))]) hx hb dX8_hear_5 rfl hl (by decide) rfl (fun ls hl => ?_)
    refine lv_iload_n hx hb dX8_hear_6 rfl (lv_at hl 2 rfl) ?_
    refine lv_bipush (v := 6) hx hb dX8_hear_7 (by decide) ?_
    refine m_callSE (As := [.int w, .int 6]) (rest := []) (c_isBelow_f l D ty L ad _ _ _ (by omega)) ⟨hx, hb, hml, hown, hts⟩ (va_cwS 2 hts gX8_hear_X8_isBelow rfl rfl rfl (by decide +kernel) ⟨Nat.le_of_ble_eq_true rfl, Nat.le_of_ble_eq_true rfl⟩) hB rfl hl.1 rfl (Nat.le_of_ble_eq_true rfl) dX8_hear_9 ⟨Nat.le_of_ble_eq_true rfl, Nat.le_of_ble_eq_true rfl⟩ (fun H locs hB => ?_)
    refine b_if_eq_t 19 hx hb dX8_hear_12 (by decide) (by decide) ?_
    refine lv_iconst (v := (-1)) hx hb dX8_hear_19 (by decide) ?_
    exact m_iret hx hb hrt hlocks hB (Nat.le_refl _) (Nat.le_refl _) dX8_hear_20 ⟨rfl, rfl, rfl, rfl⟩
  · skip
    refine lv_aload_n hx hb dX8_hear_0 rfl (lv_at hl 0 rfl) ?_
    refine lv_iload_n hx hb dX8_hear_1 rfl (lv_at hl 2 rfl) ?_
    refine m_callVE (ci := 8) (As := [.int (nI k)]) (rest := []) ((by have h9 := c_X_questionNumber_t l D ty L ad g pn qn nw tr qf k m_0 m_28 h_0 h_28 hk; rw [hq] at h9; exact h9 : m_E l yX8_questionNumber wsX8_questionNumber 1 21 D ty [.ref (ad 0), .int (nI k)] L ad g (some (.ref r9)) g)) ⟨hx, hb, hml, hown, hts⟩ (cwV 1 hts gX8_hear_X8_questionNumber rfl rfl rfl (by decide +kernel) ⟨Nat.le_of_ble_eq_true rfl, Nat.le_of_ble_eq_true rfl⟩) hB m_0 h_0 rfl rfl hl.1 rfl (Nat.le_of_ble_eq_true rfl) dX8_hear_2 ⟨Nat.le_of_ble_eq_true rfl, Nat.le_of_ble_eq_true rfl⟩ (fun H locs hB => ?_)
    refine lv_astore_n (lv' := [(3, .ref r9), (0, .ref (ad 0)), (1, .int w), (2, .int (nI k))]) hx hb dX8_hear_5 rfl hl (by decide) rfl (fun ls hl => ?_)
    refine lv_iload_n hx hb dX8_hear_6 rfl (lv_at hl 2 rfl) ?_
    refine lv_bipush (v := 6) hx hb dX8_hear_7 (by decide) ?_
    refine m_callSE (As := [.int w, .int 6]) (rest := []) (c_isBelow_f l D ty L ad _ _ _ (by omega)) ⟨hx, hb, hml, hown, hts⟩ (va_cwS 2 hts gX8_hear_X8_isBelow rfl rfl rfl (by decide +kernel) ⟨Nat.le_of_ble_eq_true rfl, Nat.le_of_ble_eq_true rfl⟩) hB rfl hl.1 rfl (Nat.le_of_ble_eq_true rfl) dX8_hear_9 ⟨Nat.le_of_ble_eq_true rfl, Nat.le_of_ble_eq_true rfl⟩ (fun H locs hB => ?_)
    refine b_if_eq_t 19 hx hb dX8_hear_12 (by decide) (by decide) ?_
    refine lv_iconst (v := (-1)) hx hb dX8_hear_19 (by decide) ?_
    exact m_iret hx hb hrt hlocks hB (Nat.le_refl _) (Nat.le_refl _) dX8_hear_20 ⟨rfl, rfl, rfl, rfl⟩
set_option maxHeartbeats 1000000 in
set_option maxRecDepth 100000 in
theorem c_X_hear_none (l : Launch) (D : va_G) (ty : Nat → ClassId) (L : List Nat) (ad : Nat → Nat) (g : Nat → va_E) (pn qn : Nat) (nw : Int32) (tr : Int64) (qf : Nat → Option Nat) (k b : Nat) (m_0 : 0 ∈ L) (m_28 : 28 ∈ L) (h_0 : g 0 = .inr (8, [.ref (ad 1), .ref (ad 3), .ref (ad 6), .int (nI pn), .ref (ad 7), .ref (ad 20), .ref (ad 22), .ref (ad 28), .int (nI qn), .ref (ad 29), .int nw, .long tr])) (h_28 : g 28 = .inl (ty 5, 30, .inr (.inr (.inr (.inr qf))))) (hk : k < 30) (hqq : qf k = none) (hb6 : b < 6) : m_E l yX8_hear wsX8_hear 5 113 D ty [.ref (ad 0), .int (nI b), .int (nI k)] L ad g (some (.int (-1))) g := by
  intro sz
  refine Met.ofW (cc := cX8_hear) (maxL := 4) (ret := (some .int)) (by decide) rfl ?_
  intro p e s m args below meth c s₁ B hml hv
  have hx := B.exec
  have hb := B.bytes
  have hrt := B.returns
  have hts := atoms_spec (ws := wsX8_hear) B.pre
  have hown : s.vm.findClass RX8 = some m.cls := findClass_of_methodNamed B.named
  have hlocks := B.notSynchronized
  obtain ⟨rfl, hB⟩ := m_start hv
  generalize va_A (m_w L ad g) sz = A at hB ⊢
  generalize s.heap = H at hB ⊢
  generalize ([] : List Loc) = locs at hB ⊢
  have hl := lv_entry ([.ref (ad 0), .int (nI b), .int (nI k)]) (n := 4) (Nat.le_of_ble_eq_true rfl)
  rw [lg_entry_eq]
  generalize (lg_sl ([.ref (ad 0), .int (nI b), .int (nI k)]) ++ List.replicate (4 - (lg_sl ([.ref (ad 0), .int (nI b), .int (nI k)])).length) Slot.unset).toArray = ls at hl ⊢
  have hl : lv_has ls 4 [(0, .ref (ad 0)), (1, .int (nI b)), (2, .int (nI k))] := hl
  have tI_b : (nI b).toInt = (b : Int) := nI_toInt (by omega)
  have l6 : (6 : Int32).toInt = 6 := by decide
  refine lv_aload_n hx hb dX8_hear_0 rfl (lv_at hl 0 rfl) ?_
  refine lv_iload_n hx hb dX8_hear_1 rfl (lv_at hl 2 rfl) ?_
  refine m_callVE (ci := 8) (As := [.int (nI k)]) (rest := []) ((by have h9 := c_X_questionNumber_t l D ty L ad g pn qn nw tr qf k m_0 m_28 h_0 h_28 hk; rw [hqq] at h9; exact h9 : m_E l yX8_questionNumber wsX8_questionNumber 1 21 D ty [.ref (ad 0), .int (nI k)] L ad g (some .null) g)) ⟨hx, hb, hml, hown, hts⟩ (cwV 1 hts gX8_hear_X8_questionNumber rfl rfl rfl (by decide +kernel) ⟨Nat.le_of_ble_eq_true rfl, Nat.le_of_ble_eq_true rfl⟩) hB m_0 h_0 rfl rfl hl.1 rfl (Nat.le_of_ble_eq_true rfl) dX8_hear_2 ⟨Nat.le_of_ble_eq_true rfl, Nat.le_of_ble_eq_true rfl⟩ (fun H locs hB => ?_)
  refine lv_astore_nN (lv' := [(3, .null), (0, .ref (ad 0)), (1, .int (nI b)), (2, .int (nI k))]) hx hb dX8_hear_5 rfl hl (by decide) rfl (fun ls hl => ?_)
  refine lv_iload_n hx hb dX8_hear_6 rfl (lv_at hl 2 rfl) ?_
  refine lv_bipush (v := 6) hx hb dX8_hear_7 (by decide) ?_
  refine m_callSE (As := [.int (nI b), .int 6]) (rest := []) (c_isBelow_t l D ty L ad _ _ _ (by omega) (by omega)) ⟨hx, hb, hml, hown, hts⟩ (va_cwS 2 hts gX8_hear_X8_isBelow rfl rfl rfl (by decide +kernel) ⟨Nat.le_of_ble_eq_true rfl, Nat.le_of_ble_eq_true rfl⟩) hB rfl hl.1 rfl (Nat.le_of_ble_eq_true rfl) dX8_hear_9 ⟨Nat.le_of_ble_eq_true rfl, Nat.le_of_ble_eq_true rfl⟩ (fun H locs hB => ?_)
  refine b_if_eq_f 19 hx hb dX8_hear_12 (by decide) (by decide) ?_
  refine lv_aload_nN hx hb dX8_hear_15 rfl (lv_at hl 0 rfl) ?_
  refine lv_ifnonnullN hx hb dX8_hear_16 ?_
  refine lv_iconst (v := (-1)) hx hb dX8_hear_19 (by decide) ?_
  exact m_iret hx hb hrt hlocks hB (Nat.le_refl _) (Nat.le_refl _) dX8_hear_20 ⟨rfl, rfl, rfl, rfl⟩
set_option maxHeartbeats 1000000 in
set_option maxRecDepth 100000 in
theorem c_X_hear_bad (l : Launch) (D : va_G) (ty : Nat → ClassId) (L : List Nat) (ad : Nat → Nat) (g : Nat → va_E) (pn qn : Nat) (nw : Int32) (tr : Int64) (qf : Nat → Option Nat) (i : Int32) (b : Nat) (m_0 : 0 ∈ L) (m_28 : 28 ∈ L) (h_0 : g 0 = .inr (8, [.ref (ad 1), .ref (ad 3), .ref (ad 6), .int (nI pn), .ref (ad 7), .ref (ad 20), .ref (ad 22), .ref (ad 28), .int (nI qn), .ref (ad 29), .int nw, .long tr])) (h_28 : g 28 = .inl (ty 5, 30, .inr (.inr (.inr (.inr qf))))) (hi : ¬ (0 ≤ i.toInt ∧ i.toInt < 30)) (hb6 : b < 6) : m_E l yX8_hear wsX8_hear 5 113 D ty [.ref (ad 0), .int (nI b), .int i] L ad g (some (.int (-1))) g := by
  intro sz
  refine Met.ofW (cc := cX8_hear) (maxL := 4) (ret := (some .int)) (by decide) rfl ?_
  intro p e s m args below meth c s₁ B hml hv
  have hx := B.exec
  have hb := B.bytes
  have hrt := B.returns
  have hts := atoms_spec (ws := wsX8_hear) B.pre
  have hown : s.vm.findClass RX8 = some m.cls := findClass_of_methodNamed B.named
  have hlocks := B.notSynchronized
  obtain ⟨rfl, hB⟩ := m_start hv
  generalize va_A (m_w L ad g) sz = A at hB ⊢
  generalize s.heap = H at hB ⊢
  generalize ([] : List Loc) = locs at hB ⊢
  have hl := lv_entry ([.ref (ad 0), .int (nI b), .int i]) (n := 4) (Nat.le_of_ble_eq_true rfl)
  rw [lg_entry_eq]
  generalize (lg_sl ([.ref (ad 0), .int (nI b), .int i]) ++ List.replicate (4 - (lg_sl ([.ref (ad 0), .int (nI b), .int i])).length) Slot.unset).toArray = ls at hl ⊢
  have hl : lv_has ls 4 [(0, .ref (ad 0)), (1, .int (nI b)), (2, .int i)] := hl
  have tI_b : (nI b).toInt = (b : Int) := nI_toInt (by omega)
  have l6 : (6 : Int32).toInt = 6 := by decide
  refine lv_aload_n hx hb dX8_hear_0 rfl (lv_at hl 0 rfl) ?_
  refine lv_iload_n hx hb dX8_hear_1 rfl (lv_at hl 2 rfl) ?_
  refine m_callVE (ci := 8) (As := [.int i]) (rest := []) (c_X_questionNumber_f l D ty L ad g pn qn nw tr qf i m_0 m_28 h_0 h_28 hi) ⟨hx, hb, hml, hown, hts⟩ (cwV 1 hts gX8_hear_X8_questionNumber rfl rfl rfl (by decide +kernel) ⟨Nat.le_of_ble_eq_true rfl, Nat.le_of_ble_eq_true rfl⟩) hB m_0 h_0 rfl rfl hl.1 rfl (Nat.le_of_ble_eq_true rfl) dX8_hear_2 ⟨Nat.le_of_ble_eq_true rfl, Nat.le_of_ble_eq_true rfl⟩ (fun H locs hB => ?_)
  refine lv_astore_nN (lv' := [(3, .null), (0, .ref (ad 0)), (1, .int (nI b)), (2, .int i)]) hx hb dX8_hear_5 rfl hl (by decide) rfl (fun ls hl => ?_)
  refine lv_iload_n hx hb dX8_hear_6 rfl (lv_at hl 2 rfl) ?_
  refine lv_bipush (v := 6) hx hb dX8_hear_7 (by decide) ?_
  refine m_callSE (As := [.int (nI b), .int 6]) (rest := []) (c_isBelow_t l D ty L ad _ _ _ (by omega) (by omega)) ⟨hx, hb, hml, hown, hts⟩ (va_cwS 2 hts gX8_hear_X8_isBelow rfl rfl rfl (by decide +kernel) ⟨Nat.le_of_ble_eq_true rfl, Nat.le_of_ble_eq_true rfl⟩) hB rfl hl.1 rfl (Nat.le_of_ble_eq_true rfl) dX8_hear_9 ⟨Nat.le_of_ble_eq_true rfl, Nat.le_of_ble_eq_true rfl⟩ (fun H locs hB => ?_)
  refine b_if_eq_f 19 hx hb dX8_hear_12 (by decide) (by decide) ?_
  refine lv_aload_nN hx hb dX8_hear_15 rfl (lv_at hl 0 rfl) ?_
  refine lv_ifnonnullN hx hb dX8_hear_16 ?_
  refine lv_iconst (v := (-1)) hx hb dX8_hear_19 (by decide) ?_
  exact m_iret hx hb hrt hlocks hB (Nat.le_refl _) (Nat.le_refl _) dX8_hear_20 ⟨rfl, rfl, rfl, rfl⟩
set_option maxHeartbeats 1000000 in
set_option maxRecDepth 100000 in
theorem c_X_hear0_no (l : Launch) (D : va_G) (ty : Nat → ClassId) (L : List Nat) (ad : Nat → Nat) (g : Nat → va_E) (pn qn : Nat) (nw : Int32) (tr : Int64) (pf : Nat → Option Nat) (qf : Nat → Option Nat) (fs fe : Nat → Int32) (pp pt vn : Nat) (wd : Int32) (lg : Int32) (q j : Nat) (tp ak rc sv : Int32) (k b f : Nat) (m_0 : 0 ∈ L) (m_3 : 3 ∈ L) (m_4 : 4 ∈ L) (m_5 : 5 ∈ L) (m_6 : 6 ∈ L) (m_28 : 28 ∈ L) (m_q : q ∈ L) (m_pp : pp ∈ L) (h_0 : g 0 = .inr (8, [.ref (ad 1), .ref (ad 3), .ref (ad 6), .int (nI pn), .ref (ad 7), .ref (ad 20), .ref (ad 22), .ref (ad 28), .int (nI qn), .ref (ad 29), .int nw, .long tr])) (h_3 : g 3 = .inr (4, [.ref (ad 4), .ref (ad 5)])) (h_4 : g 4 = .inl (ty 0, 12, .inl fs)) (h_5 : g 5 = .inl (ty 0, 12, .inl fe)) (h_6 : g 6 = .inl (ty 4, 8, .inr (.inr (.inr (.inr pf))))) (h_28 : g 28 = .inl (ty 5, 30, .inr (.inr (.inr (.inr qf))))) (h_q : g q = .inr (3, [.int (nI j), .int tp, .int ak, .int rc, .int sv])) (h_pp : g pp = .inr (0, [.int (nI f), .ref (ad pt), .int (nI vn), .int wd, .int lg])) (hk : k < 30) (hqq : qf k = some (ad q)) (hj8 : j < 8) (hpp : pf j = some (ad pp)) (hb6 : b < 6) (hf4 : f < 4) (hwd : wd = 0 ∨ wd = 1) (hs : (opn wd fs fe (b % 3 * 4 + f) nw && decide (lg.toInt ≤ nw.toInt)) = false) : m_E l yX8_hear wsX8_hear 5 113 D ty [.ref (ad 0), .int (nI b), .int (nI k)] L ad g (some (.int (-4))) g := by
  intro sz
  refine Met.ofW (cc := cX8_hear) (maxL := 4) (ret := (some .int)) (by decide) rfl ?_
  intro p e s m args below meth c s₁ B hml hv
  have hx := B.exec
  have hb := B.bytes
  have hrt := B.returns
  have hts := atoms_spec (ws := wsX8_hear) B.pre
  have hown : s.vm.findClass RX8 = some m.cls := findClass_of_methodNamed B.named
  have hlocks := B.notSynchronized
  obtain ⟨rfl, hB⟩ := m_start hv
  generalize va_A (m_w L ad g) sz = A at hB ⊢
  generalize s.heap = H at hB ⊢
  generalize ([] : List Loc) = locs at hB ⊢
  have hl := lv_entry ([.ref (ad 0), .int (nI b), .int (nI k)]) (n := 4) (Nat.le_of_ble_eq_true rfl)
  rw [lg_entry_eq]
  generalize (lg_sl ([.ref (ad 0), .int (nI b), .int (nI k)]) ++ List.replicate (4 - (lg_sl ([.ref (ad 0), .int (nI b), .int (nI k)])).length) Slot.unset).toArray = ls at hl ⊢
  have hl : lv_has ls 4 [(0, .ref (ad 0)), (1, .int (nI b)), (2, .int (nI k))] := hl
  have tI_b : (nI b).toInt = (b : Int) := nI_toInt (by omega)
  have l6 : (6 : Int32).toInt = 6 := by decide
  refine lv_aload_n hx hb dX8_hear_0 rfl (lv_at hl 0 rfl) ?_
  refine lv_iload_n hx hb dX8_hear_1 rfl (lv_at hl 2 rfl) ?_
  refine m_callVE (ci := 8) (As := [.int (nI k)]) (rest := []) ((by have h9 := c_X_questionNumber_t l D ty L ad g pn qn nw tr qf k m_0 m_28 h_0 h_28 hk; rw [hqq] at h9; exact h9 : m_E l yX8_questionNumber wsX8_questionNumber 1 21 D ty [.ref (ad 0), .int (nI k)] L ad g (some (.ref (ad q))) g)) ⟨hx, hb, hml, hown, hts⟩ (cwV 1 hts gX8_hear_X8_questionNumber rfl rfl rfl (by decide +kernel) ⟨Nat.le_of_ble_eq_true rfl, Nat.le_of_ble_eq_true rfl⟩) hB m_0 h_0 rfl rfl hl.1 rfl (Nat.le_of_ble_eq_true rfl) dX8_hear_2 ⟨Nat.le_of_ble_eq_true rfl, Nat.le_of_ble_eq_true rfl⟩ (fun H locs hB => ?_)
  refine lv_astore_n (lv' := [(3, .ref (ad q)), (0, .ref (ad 0)), (1, .int (nI b)), (2, .int (nI k))]) hx hb dX8_hear_5 rfl hl (by decide) rfl (fun ls hl => ?_)
  refine lv_iload_n hx hb dX8_hear_6 rfl (lv_at hl 2 rfl) ?_
  refine lv_bipush (v := 6) hx hb dX8_hear_7 (by decide) ?_
  refine m_callSE (As := [.int (nI b), .int 6]) (rest := []) (c_isBelow_t l D ty L ad _ _ _ (by omega) (by omega)) ⟨hx, hb, hml, hown, hts⟩ (va_cwS 2 hts gX8_hear_X8_isBelow rfl rfl rfl (by decide +kernel) ⟨Nat.le_of_ble_eq_true rfl, Nat.le_of_ble_eq_true rfl⟩) hB rfl hl.1 rfl (Nat.le_of_ble_eq_true rfl) dX8_hear_9 ⟨Nat.le_of_ble_eq_true rfl, Nat.le_of_ble_eq_true rfl⟩ (fun H locs hB => ?_)
  refine b_if_eq_f 19 hx hb dX8_hear_12 (by decide) (by decide) ?_
  refine lv_aload_n hx hb dX8_hear_15 rfl (lv_at hl 0 rfl) ?_
  refine lv_ifnonnull (tgt := 21) hx hb dX8_hear_16 (by decide) ?_
  refine lv_aload_n hx hb dX8_hear_21 rfl (lv_at hl 1 rfl) ?_
  refine lv_aload_n hx hb dX8_hear_22 rfl (lv_at hl 1 rfl) ?_
  refine lv_aload_n hx hb dX8_hear_23 rfl (lv_at hl 0 rfl) ?_
  refine m_callVE (ci := 3) (As := []) (rest := [.ref (ad 0), .ref (ad 0)]) (c_Question_paperNumber l D ty L ad g q (nI j) tp ak rc sv m_q h_q) ⟨hx, hb, hml, hown, hts⟩ (cwV 0 hts gX8_hear_X3_paperNumber rfl rfl rfl (by decide +kernel) ⟨Nat.le_of_ble_eq_true rfl, Nat.le_of_ble_eq_true rfl⟩) hB m_q h_q rfl rfl hl.1 rfl (Nat.le_of_ble_eq_true rfl) dX8_hear_24 ⟨Nat.le_of_ble_eq_true rfl, Nat.le_of_ble_eq_true rfl⟩ (fun H locs hB => ?_)
  refine m_callVE (ci := 8) (As := [.int (nI j)]) (rest := [.ref (ad 0)]) ((by have h9 := c_X_paperNumber_t l D ty L ad g pn qn nw tr pf j m_0 m_6 h_0 h_6 hj8; rw [hpp] at h9; exact h9 : m_E l yX8_paperNumber wsX8_paperNumber 1 21 D ty [.ref (ad 0), .int (nI j)] L ad g (some (.ref (ad pp))) g)) ⟨hx, hb, hml, hown, hts⟩ (cwV 1 hts gX8_hear_X8_paperNumber rfl rfl rfl (by decide +kernel) ⟨Nat.le_of_ble_eq_true rfl, Nat.le_of_ble_eq_true rfl⟩) hB m_0 h_0 rfl rfl hl.1 rfl (Nat.le_of_ble_eq_true rfl) dX8_hear_27 ⟨Nat.le_of_ble_eq_true rfl, Nat.le_of_ble_eq_true rfl⟩ (fun H locs hB => ?_)
  refine lv_iload_n hx hb dX8_hear_30 rfl (lv_at hl 2 rfl) ?_
  refine m_callVE (ci := 8) (As := [.ref (ad pp), .int (nI b)]) (rest := []) (c_X_isOpen0 l D ty L ad g pn qn nw tr fs fe pp pt vn wd lg b f m_0 m_3 m_4 m_5 m_pp h_0 h_3 h_4 h_5 h_pp hb6 hf4 hwd) ⟨hx, hb, hml, hown, hts⟩ (cwV 2 hts gX8_hear_X8_isOpen rfl rfl rfl (by decide +kernel) ⟨Nat.le_of_ble_eq_true rfl, Nat.le_of_ble_eq_true rfl⟩) hB m_0 h_0 rfl rfl hl.1 rfl (Nat.le_of_ble_eq_true rfl) dX8_hear_31 ⟨Nat.le_of_ble_eq_true rfl, Nat.le_of_ble_eq_true rfl⟩ (fun H locs hB => ?_)
  refine b_if_ne_f 40 hx hb dX8_hear_34 (by decide) (by rw [hs]; decide) ?_
  refine lv_bipush (v := (-4)) hx hb dX8_hear_37 (by decide) ?_
  exact m_iret hx hb hrt hlocks hB (Nat.le_refl _) (Nat.le_refl _) dX8_hear_39 ⟨rfl, rfl, rfl, rfl⟩
set_option maxHeartbeats 1000000 in
set_option maxRecDepth 100000 in
theorem c_X_hear0_state (l : Launch) (D : va_G) (ty : Nat → ClassId) (L : List Nat) (ad : Nat → Nat) (g : Nat → va_E) (pn qn : Nat) (nw : Int32) (tr : Int64) (pf : Nat → Option Nat) (qf : Nat → Option Nat) (fs fe : Nat → Int32) (pp pt vn : Nat) (wd : Int32) (lg : Int32) (q j : Nat) (tp ak rc sv : Int32) (k b f : Nat) (m_0 : 0 ∈ L) (m_3 : 3 ∈ L) (m_4 : 4 ∈ L) (m_5 : 5 ∈ L) (m_6 : 6 ∈ L) (m_28 : 28 ∈ L) (m_q : q ∈ L) (m_pp : pp ∈ L) (h_0 : g 0 = .inr (8, [.ref (ad 1), .ref (ad 3), .ref (ad 6), .int (nI pn), .ref (ad 7), .ref (ad 20), .ref (ad 22), .ref (ad 28), .int (nI qn), .ref (ad 29), .int nw, .long tr])) (h_3 : g 3 = .inr (4, [.ref (ad 4), .ref (ad 5)])) (h_4 : g 4 = .inl (ty 0, 12, .inl fs)) (h_5 : g 5 = .inl (ty 0, 12, .inl fe)) (h_6 : g 6 = .inl (ty 4, 8, .inr (.inr (.inr (.inr pf))))) (h_28 : g 28 = .inl (ty 5, 30, .inr (.inr (.inr (.inr qf))))) (h_q : g q = .inr (3, [.int (nI j), .int tp, .int ak, .int rc, .int sv])) (h_pp : g pp = .inr (0, [.int (nI f), .ref (ad pt), .int (nI vn), .int wd, .int lg])) (hk : k < 30) (hqq : qf k = some (ad q)) (hj8 : j < 8) (hpp : pf j = some (ad pp)) (hb6 : b < 6) (hf4 : f < 4) (hwd : wd = 0 ∨ wd = 1) (hs : (opn wd fs fe (b % 3 * 4 + f) nw && decide (lg.toInt ≤ nw.toInt)) = true) (hrc : rc = 0) : m_E l yX8_hear wsX8_hear 5 113 D ty [.ref (ad 0), .int (nI b), .int (nI k)] L ad g (some (.int (-2))) g := by
  intro sz
  refine Met.ofW (cc := cX8_hear) (maxL := 4) (ret := (some .int)) (by decide) rfl ?_
  intro p e s m args below meth c s₁ B hml hv
  have hx := B.exec
  have hb := B.bytes
  have hrt := B.returns
  have hts := atoms_spec (ws := wsX8_hear) B.pre
  have hown : s.vm.findClass RX8 = some m.cls := findClass_of_methodNamed B.named
  have hlocks := B.notSynchronized
  obtain ⟨rfl, hB⟩ := m_start hv
  generalize va_A (m_w L ad g) sz = A at hB ⊢
  generalize s.heap = H at hB ⊢
  generalize ([] : List Loc) = locs at hB ⊢
  have hl := lv_entry ([.ref (ad 0), .int (nI b), .int (nI k)]) (n := 4) (Nat.le_of_ble_eq_true rfl)
  rw [lg_entry_eq]
  generalize (lg_sl ([.ref (ad 0), .int (nI b), .int (nI k)]) ++ List.replicate (4 - (lg_sl ([.ref (ad 0), .int (nI b), .int (nI k)])).length) Slot.unset).toArray = ls at hl ⊢
  have hl : lv_has ls 4 [(0, .ref (ad 0)), (1, .int (nI b)), (2, .int (nI k))] := hl
  have tI_b : (nI b).toInt = (b : Int) := nI_toInt (by omega)
  have l6 : (6 : Int32).toInt = 6 := by decide
  refine lv_aload_n hx hb dX8_hear_0 rfl (lv_at hl 0 rfl) ?_
  refine lv_iload_n hx hb dX8_hear_1 rfl (lv_at hl 2 rfl) ?_
  refine m_callVE (ci := 8) (As := [.int (nI k)]) (rest := []) ((by have h9 := c_X_questionNumber_t l D ty L ad g pn qn nw tr qf k m_0 m_28 h_0 h_28 hk; rw [hqq] at h9; exact h9 : m_E l yX8_questionNumber wsX8_questionNumber 1 21 D ty [.ref (ad 0), .int (nI k)] L ad g (some (.ref (ad q))) g)) ⟨hx, hb, hml, hown, hts⟩ (cwV 1 hts gX8_hear_X8_questionNumber rfl rfl rfl (by decide +kernel) ⟨Nat.le_of_ble_eq_true rfl, Nat.le_of_ble_eq_true rfl⟩) hB m_0 h_0 rfl rfl hl.1 rfl (Nat.le_of_ble_eq_true rfl) dX8_hear_2 ⟨Nat.le_of_ble_eq_true rfl, Nat.le_of_ble_eq_true rfl⟩ (fun H locs hB => ?_)
  refine lv_astore_n (lv' := [(3, .ref (ad q)), (0, .ref (ad 0)), (1, .int (nI b)), (2, .int (nI k))]) hx hb dX8_hear_5 rfl hl (by decide) rfl (fun ls hl => ?_)
  refine lv_iload_n hx hb dX8_hear_6 rfl (lv_at hl 2 rfl) ?_
  refine lv_bipush (v := 6) hx hb dX8_hear_7 (by decide) ?_
  refine m_callSE (As := [.int (nI b), .int 6]) (rest := []) (c_isBelow_t l D ty L ad _ _ _ (by omega) (by omega)) ⟨hx, hb, hml, hown, hts⟩ (va_cwS 2 hts gX8_hear_X8_isBelow rfl rfl rfl (by decide +kernel) ⟨Nat.le_of_ble_eq_true rfl, Nat.le_of_ble_eq_true rfl⟩) hB rfl hl.1 rfl (Nat.le_of_ble_eq_true rfl) dX8_hear_9 ⟨Nat.le_of_ble_eq_true rfl, Nat.le_of_ble_eq_true rfl⟩ (fun H locs hB => ?_)
  refine b_if_eq_f 19 hx hb dX8_hear_12 (by decide) (by decide) ?_
  refine lv_aload_n hx hb dX8_hear_15 rfl (lv_at hl 0 rfl) ?_
  refine lv_ifnonnull (tgt := 21) hx hb dX8_hear_16 (by decide) ?_
  refine lv_aload_n hx hb dX8_hear_21 rfl (lv_at hl 1 rfl) ?_
  refine lv_aload_n hx hb dX8_hear_22 rfl (lv_at hl 1 rfl) ?_
  refine lv_aload_n hx hb dX8_hear_23 rfl (lv_at hl 0 rfl) ?_
  refine m_callVE (ci := 3) (As := []) (rest := [.ref (ad 0), .ref (ad 0)]) (c_Question_paperNumber l D ty L ad g q (nI j) tp ak rc sv m_q h_q) ⟨hx, hb, hml, hown, hts⟩ (cwV 0 hts gX8_hear_X3_paperNumber rfl rfl rfl (by decide +kernel) ⟨Nat.le_of_ble_eq_true rfl, Nat.le_of_ble_eq_true rfl⟩) hB m_q h_q rfl rfl hl.1 rfl (Nat.le_of_ble_eq_true rfl) dX8_hear_24 ⟨Nat.le_of_ble_eq_true rfl, Nat.le_of_ble_eq_true rfl⟩ (fun H locs hB => ?_)
  refine m_callVE (ci := 8) (As := [.int (nI j)]) (rest := [.ref (ad 0)]) ((by have h9 := c_X_paperNumber_t l D ty L ad g pn qn nw tr pf j m_0 m_6 h_0 h_6 hj8; rw [hpp] at h9; exact h9 : m_E l yX8_paperNumber wsX8_paperNumber 1 21 D ty [.ref (ad 0), .int (nI j)] L ad g (some (.ref (ad pp))) g)) ⟨hx, hb, hml, hown, hts⟩ (cwV 1 hts gX8_hear_X8_paperNumber rfl rfl rfl (by decide +kernel) ⟨Nat.le_of_ble_eq_true rfl, Nat.le_of_ble_eq_true rfl⟩) hB m_0 h_0 rfl rfl hl.1 rfl (Nat.le_of_ble_eq_true rfl) dX8_hear_27 ⟨Nat.le_of_ble_eq_true rfl, Nat.le_of_ble_eq_true rfl⟩ (fun H locs hB => ?_)
  refine lv_iload_n hx hb dX8_hear_30 rfl (lv_at hl 2 rfl) ?_
  refine m_callVE (ci := 8) (As := [.ref (ad pp), .int (nI b)]) (rest := []) (c_X_isOpen0 l D ty L ad g pn qn nw tr fs fe pp pt vn wd lg b f m_0 m_3 m_4 m_5 m_pp h_0 h_3 h_4 h_5 h_pp hb6 hf4 hwd) ⟨hx, hb, hml, hown, hts⟩ (cwV 2 hts gX8_hear_X8_isOpen rfl rfl rfl (by decide +kernel) ⟨Nat.le_of_ble_eq_true rfl, Nat.le_of_ble_eq_true rfl⟩) hB m_0 h_0 rfl rfl hl.1 rfl (Nat.le_of_ble_eq_true rfl) dX8_hear_31 ⟨Nat.le_of_ble_eq_true rfl, Nat.le_of_ble_eq_true rfl⟩ (fun H locs hB => ?_)
  refine b_if_ne_t 40 hx hb dX8_hear_34 (by decide) (by rw [hs]; decide) ?_
  refine lv_aload_n hx hb dX8_hear_40 rfl (lv_at hl 0 rfl) ?_
  refine m_callVE (ci := 3) (As := []) (rest := []) (c_Question_isAnswered l D ty L ad g q (nI j) tp ak rc sv m_q h_q) ⟨hx, hb, hml, hown, hts⟩ (cwV 0 hts gX8_hear_X3_isAnswered rfl rfl rfl (by decide +kernel) ⟨Nat.le_of_ble_eq_true rfl, Nat.le_of_ble_eq_true rfl⟩) hB m_q h_q rfl rfl hl.1 rfl (Nat.le_of_ble_eq_true rfl) dX8_hear_41 ⟨Nat.le_of_ble_eq_true rfl, Nat.le_of_ble_eq_true rfl⟩ (fun H locs hB => ?_)
  refine b_if_ne_f 50 hx hb dX8_hear_44 (by decide) (by rw [df (fun h => h hrc)]; decide) ?_
  refine lv_bipush (v := (-2)) hx hb dX8_hear_47 (by decide) ?_
  exact m_iret hx hb hrt hlocks hB (Nat.le_refl _) (Nat.le_refl _) dX8_hear_49 ⟨rfl, rfl, rfl, rfl⟩
set_option maxHeartbeats 1000000 in
set_option maxRecDepth 100000 in
theorem c_X_hear0_yes (l : Launch) (D : va_G) (ty : Nat → ClassId) (L : List Nat) (ad : Nat → Nat) (g : Nat → va_E) (pn qn : Nat) (nw : Int32) (tr : Int64) (pf : Nat → Option Nat) (qf : Nat → Option Nat) (fs fe : Nat → Int32) (pp pt vn : Nat) (wd : Int32) (lg : Int32) (q j : Nat) (tp ak rc sv : Int32) (k b f : Nat) (m_0 : 0 ∈ L) (m_3 : 3 ∈ L) (m_4 : 4 ∈ L) (m_5 : 5 ∈ L) (m_6 : 6 ∈ L) (m_28 : 28 ∈ L) (m_q : q ∈ L) (m_pp : pp ∈ L) (h_0 : g 0 = .inr (8, [.ref (ad 1), .ref (ad 3), .ref (ad 6), .int (nI pn), .ref (ad 7), .ref (ad 20), .ref (ad 22), .ref (ad 28), .int (nI qn), .ref (ad 29), .int nw, .long tr])) (h_3 : g 3 = .inr (4, [.ref (ad 4), .ref (ad 5)])) (h_4 : g 4 = .inl (ty 0, 12, .inl fs)) (h_5 : g 5 = .inl (ty 0, 12, .inl fe)) (h_6 : g 6 = .inl (ty 4, 8, .inr (.inr (.inr (.inr pf))))) (h_28 : g 28 = .inl (ty 5, 30, .inr (.inr (.inr (.inr qf))))) (h_q : g q = .inr (3, [.int (nI j), .int tp, .int ak, .int rc, .int sv])) (h_pp : g pp = .inr (0, [.int (nI f), .ref (ad pt), .int (nI vn), .int wd, .int lg])) (hk : k < 30) (hqq : qf k = some (ad q)) (hj8 : j < 8) (hpp : pf j = some (ad pp)) (hb6 : b < 6) (hf4 : f < 4) (hwd : wd = 0 ∨ wd = 1) (hs : (opn wd fs fe (b % 3 * 4 + f) nw && decide (lg.toInt ≤ nw.toInt)) = true) (hrc : ¬ rc = 0) (hfor : rc = 2 ∨ (ak >>> (nI b &&& 31)) &&& 1 = 1) : m_E l yX8_hear wsX8_hear 5 113 D ty [.ref (ad 0), .int (nI b), .int (nI k)] L ad g (some (.int sv)) g := by
  intro sz
  refine Met.ofW (cc := cX8_hear) (maxL := 4) (ret := (some .int)) (by decide) rfl ?_
  intro p e s m args below meth c s₁ B hml hv
  have hx := B.exec
  have hb := B.bytes
  have hrt := B.returns
  have hts := atoms_spec (ws := wsX8_hear) B.pre
  have hown : s.vm.findClass RX8 = some m.cls := findClass_of_methodNamed B.named
  have hlocks := B.notSynchronized
  obtain ⟨rfl, hB⟩ := m_start hv
  generalize va_A (m_w L ad g) sz = A at hB ⊢
  generalize s.heap = H at hB ⊢
  generalize ([] : List Loc) = locs at hB ⊢
  have hl := lv_entry ([.ref (ad 0), .int (nI b), .int (nI k)]) (n := 4) (Nat.le_of_ble_eq_true rfl)
  rw [lg_entry_eq]
  generalize (lg_sl ([.ref (ad 0), .int (nI b), .int (nI k)]) ++ List.replicate (4 - (lg_sl ([.ref (ad 0), .int (nI b), .int (nI k)])).length) Slot.unset).toArray = ls at hl ⊢
  have hl : lv_has ls 4 [(0, .ref (ad 0)), (1, .int (nI b)), (2, .int (nI k))] := hl
  have tI_b : (nI b).toInt = (b : Int) := nI_toInt (by omega)
  have l6 : (6 : Int32).toInt = 6 := by decide
  refine lv_aload_n hx hb dX8_hear_0 rfl (lv_at hl 0 rfl) ?_
  refine lv_iload_n hx hb dX8_hear_1 rfl (lv_at hl 2 rfl) ?_
  refine m_callVE (ci := 8) (As := [.int (nI k)]) (rest := []) ((by have h9 := c_X_questionNumber_t l D ty L ad g pn qn nw tr qf k m_0 m_28 h_0 h_28 hk; rw [hqq] at h9; exact h9 : m_E l yX8_questionNumber wsX8_questionNumber 1 21 D ty [.ref (ad 0), .int (nI k)] L ad g (some (.ref (ad q))) g)) ⟨hx, hb, hml, hown, hts⟩ (cwV 1 hts gX8_hear_X8_questionNumber rfl rfl rfl (by decide +kernel) ⟨Nat.le_of_ble_eq_true rfl, Nat.le_of_ble_eq_true rfl⟩) hB m_0 h_0 rfl rfl hl.1 rfl (Nat.le_of_ble_eq_true rfl) dX8_hear_2 ⟨Nat.le_of_ble_eq_true rfl, Nat.le_of_ble_eq_true rfl⟩ (fun H locs hB => ?_)
  refine lv_astore_n (lv' := [(3, .ref (ad q)), (0, .ref (ad 0)), (1, .int (nI b)), (2, .int (nI k))]) hx hb dX8_hear_5 rfl hl (by decide) rfl (fun ls hl => ?_)
  refine lv_iload_n hx hb dX8_hear_6 rfl (lv_at hl 2 rfl) ?_
  refine lv_bipush (v := 6) hx hb dX8_hear_7 (by decide) ?_
  refine m_callSE (As := [.int (nI b), .int 6]) (rest := []) (c_isBelow_t l D ty L ad _ _ _ (by omega) (by omega)) ⟨hx, hb, hml, hown, hts⟩ (va_cwS 2 hts gX8_hear_X8_isBelow rfl rfl rfl (by decide +kernel) ⟨Nat.le_of_ble_eq_true rfl, Nat.le_of_ble_eq_true rfl⟩) hB rfl hl.1 rfl (Nat.le_of_ble_eq_true rfl) dX8_hear_9 ⟨Nat.le_of_ble_eq_true rfl, Nat.le_of_ble_eq_true rfl⟩ (fun H locs hB => ?_)
  refine b_if_eq_f 19 hx hb dX8_hear_12 (by decide) (by decide) ?_
  refine lv_aload_n hx hb dX8_hear_15 rfl (lv_at hl 0 rfl) ?_
  refine lv_ifnonnull (tgt := 21) hx hb dX8_hear_16 (by decide) ?_
  refine lv_aload_n hx hb dX8_hear_21 rfl (lv_at hl 1 rfl) ?_
  refine lv_aload_n hx hb dX8_hear_22 rfl (lv_at hl 1 rfl) ?_
  refine lv_aload_n hx hb dX8_hear_23 rfl (lv_at hl 0 rfl) ?_
  refine m_callVE (ci := 3) (As := []) (rest := [.ref (ad 0), .ref (ad 0)]) (c_Question_paperNumber l D ty L ad g q (nI j) tp ak rc sv m_q h_q) ⟨hx, hb, hml, hown, hts⟩ (cwV 0 hts gX8_hear_X3_paperNumber rfl rfl rfl (by decide +kernel) ⟨Nat.le_of_ble_eq_true rfl, Nat.le_of_ble_eq_true rfl⟩) hB m_q h_q rfl rfl hl.1 rfl (Nat.le_of_ble_eq_true rfl) dX8_hear_24 ⟨Nat.le_of_ble_eq_true rfl, Nat.le_of_ble_eq_true rfl⟩ (fun H locs hB => ?_)
  refine m_callVE (ci := 8) (As := [.int (nI j)]) (rest := [.ref (ad 0)]) ((by have h9 := c_X_paperNumber_t l D ty L ad g pn qn nw tr pf j m_0 m_6 h_0 h_6 hj8; rw [hpp] at h9; exact h9 : m_E l yX8_paperNumber wsX8_paperNumber 1 21 D ty [.ref (ad 0), .int (nI j)] L ad g (some (.ref (ad pp))) g)) ⟨hx, hb, hml, hown, hts⟩ (cwV 1 hts gX8_hear_X8_paperNumber rfl rfl rfl (by decide +kernel) ⟨Nat.le_of_ble_eq_true rfl, Nat.le_of_ble_eq_true rfl⟩) hB m_0 h_0 rfl rfl hl.1 rfl (Nat.le_of_ble_eq_true rfl) dX8_hear_27 ⟨Nat.le_of_ble_eq_true rfl, Nat.le_of_ble_eq_true rfl⟩ (fun H locs hB => ?_)
  refine lv_iload_n hx hb dX8_hear_30 rfl (lv_at hl 2 rfl) ?_
  refine m_callVE (ci := 8) (As := [.ref (ad pp), .int (nI b)]) (rest := []) (c_X_isOpen0 l D ty L ad g pn qn nw tr fs fe pp pt vn wd lg b f m_0 m_3 m_4 m_5 m_pp h_0 h_3 h_4 h_5 h_pp hb6 hf4 hwd) ⟨hx, hb, hml, hown, hts⟩ (cwV 2 hts gX8_hear_X8_isOpen rfl rfl rfl (by decide +kernel) ⟨Nat.le_of_ble_eq_true rfl, Nat.le_of_ble_eq_true rfl⟩) hB m_0 h_0 rfl rfl hl.1 rfl (Nat.le_of_ble_eq_true rfl) dX8_hear_31 ⟨Nat.le_of_ble_eq_true rfl, Nat.le_of_ble_eq_true rfl⟩ (fun H locs hB => ?_)
  refine b_if_ne_t 40 hx hb dX8_hear_34 (by decide) (by rw [hs]; decide) ?_
  refine lv_aload_n hx hb dX8_hear_40 rfl (lv_at hl 0 rfl) ?_
  refine m_callVE (ci := 3) (As := []) (rest := []) (c_Question_isAnswered l D ty L ad g q (nI j) tp ak rc sv m_q h_q) ⟨hx, hb, hml, hown, hts⟩ (cwV 0 hts gX8_hear_X3_isAnswered rfl rfl rfl (by decide +kernel) ⟨Nat.le_of_ble_eq_true rfl, Nat.le_of_ble_eq_true rfl⟩) hB m_q h_q rfl rfl hl.1 rfl (Nat.le_of_ble_eq_true rfl) dX8_hear_41 ⟨Nat.le_of_ble_eq_true rfl, Nat.le_of_ble_eq_true rfl⟩ (fun H locs hB => ?_)
  refine b_if_ne_t 50 hx hb dX8_hear_44 (by decide) (by rw [dt hrc]; decide) ?_
  refine lv_aload_n hx hb dX8_hear_50 rfl (lv_at hl 0 rfl) ?_
  refine lv_iload_n hx hb dX8_hear_51 rfl (lv_at hl 2 rfl) ?_
  refine m_callVE (ci := 3) (As := [.int (nI b)]) (rest := []) (c_Question_isFor l D ty L ad g q (nI j) tp ak rc sv (nI b) m_q h_q) ⟨hx, hb, hml, hown, hts⟩ (cwV 1 hts gX8_hear_X3_isFor rfl rfl rfl (by decide +kernel) ⟨Nat.le_of_ble_eq_true rfl, Nat.le_of_ble_eq_true rfl⟩) hB m_q h_q rfl rfl hl.1 rfl (Nat.le_of_ble_eq_true rfl) dX8_hear_52 ⟨Nat.le_of_ble_eq_true rfl, Nat.le_of_ble_eq_true rfl⟩ (fun H locs hB => ?_)
  refine b_if_eq_f 65 hx hb dX8_hear_55 (by decide) (by rw [dt hfor]; decide) ?_
  refine lv_aload_n hx hb dX8_hear_58 rfl (lv_at hl 0 rfl) ?_
  refine m_callVE (ci := 3) (As := []) (rest := []) (c_Question_settled l D ty L ad g q (nI j) tp ak rc sv m_q h_q) ⟨hx, hb, hml, hown, hts⟩ (cwV 0 hts gX8_hear_X3_settled rfl rfl rfl (by decide +kernel) ⟨Nat.le_of_ble_eq_true rfl, Nat.le_of_ble_eq_true rfl⟩) hB m_q h_q rfl rfl hl.1 rfl (Nat.le_of_ble_eq_true rfl) dX8_hear_59 ⟨Nat.le_of_ble_eq_true rfl, Nat.le_of_ble_eq_true rfl⟩ (fun H locs hB => ?_)
  refine lv_goto (tgt := 67) hx hb dX8_hear_62 (by decide) ?_
  exact m_iret hx hb hrt hlocks hB (Nat.le_refl _) (Nat.le_refl _) dX8_hear_67 ⟨rfl, rfl, rfl, rfl⟩
set_option maxHeartbeats 1000000 in
set_option maxRecDepth 100000 in
theorem c_X_hear0_other (l : Launch) (D : va_G) (ty : Nat → ClassId) (L : List Nat) (ad : Nat → Nat) (g : Nat → va_E) (pn qn : Nat) (nw : Int32) (tr : Int64) (pf : Nat → Option Nat) (qf : Nat → Option Nat) (fs fe : Nat → Int32) (pp pt vn : Nat) (wd : Int32) (lg : Int32) (q j : Nat) (tp ak rc sv : Int32) (k b f : Nat) (m_0 : 0 ∈ L) (m_3 : 3 ∈ L) (m_4 : 4 ∈ L) (m_5 : 5 ∈ L) (m_6 : 6 ∈ L) (m_28 : 28 ∈ L) (m_q : q ∈ L) (m_pp : pp ∈ L) (h_0 : g 0 = .inr (8, [.ref (ad 1), .ref (ad 3), .ref (ad 6), .int (nI pn), .ref (ad 7), .ref (ad 20), .ref (ad 22), .ref (ad 28), .int (nI qn), .ref (ad 29), .int nw, .long tr])) (h_3 : g 3 = .inr (4, [.ref (ad 4), .ref (ad 5)])) (h_4 : g 4 = .inl (ty 0, 12, .inl fs)) (h_5 : g 5 = .inl (ty 0, 12, .inl fe)) (h_6 : g 6 = .inl (ty 4, 8, .inr (.inr (.inr (.inr pf))))) (h_28 : g 28 = .inl (ty 5, 30, .inr (.inr (.inr (.inr qf))))) (h_q : g q = .inr (3, [.int (nI j), .int tp, .int ak, .int rc, .int sv])) (h_pp : g pp = .inr (0, [.int (nI f), .ref (ad pt), .int (nI vn), .int wd, .int lg])) (hk : k < 30) (hqq : qf k = some (ad q)) (hj8 : j < 8) (hpp : pf j = some (ad pp)) (hb6 : b < 6) (hf4 : f < 4) (hwd : wd = 0 ∨ wd = 1) (hs : (opn wd fs fe (b % 3 * 4 + f) nw && decide (lg.toInt ≤ nw.toInt)) = true) (hrc : ¬ rc = 0) (hfor : ¬ (rc = 2 ∨ (ak >>> (nI b &&& 31)) &&& 1 = 1)) : m_E l yX8_hear wsX8_hear 5 113 D ty [.ref (ad 0), .int (nI b), .int (nI k)] L ad g (some (.int (-4))) g := by
  intro sz
  refine Met.ofW (cc := cX8_hear) (maxL := 4) (ret := (some .int)) (by decide) rfl ?_
  intro p e s m args below meth c s₁ B hml hv
  have hx := B.exec
  have hb := B.bytes
  have hrt := B.returns
  have hts := atoms_spec (ws := wsX8_hear) B.pre
  have hown : s.vm.findClass RX8 = some m.cls := findClass_of_methodNamed B.named
  have hlocks := B.notSynchronized
  obtain ⟨rfl, hB⟩ := m_start hv
  generalize va_A (m_w L ad g) sz = A at hB ⊢
  generalize s.heap = H at hB ⊢
  generalize ([] : List Loc) = locs at hB ⊢
  have hl := lv_entry ([.ref (ad 0), .int (nI b), .int (nI k)]) (n := 4) (Nat.le_of_ble_eq_true rfl)
  rw [lg_entry_eq]
  generalize (lg_sl ([.ref (ad 0), .int (nI b), .int (nI k)]) ++ List.replicate (4 - (lg_sl ([.ref (ad 0), .int (nI b), .int (nI k)])).length) Slot.unset).toArray = ls at hl ⊢
  have hl : lv_has ls 4 [(0, .ref (ad 0)), (1, .int (nI b)), (2, .int (nI k))] := hl
  have tI_b : (nI b).toInt = (b : Int) := nI_toInt (by omega)
  have l6 : (6 : Int32).toInt = 6 := by decide
  refine lv_aload_n hx hb dX8_hear_0 rfl (lv_at hl 0 rfl) ?_
  refine lv_iload_n hx hb dX8_hear_1 rfl (lv_at hl 2 rfl) ?_
  refine m_callVE (ci := 8) (As := [.int (nI k)]) (rest := []) ((by have h9 := c_X_questionNumber_t l D ty L ad g pn qn nw tr qf k m_0 m_28 h_0 h_28 hk; rw [hqq] at h9; exact h9 : m_E l yX8_questionNumber wsX8_questionNumber 1 21 D ty [.ref (ad 0), .int (nI k)] L ad g (some (.ref (ad q))) g)) ⟨hx, hb, hml, hown, hts⟩ (cwV 1 hts gX8_hear_X8_questionNumber rfl rfl rfl (by decide +kernel) ⟨Nat.le_of_ble_eq_true rfl, Nat.le_of_ble_eq_true rfl⟩) hB m_0 h_0 rfl rfl hl.1 rfl (Nat.le_of_ble_eq_true rfl) dX8_hear_2 ⟨Nat.le_of_ble_eq_true rfl, Nat.le_of_ble_eq_true rfl⟩ (fun H locs hB => ?_)
  refine lv_astore_n (lv' := [(3, .ref (ad q)), (0, .ref (ad 0)), (1, .int (nI b)), (2, .int (nI k))]) hx hb dX8_hear_5 rfl hl (by decide) rfl (fun ls hl => ?_)
  refine lv_iload_n hx hb dX8_hear_6 rfl (lv_at hl 2 rfl) ?_
  refine lv_bipush (v := 6) hx hb dX8_hear_7 (by decide) ?_
  refine m_callSE (As := [.int (nI b), .int 6]) (rest := []) (c_isBelow_t l D ty L ad _ _ _ (by omega) (by omega)) ⟨hx, hb, hml, hown, hts⟩ (va_cwS 2 hts gX8_hear_X8_isBelow rfl rfl rfl (by decide +kernel) ⟨Nat.le_of_ble_eq_true rfl, Nat.le_of_ble_eq_true rfl⟩) hB rfl hl.1 rfl (Nat.le_of_ble_eq_true rfl) dX8_hear_9 ⟨Nat.le_of_ble_eq_true rfl, Nat.le_of_ble_eq_true rfl⟩ (fun H locs hB => ?_)
  refine b_if_eq_f 19 hx hb dX8_hear_12 (by decide) (by decide) ?_
  refine lv_aload_n hx hb dX8_hear_15 rfl (lv_at hl 0 rfl) ?_
  refine lv_ifnonnull (tgt := 21) hx hb dX8_hear_16 (by decide) ?_
  refine lv_aload_n hx hb dX8_hear_21 rfl (lv_at hl 1 rfl) ?_
  refine lv_aload_n hx hb dX8_hear_22 rfl (lv_at hl 1 rfl) ?_
  refine lv_aload_n hx hb dX8_hear_23 rfl (lv_at hl 0 rfl) ?_
  refine m_callVE (ci := 3) (As := []) (rest := [.ref (ad 0), .ref (ad 0)]) (c_Question_paperNumber l D ty L ad g q (nI j) tp ak rc sv m_q h_q) ⟨hx, hb, hml, hown, hts⟩ (cwV 0 hts gX8_hear_X3_paperNumber rfl rfl rfl (by decide +kernel) ⟨Nat.le_of_ble_eq_true rfl, Nat.le_of_ble_eq_true rfl⟩) hB m_q h_q rfl rfl hl.1 rfl (Nat.le_of_ble_eq_true rfl) dX8_hear_24 ⟨Nat.le_of_ble_eq_true rfl, Nat.le_of_ble_eq_true rfl⟩ (fun H locs hB => ?_)
  refine m_callVE (ci := 8) (As := [.int (nI j)]) (rest := [.ref (ad 0)]) ((by have h9 := c_X_paperNumber_t l D ty L ad g pn qn nw tr pf j m_0 m_6 h_0 h_6 hj8; rw [hpp] at h9; exact h9 : m_E l yX8_paperNumber wsX8_paperNumber 1 21 D ty [.ref (ad 0), .int (nI j)] L ad g (some (.ref (ad pp))) g)) ⟨hx, hb, hml, hown, hts⟩ (cwV 1 hts gX8_hear_X8_paperNumber rfl rfl rfl (by decide +kernel) ⟨Nat.le_of_ble_eq_true rfl, Nat.le_of_ble_eq_true rfl⟩) hB m_0 h_0 rfl rfl hl.1 rfl (Nat.le_of_ble_eq_true rfl) dX8_hear_27 ⟨Nat.le_of_ble_eq_true rfl, Nat.le_of_ble_eq_true rfl⟩ (fun H locs hB => ?_)
  refine lv_iload_n hx hb dX8_hear_30 rfl (lv_at hl 2 rfl) ?_
  refine m_callVE (ci := 8) (As := [.ref (ad pp), .int (nI b)]) (rest := []) (c_X_isOpen0 l D ty L ad g pn qn nw tr fs fe pp pt vn wd lg b f m_0 m_3 m_4 m_5 m_pp h_0 h_3 h_4 h_5 h_pp hb6 hf4 hwd) ⟨hx, hb, hml, hown, hts⟩ (cwV 2 hts gX8_hear_X8_isOpen rfl rfl rfl (by decide +kernel) ⟨Nat.le_of_ble_eq_true rfl, Nat.le_of_ble_eq_true rfl⟩) hB m_0 h_0 rfl rfl hl.1 rfl (Nat.le_of_ble_eq_true rfl) dX8_hear_31 ⟨Nat.le_of_ble_eq_true rfl, Nat.le_of_ble_eq_true rfl⟩ (fun H locs hB => ?_)
  refine b_if_ne_t 40 hx hb dX8_hear_34 (by decide) (by rw [hs]; decide) ?_
  refine lv_aload_n hx hb dX8_hear_40 rfl (lv_at hl 0 rfl) ?_
  refine m_callVE (ci := 3) (As := []) (rest := []) (c_Question_isAnswered l D ty L ad g q (nI j) tp ak rc sv m_q h_q) ⟨hx, hb, hml, hown, hts⟩ (cwV 0 hts gX8_hear_X3_isAnswered rfl rfl rfl (by decide +kernel) ⟨Nat.le_of_ble_eq_true rfl, Nat.le_of_ble_eq_true rfl⟩) hB m_q h_q rfl rfl hl.1 rfl (Nat.le_of_ble_eq_true rfl) dX8_hear_41 ⟨Nat.le_of_ble_eq_true rfl, Nat.le_of_ble_eq_true rfl⟩ (fun H locs hB => ?_)
  refine b_if_ne_t 50 hx hb dX8_hear_44 (by decide) (by rw [dt hrc]; decide) ?_
  refine lv_aload_n hx hb dX8_hear_50 rfl (lv_at hl 0 rfl) ?_
  refine lv_iload_n hx hb dX8_hear_51 rfl (lv_at hl 2 rfl) ?_
  refine m_callVE (ci := 3) (As := [.int (nI b)]) (rest := []) (c_Question_isFor l D ty L ad g q (nI j) tp ak rc sv (nI b) m_q h_q) ⟨hx, hb, hml, hown, hts⟩ (cwV 1 hts gX8_hear_X3_isFor rfl rfl rfl (by decide +kernel) ⟨Nat.le_of_ble_eq_true rfl, Nat.le_of_ble_eq_true rfl⟩) hB m_q h_q rfl rfl hl.1 rfl (Nat.le_of_ble_eq_true rfl) dX8_hear_52 ⟨Nat.le_of_ble_eq_true rfl, Nat.le_of_ble_eq_true rfl⟩ (fun H locs hB => ?_)
  refine b_if_eq_t 65 hx hb dX8_hear_55 (by decide) (by rw [df hfor]; decide) ?_
  refine lv_bipush (v := (-4)) hx hb dX8_hear_65 (by decide) ?_
  exact m_iret hx hb hrt hlocks hB (Nat.le_refl _) (Nat.le_refl _) dX8_hear_67 ⟨rfl, rfl, rfl, rfl⟩
set_option maxHeartbeats 1000000 in
set_option maxRecDepth 100000 in
theorem c_X_hear1_no (l : Launch) (D : va_G) (ty : Nat → ClassId) (L : List Nat) (ad : Nat → Nat) (g : Nat → va_E) (pn qn : Nat) (nw : Int32) (tr : Int64) (pf : Nat → Option Nat) (qf : Nat → Option Nat) (fs fe : Nat → Int32) (pp pt vn : Nat) (wd : Int32) (q j : Nat) (tp ak rc sv : Int32) (k b f : Nat) (m_0 : 0 ∈ L) (m_3 : 3 ∈ L) (m_4 : 4 ∈ L) (m_5 : 5 ∈ L) (m_6 : 6 ∈ L) (m_28 : 28 ∈ L) (m_q : q ∈ L) (m_pp : pp ∈ L) (h_0 : g 0 = .inr (8, [.ref (ad 1), .ref (ad 3), .ref (ad 6), .int (nI pn), .ref (ad 7), .ref (ad 20), .ref (ad 22), .ref (ad 28), .int (nI qn), .ref (ad 29), .int nw, .long tr])) (h_3 : g 3 = .inr (4, [.ref (ad 4), .ref (ad 5)])) (h_4 : g 4 = .inl (ty 0, 12, .inl fs)) (h_5 : g 5 = .inl (ty 0, 12, .inl fe)) (h_6 : g 6 = .inl (ty 4, 8, .inr (.inr (.inr (.inr pf))))) (h_28 : g 28 = .inl (ty 5, 30, .inr (.inr (.inr (.inr qf))))) (h_q : g q = .inr (3, [.int (nI j), .int tp, .int ak, .int rc, .int sv])) (h_pp : g pp = .inr (1, [.int (nI f), .ref (ad pt), .int (nI vn), .int wd])) (hk : k < 30) (hqq : qf k = some (ad q)) (hj8 : j < 8) (hpp : pf j = some (ad pp)) (hb6 : b < 6) (hf4 : f < 4) (hwd : wd = 0 ∨ wd = 1) (hs : (opn wd fs fe (b % 3 * 4 + f) nw) = false) : m_E l yX8_hear wsX8_hear 5 113 D ty [.ref (ad 0), .int (nI b), .int (nI k)] L ad g (some (.int (-4))) g := by
  intro sz
  refine Met.ofW (cc := cX8_hear) (maxL := 4) (ret := (some .int)) (by decide) rfl ?_
  intro p e s m args below meth c s₁ B hml hv
  have hx := B.exec
  have hb := B.bytes
  have hrt := B.returns
  have hts := atoms_spec (ws := wsX8_hear) B.pre
  have hown : s.vm.findClass RX8 = some m.cls := findClass_of_methodNamed B.named
  have hlocks := B.notSynchronized
  obtain ⟨rfl, hB⟩ := m_start hv
  generalize va_A (m_w L ad g) sz = A at hB ⊢
  generalize s.heap = H at hB ⊢
  generalize ([] : List Loc) = locs at hB ⊢
  have hl := lv_entry ([.ref (ad 0), .int (nI b), .int (nI k)]) (n := 4) (Nat.le_of_ble_eq_true rfl)
  rw [lg_entry_eq]
  generalize (lg_sl ([.ref (ad 0), .int (nI b), .int (nI k)]) ++ List.replicate (4 - (lg_sl ([.ref (ad 0), .int (nI b), .int (nI k)])).length) Slot.unset).toArray = ls at hl ⊢
  have hl : lv_has ls 4 [(0, .ref (ad 0)), (1, .int (nI b)), (2, .int (nI k))] := hl
  have tI_b : (nI b).toInt = (b : Int) := nI_toInt (by omega)
  have l6 : (6 : Int32).toInt = 6 := by decide
  refine lv_aload_n hx hb dX8_hear_0 rfl (lv_at hl 0 rfl) ?_
  refine lv_iload_n hx hb dX8_hear_1 rfl (lv_at hl 2 rfl) ?_
  refine m_callVE (ci := 8) (As := [.int (nI k)]) (rest := []) ((by have h9 := c_X_questionNumber_t l D ty L ad g pn qn nw tr qf k m_0 m_28 h_0 h_28 hk; rw [hqq] at h9; exact h9 : m_E l yX8_questionNumber wsX8_questionNumber 1 21 D ty [.ref (ad 0), .int (nI k)] L ad g (some (.ref (ad q))) g)) ⟨hx, hb, hml, hown, hts⟩ (cwV 1 hts gX8_hear_X8_questionNumber rfl rfl rfl (by decide +kernel) ⟨Nat.le_of_ble_eq_true rfl, Nat.le_of_ble_eq_true rfl⟩) hB m_0 h_0 rfl rfl hl.1 rfl (Nat.le_of_ble_eq_true rfl) dX8_hear_2 ⟨Nat.le_of_ble_eq_true rfl, Nat.le_of_ble_eq_true rfl⟩ (fun H locs hB => ?_)
  refine lv_astore_n (lv' := [(3, .ref (ad q)), (0, .ref (ad 0)), (1, .int (nI b)), (2, .int (nI k))]) hx hb dX8_hear_5 rfl hl (by decide) rfl (fun ls hl => ?_)
  refine lv_iload_n hx hb dX8_hear_6 rfl (lv_at hl 2 rfl) ?_
  refine lv_bipush (v := 6) hx hb dX8_hear_7 (by decide) ?_
  refine m_callSE (As := [.int (nI b), .int 6]) (rest := []) (c_isBelow_t l D ty L ad _ _ _ (by omega) (by omega)) ⟨hx, hb, hml, hown, hts⟩ (va_cwS 2 hts gX8_hear_X8_isBelow rfl rfl rfl (by decide +kernel) ⟨Nat.le_of_ble_eq_true rfl, Nat.le_of_ble_eq_true rfl⟩) hB rfl hl.1 rfl (Nat.le_of_ble_eq_true rfl) dX8_hear_9 ⟨Nat.le_of_ble_eq_true rfl, Nat.le_of_ble_eq_true rfl⟩ (fun H locs hB => ?_)
  refine b_if_eq_f 19 hx hb dX8_hear_12 (by decide) (by decide) ?_
  refine lv_aload_n hx hb dX8_hear_15 rfl (lv_at hl 0 rfl) ?_
  refine lv_ifnonnull (tgt := 21) hx hb dX8_hear_16 (by decide) ?_
  refine lv_aload_n hx hb dX8_hear_21 rfl (lv_at hl 1 rfl) ?_
  refine lv_aload_n hx hb dX8_hear_22 rfl (lv_at hl 1 rfl) ?_
  refine lv_aload_n hx hb dX8_hear_23 rfl (lv_at hl 0 rfl) ?_
  refine m_callVE (ci := 3) (As := []) (rest := [.ref (ad 0), .ref (ad 0)]) (c_Question_paperNumber l D ty L ad g q (nI j) tp ak rc sv m_q h_q) ⟨hx, hb, hml, hown, hts⟩ (cwV 0 hts gX8_hear_X3_paperNumber rfl rfl rfl (by decide +kernel) ⟨Nat.le_of_ble_eq_true rfl, Nat.le_of_ble_eq_true rfl⟩) hB m_q h_q rfl rfl hl.1 rfl (Nat.le_of_ble_eq_true rfl) dX8_hear_24 ⟨Nat.le_of_ble_eq_true rfl, Nat.le_of_ble_eq_true rfl⟩ (fun H locs hB => ?_)
  refine m_callVE (ci := 8) (As := [.int (nI j)]) (rest := [.ref (ad 0)]) ((by have h9 := c_X_paperNumber_t l D ty L ad g pn qn nw tr pf j m_0 m_6 h_0 h_6 hj8; rw [hpp] at h9; exact h9 : m_E l yX8_paperNumber wsX8_paperNumber 1 21 D ty [.ref (ad 0), .int (nI j)] L ad g (some (.ref (ad pp))) g)) ⟨hx, hb, hml, hown, hts⟩ (cwV 1 hts gX8_hear_X8_paperNumber rfl rfl rfl (by decide +kernel) ⟨Nat.le_of_ble_eq_true rfl, Nat.le_of_ble_eq_true rfl⟩) hB m_0 h_0 rfl rfl hl.1 rfl (Nat.le_of_ble_eq_true rfl) dX8_hear_27 ⟨Nat.le_of_ble_eq_true rfl, Nat.le_of_ble_eq_true rfl⟩ (fun H locs hB => ?_)
  refine lv_iload_n hx hb dX8_hear_30 rfl (lv_at hl 2 rfl) ?_
  refine m_callVE (ci := 8) (As := [.ref (ad pp), .int (nI b)]) (rest := []) (c_X_isOpen1 l D ty L ad g pn qn nw tr fs fe pp pt vn wd b f m_0 m_3 m_4 m_5 m_pp h_0 h_3 h_4 h_5 h_pp hb6 hf4 hwd) ⟨hx, hb, hml, hown, hts⟩ (cwV 2 hts gX8_hear_X8_isOpen rfl rfl rfl (by decide +kernel) ⟨Nat.le_of_ble_eq_true rfl, Nat.le_of_ble_eq_true rfl⟩) hB m_0 h_0 rfl rfl hl.1 rfl (Nat.le_of_ble_eq_true rfl) dX8_hear_31 ⟨Nat.le_of_ble_eq_true rfl, Nat.le_of_ble_eq_true rfl⟩ (fun H locs hB => ?_)
  refine b_if_ne_f 40 hx hb dX8_hear_34 (by decide) (by rw [hs]; decide) ?_
  refine lv_bipush (v := (-4)) hx hb dX8_hear_37 (by decide) ?_
  exact m_iret hx hb hrt hlocks hB (Nat.le_refl _) (Nat.le_refl _) dX8_hear_39 ⟨rfl, rfl, rfl, rfl⟩
set_option maxHeartbeats 1000000 in
set_option maxRecDepth 100000 in
theorem c_X_hear1_state (l : Launch) (D : va_G) (ty : Nat → ClassId) (L : List Nat) (ad : Nat → Nat) (g : Nat → va_E) (pn qn : Nat) (nw : Int32) (tr : Int64) (pf : Nat → Option Nat) (qf : Nat → Option Nat) (fs fe : Nat → Int32) (pp pt vn : Nat) (wd : Int32) (q j : Nat) (tp ak rc sv : Int32) (k b f : Nat) (m_0 : 0 ∈ L) (m_3 : 3 ∈ L) (m_4 : 4 ∈ L) (m_5 : 5 ∈ L) (m_6 : 6 ∈ L) (m_28 : 28 ∈ L) (m_q : q ∈ L) (m_pp : pp ∈ L) (h_0 : g 0 = .inr (8, [.ref (ad 1), .ref (ad 3), .ref (ad 6), .int (nI pn), .ref (ad 7), .ref (ad 20), .ref (ad 22), .ref (ad 28), .int (nI qn), .ref (ad 29), .int nw, .long tr])) (h_3 : g 3 = .inr (4, [.ref (ad 4), .ref (ad 5)])) (h_4 : g 4 = .inl (ty 0, 12, .inl fs)) (h_5 : g 5 = .inl (ty 0, 12, .inl fe)) (h_6 : g 6 = .inl (ty 4, 8, .inr (.inr (.inr (.inr pf))))) (h_28 : g 28 = .inl (ty 5, 30, .inr (.inr (.inr (.inr qf))))) (h_q : g q = .inr (3, [.int (nI j), .int tp, .int ak, .int rc, .int sv])) (h_pp : g pp = .inr (1, [.int (nI f), .ref (ad pt), .int (nI vn), .int wd])) (hk : k < 30) (hqq : qf k = some (ad q)) (hj8 : j < 8) (hpp : pf j = some (ad pp)) (hb6 : b < 6) (hf4 : f < 4) (hwd : wd = 0 ∨ wd = 1) (hs : (opn wd fs fe (b % 3 * 4 + f) nw) = true) (hrc : rc = 0) : m_E l yX8_hear wsX8_hear 5 113 D ty [.ref (ad 0), .int (nI b), .int (nI k)] L ad g (some (.int (-2))) g := by
  intro sz
  refine Met.ofW (cc := cX8_hear) (maxL := 4) (ret := (some .int)) (by decide) rfl ?_
  intro p e s m args below meth c s₁ B hml hv
  have hx := B.exec
  have hb := B.bytes
  have hrt := B.returns
  have hts := atoms_spec (ws := wsX8_hear) B.pre
  have hown : s.vm.findClass RX8 = some m.cls := findClass_of_methodNamed B.named
  have hlocks := B.notSynchronized
  obtain ⟨rfl, hB⟩ := m_start hv
  generalize va_A (m_w L ad g) sz = A at hB ⊢
  generalize s.heap = H at hB ⊢
  generalize ([] : List Loc) = locs at hB ⊢
  have hl := lv_entry ([.ref (ad 0), .int (nI b), .int (nI k)]) (n := 4) (Nat.le_of_ble_eq_true rfl)
  rw [lg_entry_eq]
  generalize (lg_sl ([.ref (ad 0), .int (nI b), .int (nI k)]) ++ List.replicate (4 - (lg_sl ([.ref (ad 0), .int (nI b), .int (nI k)])).length) Slot.unset).toArray = ls at hl ⊢
  have hl : lv_has ls 4 [(0, .ref (ad 0)), (1, .int (nI b)), (2, .int (nI k))] := hl
  have tI_b : (nI b).toInt = (b : Int) := nI_toInt (by omega)
  have l6 : (6 : Int32).toInt = 6 := by decide
  refine lv_aload_n hx hb dX8_hear_0 rfl (lv_at hl 0 rfl) ?_
  refine lv_iload_n hx hb dX8_hear_1 rfl (lv_at hl 2 rfl) ?_
  refine m_callVE (ci := 8) (As := [.int (nI k)]) (rest := []) ((by have h9 := c_X_questionNumber_t l D ty L ad g pn qn nw tr qf k m_0 m_28 h_0 h_28 hk; rw [hqq] at h9; exact h9 : m_E l yX8_questionNumber wsX8_questionNumber 1 21 D ty [.ref (ad 0), .int (nI k)] L ad g (some (.ref (ad q))) g)) ⟨hx, hb, hml, hown, hts⟩ (cwV 1 hts gX8_hear_X8_questionNumber rfl rfl rfl (by decide +kernel) ⟨Nat.le_of_ble_eq_true rfl, Nat.le_of_ble_eq_true rfl⟩) hB m_0 h_0 rfl rfl hl.1 rfl (Nat.le_of_ble_eq_true rfl) dX8_hear_2 ⟨Nat.le_of_ble_eq_true rfl, Nat.le_of_ble_eq_true rfl⟩ (fun H locs hB => ?_)
  refine lv_astore_n (lv' := [(3, .ref (ad q)), (0, .ref (ad 0)), (1, .int (nI b)), (2, .int (nI k))]) hx hb dX8_hear_5 rfl hl (by decide) rfl (fun ls hl => ?_)
  refine lv_iload_n hx hb dX8_hear_6 rfl (lv_at hl 2 rfl) ?_
  refine lv_bipush (v := 6) hx hb dX8_hear_7 (by decide) ?_
  refine m_callSE (As := [.int (nI b), .int 6]) (rest := []) (c_isBelow_t l D ty L ad _ _ _ (by omega) (by omega)) ⟨hx, hb, hml, hown, hts⟩ (va_cwS 2 hts gX8_hear_X8_isBelow rfl rfl rfl (by decide +kernel) ⟨Nat.le_of_ble_eq_true rfl, Nat.le_of_ble_eq_true rfl⟩) hB rfl hl.1 rfl (Nat.le_of_ble_eq_true rfl) dX8_hear_9 ⟨Nat.le_of_ble_eq_true rfl, Nat.le_of_ble_eq_true rfl⟩ (fun H locs hB => ?_)
  refine b_if_eq_f 19 hx hb dX8_hear_12 (by decide) (by decide) ?_
  refine lv_aload_n hx hb dX8_hear_15 rfl (lv_at hl 0 rfl) ?_
  refine lv_ifnonnull (tgt := 21) hx hb dX8_hear_16 (by decide) ?_
  refine lv_aload_n hx hb dX8_hear_21 rfl (lv_at hl 1 rfl) ?_
  refine lv_aload_n hx hb dX8_hear_22 rfl (lv_at hl 1 rfl) ?_
  refine lv_aload_n hx hb dX8_hear_23 rfl (lv_at hl 0 rfl) ?_
  refine m_callVE (ci := 3) (As := []) (rest := [.ref (ad 0), .ref (ad 0)]) (c_Question_paperNumber l D ty L ad g q (nI j) tp ak rc sv m_q h_q) ⟨hx, hb, hml, hown, hts⟩ (cwV 0 hts gX8_hear_X3_paperNumber rfl rfl rfl (by decide +kernel) ⟨Nat.le_of_ble_eq_true rfl, Nat.le_of_ble_eq_true rfl⟩) hB m_q h_q rfl rfl hl.1 rfl (Nat.le_of_ble_eq_true rfl) dX8_hear_24 ⟨Nat.le_of_ble_eq_true rfl, Nat.le_of_ble_eq_true rfl⟩ (fun H locs hB => ?_)
  refine m_callVE (ci := 8) (As := [.int (nI j)]) (rest := [.ref (ad 0)]) ((by have h9 := c_X_paperNumber_t l D ty L ad g pn qn nw tr pf j m_0 m_6 h_0 h_6 hj8; rw [hpp] at h9; exact h9 : m_E l yX8_paperNumber wsX8_paperNumber 1 21 D ty [.ref (ad 0), .int (nI j)] L ad g (some (.ref (ad pp))) g)) ⟨hx, hb, hml, hown, hts⟩ (cwV 1 hts gX8_hear_X8_paperNumber rfl rfl rfl (by decide +kernel) ⟨Nat.le_of_ble_eq_true rfl, Nat.le_of_ble_eq_true rfl⟩) hB m_0 h_0 rfl rfl hl.1 rfl (Nat.le_of_ble_eq_true rfl) dX8_hear_27 ⟨Nat.le_of_ble_eq_true rfl, Nat.le_of_ble_eq_true rfl⟩ (fun H locs hB => ?_)
  refine lv_iload_n hx hb dX8_hear_30 rfl (lv_at hl 2 rfl) ?_
  refine m_callVE (ci := 8) (As := [.ref (ad pp), .int (nI b)]) (rest := []) (c_X_isOpen1 l D ty L ad g pn qn nw tr fs fe pp pt vn wd b f m_0 m_3 m_4 m_5 m_pp h_0 h_3 h_4 h_5 h_pp hb6 hf4 hwd) ⟨hx, hb, hml, hown, hts⟩ (cwV 2 hts gX8_hear_X8_isOpen rfl rfl rfl (by decide +kernel) ⟨Nat.le_of_ble_eq_true rfl, Nat.le_of_ble_eq_true rfl⟩) hB m_0 h_0 rfl rfl hl.1 rfl (Nat.le_of_ble_eq_true rfl) dX8_hear_31 ⟨Nat.le_of_ble_eq_true rfl, Nat.le_of_ble_eq_true rfl⟩ (fun H locs hB => ?_)
  refine b_if_ne_t 40 hx hb dX8_hear_34 (by decide) (by rw [hs]; decide) ?_
  refine lv_aload_n hx hb dX8_hear_40 rfl (lv_at hl 0 rfl) ?_
  refine m_callVE (ci := 3) (As := []) (rest := []) (c_Question_isAnswered l D ty L ad g q (nI j) tp ak rc sv m_q h_q) ⟨hx, hb, hml, hown, hts⟩ (cwV 0 hts gX8_hear_X3_isAnswered rfl rfl rfl (by decide +kernel) ⟨Nat.le_of_ble_eq_true rfl, Nat.le_of_ble_eq_true rfl⟩) hB m_q h_q rfl rfl hl.1 rfl (Nat.le_of_ble_eq_true rfl) dX8_hear_41 ⟨Nat.le_of_ble_eq_true rfl, Nat.le_of_ble_eq_true rfl⟩ (fun H locs hB => ?_)
  refine b_if_ne_f 50 hx hb dX8_hear_44 (by decide) (by rw [df (fun h => h hrc)]; decide) ?_
  refine lv_bipush (v := (-2)) hx hb dX8_hear_47 (by decide) ?_
  exact m_iret hx hb hrt hlocks hB (Nat.le_refl _) (Nat.le_refl _) dX8_hear_49 ⟨rfl, rfl, rfl, rfl⟩
set_option maxHeartbeats 1000000 in
set_option maxRecDepth 100000 in
theorem c_X_hear1_yes (l : Launch) (D : va_G) (ty : Nat → ClassId) (L : List Nat) (ad : Nat → Nat) (g : Nat → va_E) (pn qn : Nat) (nw : Int32) (tr : Int64) (pf : Nat → Option Nat) (qf : Nat → Option Nat) (fs fe : Nat → Int32) (pp pt vn : Nat) (wd : Int32) (q j : Nat) (tp ak rc sv : Int32) (k b f : Nat) (m_0 : 0 ∈ L) (m_3 : 3 ∈ L) (m_4 : 4 ∈ L) (m_5 : 5 ∈ L) (m_6 : 6 ∈ L) (m_28 : 28 ∈ L) (m_q : q ∈ L) (m_pp : pp ∈ L) (h_0 : g 0 = .inr (8, [.ref (ad 1), .ref (ad 3), .ref (ad 6), .int (nI pn), .ref (ad 7), .ref (ad 20), .ref (ad 22), .ref (ad 28), .int (nI qn), .ref (ad 29), .int nw, .long tr])) (h_3 : g 3 = .inr (4, [.ref (ad 4), .ref (ad 5)])) (h_4 : g 4 = .inl (ty 0, 12, .inl fs)) (h_5 : g 5 = .inl (ty 0, 12, .inl fe)) (h_6 : g 6 = .inl (ty 4, 8, .inr (.inr (.inr (.inr pf))))) (h_28 : g 28 = .inl (ty 5, 30, .inr (.inr (.inr (.inr qf))))) (h_q : g q = .inr (3, [.int (nI j), .int tp, .int ak, .int rc, .int sv])) (h_pp : g pp = .inr (1, [.int (nI f), .ref (ad pt), .int (nI vn), .int wd])) (hk : k < 30) (hqq : qf k = some (ad q)) (hj8 : j < 8) (hpp : pf j = some (ad pp)) (hb6 : b < 6) (hf4 : f < 4) (hwd : wd = 0 ∨ wd = 1) (hs : (opn wd fs fe (b % 3 * 4 + f) nw) = true) (hrc : ¬ rc = 0) (hfor : rc = 2 ∨ (ak >>> (nI b &&& 31)) &&& 1 = 1) : m_E l yX8_hear wsX8_hear 5 113 D ty [.ref (ad 0), .int (nI b), .int (nI k)] L ad g (some (.int sv)) g := by
  intro sz
  refine Met.ofW (cc := cX8_hear) (maxL := 4) (ret := (some .int)) (by decide) rfl ?_
  intro p e s m args below meth c s₁ B hml hv
  have hx := B.exec
  have hb := B.bytes
  have hrt := B.returns
  have hts := atoms_spec (ws := wsX8_hear) B.pre
  have hown : s.vm.findClass RX8 = some m.cls := findClass_of_methodNamed B.named
  have hlocks := B.notSynchronized
  obtain ⟨rfl, hB⟩ := m_start hv
  generalize va_A (m_w L ad g) sz = A at hB ⊢
  generalize s.heap = H at hB ⊢
  generalize ([] : List Loc) = locs at hB ⊢
  have hl := lv_entry ([.ref (ad 0), .int (nI b), .int (nI k)]) (n := 4) (Nat.le_of_ble_eq_true rfl)
  rw [lg_entry_eq]
  generalize (lg_sl ([.ref (ad 0), .int (nI b), .int (nI k)]) ++ List.replicate (4 - (lg_sl ([.ref (ad 0), .int (nI b), .int (nI k)])).length) Slot.unset).toArray = ls at hl ⊢
  have hl : lv_has ls 4 [(0, .ref (ad 0)), (1, .int (nI b)), (2, .int (nI k))] := hl
  have tI_b : (nI b).toInt = (b : Int) := nI_toInt (by omega)
  have l6 : (6 : Int32).toInt = 6 := by decide
  refine lv_aload_n hx hb dX8_hear_0 rfl (lv_at hl 0 rfl) ?_
  refine lv_iload_n hx hb dX8_hear_1 rfl (lv_at hl 2 rfl) ?_
  refine m_callVE (ci := 8) (As := [.int (nI k)]) (rest := []) ((by have h9 := c_X_questionNumber_t l D ty L ad g pn qn nw tr qf k m_0 m_28 h_0 h_28 hk; rw [hqq] at h9; exact h9 : m_E l yX8_questionNumber wsX8_questionNumber 1 21 D ty [.ref (ad 0), .int (nI k)] L ad g (some (.ref (ad q))) g)) ⟨hx, hb, hml, hown, hts⟩ (cwV 1 hts gX8_hear_X8_questionNumber rfl rfl rfl (by decide +kernel) ⟨Nat.le_of_ble_eq_true rfl, Nat.le_of_ble_eq_true rfl⟩) hB m_0 h_0 rfl rfl hl.1 rfl (Nat.le_of_ble_eq_true rfl) dX8_hear_2 ⟨Nat.le_of_ble_eq_true rfl, Nat.le_of_ble_eq_true rfl⟩ (fun H locs hB => ?_)
  refine lv_astore_n (lv' := [(3, .ref (ad q)), (0, .ref (ad 0)), (1, .int (nI b)), (2, .int (nI k))]) hx hb dX8_hear_5 rfl hl (by decide) rfl (fun ls hl => ?_)
  refine lv_iload_n hx hb dX8_hear_6 rfl (lv_at hl 2 rfl) ?_
  refine lv_bipush (v := 6) hx hb dX8_hear_7 (by decide) ?_
  refine m_callSE (As := [.int (nI b), .int 6]) (rest := []) (c_isBelow_t l D ty L ad _ _ _ (by omega) (by omega)) ⟨hx, hb, hml, hown, hts⟩ (va_cwS 2 hts gX8_hear_X8_isBelow rfl rfl rfl (by decide +kernel) ⟨Nat.le_of_ble_eq_true rfl, Nat.le_of_ble_eq_true rfl⟩) hB rfl hl.1 rfl (Nat.le_of_ble_eq_true rfl) dX8_hear_9 ⟨Nat.le_of_ble_eq_true rfl, Nat.le_of_ble_eq_true rfl⟩ (fun H locs hB => ?_)
  refine b_if_eq_f 19 hx hb dX8_hear_12 (by decide) (by decide) ?_
  refine lv_aload_n hx hb dX8_hear_15 rfl (lv_at hl 0 rfl) ?_
  refine lv_ifnonnull (tgt := 21) hx hb dX8_hear_16 (by decide) ?_
  refine lv_aload_n hx hb dX8_hear_21 rfl (lv_at hl 1 rfl) ?_
  refine lv_aload_n hx hb dX8_hear_22 rfl (lv_at hl 1 rfl) ?_
  refine lv_aload_n hx hb dX8_hear_23 rfl (lv_at hl 0 rfl) ?_
  refine m_callVE (ci := 3) (As := []) (rest := [.ref (ad 0), .ref (ad 0)]) (c_Question_paperNumber l D ty L ad g q (nI j) tp ak rc sv m_q h_q) ⟨hx, hb, hml, hown, hts⟩ (cwV 0 hts gX8_hear_X3_paperNumber rfl rfl rfl (by decide +kernel) ⟨Nat.le_of_ble_eq_true rfl, Nat.le_of_ble_eq_true rfl⟩) hB m_q h_q rfl rfl hl.1 rfl (Nat.le_of_ble_eq_true rfl) dX8_hear_24 ⟨Nat.le_of_ble_eq_true rfl, Nat.le_of_ble_eq_true rfl⟩ (fun H locs hB => ?_)
  refine m_callVE (ci := 8) (As := [.int (nI j)]) (rest := [.ref (ad 0)]) ((by have h9 := c_X_paperNumber_t l D ty L ad g pn qn nw tr pf j m_0 m_6 h_0 h_6 hj8; rw [hpp] at h9; exact h9 : m_E l yX8_paperNumber wsX8_paperNumber 1 21 D ty [.ref (ad 0), .int (nI j)] L ad g (some (.ref (ad pp))) g)) ⟨hx, hb, hml, hown, hts⟩ (cwV 1 hts gX8_hear_X8_paperNumber rfl rfl rfl (by decide +kernel) ⟨Nat.le_of_ble_eq_true rfl, Nat.le_of_ble_eq_true rfl⟩) hB m_0 h_0 rfl rfl hl.1 rfl (Nat.le_of_ble_eq_true rfl) dX8_hear_27 ⟨Nat.le_of_ble_eq_true rfl, Nat.le_of_ble_eq_true rfl⟩ (fun H locs hB => ?_)
  refine lv_iload_n hx hb dX8_hear_30 rfl (lv_at hl 2 rfl) ?_
  refine m_callVE (ci := 8) (As := [.ref (ad pp), .int (nI b)]) (rest := []) (c_X_isOpen1 l D ty L ad g pn qn nw tr fs fe pp pt vn wd b f m_0 m_3 m_4 m_5 m_pp h_0 h_3 h_4 h_5 h_pp hb6 hf4 hwd) ⟨hx, hb, hml, hown, hts⟩ (cwV 2 hts gX8_hear_X8_isOpen rfl rfl rfl (by decide +kernel) ⟨Nat.le_of_ble_eq_true rfl, Nat.le_of_ble_eq_true rfl⟩) hB m_0 h_0 rfl rfl hl.1 rfl (Nat.le_of_ble_eq_true rfl) dX8_hear_31 ⟨Nat.le_of_ble_eq_true rfl, Nat.le_of_ble_eq_true rfl⟩ (fun H locs hB => ?_)
  refine b_if_ne_t 40 hx hb dX8_hear_34 (by decide) (by rw [hs]; decide) ?_
  refine lv_aload_n hx hb dX8_hear_40 rfl (lv_at hl 0 rfl) ?_
  refine m_callVE (ci := 3) (As := []) (rest := []) (c_Question_isAnswered l D ty L ad g q (nI j) tp ak rc sv m_q h_q) ⟨hx, hb, hml, hown, hts⟩ (cwV 0 hts gX8_hear_X3_isAnswered rfl rfl rfl (by decide +kernel) ⟨Nat.le_of_ble_eq_true rfl, Nat.le_of_ble_eq_true rfl⟩) hB m_q h_q rfl rfl hl.1 rfl (Nat.le_of_ble_eq_true rfl) dX8_hear_41 ⟨Nat.le_of_ble_eq_true rfl, Nat.le_of_ble_eq_true rfl⟩ (fun H locs hB => ?_)
  refine b_if_ne_t 50 hx hb dX8_hear_44 (by decide) (by rw [dt hrc]; decide) ?_
  refine lv_aload_n hx hb dX8_hear_50 rfl (lv_at hl 0 rfl) ?_
  refine lv_iload_n hx hb dX8_hear_51 rfl (lv_at hl 2 rfl) ?_
  refine m_callVE (ci := 3) (As := [.int (nI b)]) (rest := []) (c_Question_isFor l D ty L ad g q (nI j) tp ak rc sv (nI b) m_q h_q) ⟨hx, hb, hml, hown, hts⟩ (cwV 1 hts gX8_hear_X3_isFor rfl rfl rfl (by decide +kernel) ⟨Nat.le_of_ble_eq_true rfl, Nat.le_of_ble_eq_true rfl⟩) hB m_q h_q rfl rfl hl.1 rfl (Nat.le_of_ble_eq_true rfl) dX8_hear_52 ⟨Nat.le_of_ble_eq_true rfl, Nat.le_of_ble_eq_true rfl⟩ (fun H locs hB => ?_)
  refine b_if_eq_f 65 hx hb dX8_hear_55 (by decide) (by rw [dt hfor]; decide) ?_
  refine lv_aload_n hx hb dX8_hear_58 rfl (lv_at hl 0 rfl) ?_
  refine m_callVE (ci := 3) (As := []) (rest := []) (c_Question_settled l D ty L ad g q (nI j) tp ak rc sv m_q h_q) ⟨hx, hb, hml, hown, hts⟩ (cwV 0 hts gX8_hear_X3_settled rfl rfl rfl (by decide +kernel) ⟨Nat.le_of_ble_eq_true rfl, Nat.le_of_ble_eq_true rfl⟩) hB m_q h_q rfl rfl hl.1 rfl (Nat.le_of_ble_eq_true rfl) dX8_hear_59 ⟨Nat.le_of_ble_eq_true rfl, Nat.le_of_ble_eq_true rfl⟩ (fun H locs hB => ?_)
  refine lv_goto (tgt := 67) hx hb dX8_hear_62 (by decide) ?_
  exact m_iret hx hb hrt hlocks hB (Nat.le_refl _) (Nat.le_refl _) dX8_hear_67 ⟨rfl, rfl, rfl, rfl⟩
set_option maxHeartbeats 1000000 in
set_option maxRecDepth 100000 in
theorem c_X_hear1_other (l : Launch) (D : va_G) (ty : Nat → ClassId) (L : List Nat) (ad : Nat → Nat) (g : Nat → va_E) (pn qn : Nat) (nw : Int32) (tr : Int64) (pf : Nat → Option Nat) (qf : Nat → Option Nat) (fs fe : Nat → Int32) (pp pt vn : Nat) (wd : Int32) (q j : Nat) (tp ak rc sv : Int32) (k b f : Nat) (m_0 : 0 ∈ L) (m_3 : 3 ∈ L) (m_4 : 4 ∈ L) (m_5 : 5 ∈ L) (m_6 : 6 ∈ L) (m_28 : 28 ∈ L) (m_q : q ∈ L) (m_pp : pp ∈ L) (h_0 : g 0 = .inr (8, [.ref (ad 1), .ref (ad 3), .ref (ad 6), .int (nI pn), .ref (ad 7), .ref (ad 20), .ref (ad 22), .ref (ad 28), .int (nI qn), .ref (ad 29), .int nw, .long tr])) (h_3 : g 3 = .inr (4, [.ref (ad 4), .ref (ad 5)])) (h_4 : g 4 = .inl (ty 0, 12, .inl fs)) (h_5 : g 5 = .inl (ty 0, 12, .inl fe)) (h_6 : g 6 = .inl (ty 4, 8, .inr (.inr (.inr (.inr pf))))) (h_28 : g 28 = .inl (ty 5, 30, .inr (.inr (.inr (.inr qf))))) (h_q : g q = .inr (3, [.int (nI j), .int tp, .int ak, .int rc, .int sv])) (h_pp : g pp = .inr (1, [.int (nI f), .ref (ad pt), .int (nI vn), .int wd])) (hk : k < 30) (hqq : qf k = some (ad q)) (hj8 : j < 8) (hpp : pf j = some (ad pp)) (hb6 : b < 6) (hf4 : f < 4) (hwd : wd = 0 ∨ wd = 1) (hs : (opn wd fs fe (b % 3 * 4 + f) nw) = true) (hrc : ¬ rc = 0) (hfor : ¬ (rc = 2 ∨ (ak >>> (nI b &&& 31)) &&& 1 = 1)) : m_E l yX8_hear wsX8_hear 5 113 D ty [.ref (ad 0), .int (nI b), .int (nI k)] L ad g (some (.int (-4))) g := by
  intro sz
  refine Met.ofW (cc := cX8_hear) (maxL := 4) (ret := (some .int)) (by decide) rfl ?_
  intro p e s m args below meth c s₁ B hml hv
  have hx := B.exec
  have hb := B.bytes
  have hrt := B.returns
  have hts := atoms_spec (ws := wsX8_hear) B.pre
  have hown : s.vm.findClass RX8 = some m.cls := findClass_of_methodNamed B.named
  have hlocks := B.notSynchronized
  obtain ⟨rfl, hB⟩ := m_start hv
  generalize va_A (m_w L ad g) sz = A at hB ⊢
  generalize s.heap = H at hB ⊢
  generalize ([] : List Loc) = locs at hB ⊢
  have hl := lv_entry ([.ref (ad 0), .int (nI b), .int (nI k)]) (n := 4) (Nat.le_of_ble_eq_true rfl)
  rw [lg_entry_eq]
  generalize (lg_sl ([.ref (ad 0), .int (nI b), .int (nI k)]) ++ List.replicate (4 - (lg_sl ([.ref (ad 0), .int (nI b), .int (nI k)])).length) Slot.unset).toArray = ls at hl ⊢
  have hl : lv_has ls 4 [(0, .ref (ad 0)), (1, .int (nI b)), (2, .int (nI k))] := hl
  have tI_b : (nI b).toInt = (b : Int) := nI_toInt (by omega)
  have l6 : (6 : Int32).toInt = 6 := by decide
  refine lv_aload_n hx hb dX8_hear_0 rfl (lv_at hl 0 rfl) ?_
  refine lv_iload_n hx hb dX8_hear_1 rfl (lv_at hl 2 rfl) ?_
  refine m_callVE (ci := 8) (As := [.int (nI k)]) (rest := []) ((by have h9 := c_X_questionNumber_t l D ty L ad g pn qn nw tr qf k m_0 m_28 h_0 h_28 hk; rw [hqq] at h9; exact h9 : m_E l yX8_questionNumber wsX8_questionNumber 1 21 D ty [.ref (ad 0), .int (nI k)] L ad g (some (.ref (ad q))) g)) ⟨hx, hb, hml, hown, hts⟩ (cwV 1 hts gX8_hear_X8_questionNumber rfl rfl rfl (by decide +kernel) ⟨Nat.le_of_ble_eq_true rfl, Nat.le_of_ble_eq_true rfl⟩) hB m_0 h_0 rfl rfl hl.1 rfl (Nat.le_of_ble_eq_true rfl) dX8_hear_2 ⟨Nat.le_of_ble_eq_true rfl, Nat.le_of_ble_eq_true rfl⟩ (fun H locs hB => ?_)
  refine lv_astore_n (lv' := [(3, .ref (ad q)), (0, .ref (ad 0)), (1, .int (nI b)), (2, .int (nI k))]) hx hb dX8_hear_5 rfl hl (by decide) rfl (fun ls hl => ?_)
  refine lv_iload_n hx hb dX8_hear_6 rfl (lv_at hl 2 rfl) ?_
  refine lv_bipush (v := 6) hx hb dX8_hear_7 (by decide) ?_
  refine m_callSE (As := [.int (nI b), .int 6]) (rest := []) (c_isBelow_t l D ty L ad _ _ _ (by omega) (by omega)) ⟨hx, hb, hml, hown, hts⟩ (va_cwS 2 hts gX8_hear_X8_isBelow rfl rfl rfl (by decide +kernel) ⟨Nat.le_of_ble_eq_true rfl, Nat.le_of_ble_eq_true rfl⟩) hB rfl hl.1 rfl (Nat.le_of_ble_eq_true rfl) dX8_hear_9 ⟨Nat.le_of_ble_eq_true rfl, Nat.le_of_ble_eq_true rfl⟩ (fun H locs hB => ?_)
  refine b_if_eq_f 19 hx hb dX8_hear_12 (by decide) (by decide) ?_
  refine lv_aload_n hx hb dX8_hear_15 rfl (lv_at hl 0 rfl) ?_
  refine lv_ifnonnull (tgt := 21) hx hb dX8_hear_16 (by decide) ?_
  refine lv_aload_n hx hb dX8_hear_21 rfl (lv_at hl 1 rfl) ?_
  refine lv_aload_n hx hb dX8_hear_22 rfl (lv_at hl 1 rfl) ?_
  refine lv_aload_n hx hb dX8_hear_23 rfl (lv_at hl 0 rfl) ?_
  refine m_callVE (ci := 3) (As := []) (rest := [.ref (ad 0), .ref (ad 0)]) (c_Question_paperNumber l D ty L ad g q (nI j) tp ak rc sv m_q h_q) ⟨hx, hb, hml, hown, hts⟩ (cwV 0 hts gX8_hear_X3_paperNumber rfl rfl rfl (by decide +kernel) ⟨Nat.le_of_ble_eq_true rfl, Nat.le_of_ble_eq_true rfl⟩) hB m_q h_q rfl rfl hl.1 rfl (Nat.le_of_ble_eq_true rfl) dX8_hear_24 ⟨Nat.le_of_ble_eq_true rfl, Nat.le_of_ble_eq_true rfl⟩ (fun H locs hB => ?_)
  refine m_callVE (ci := 8) (As := [.int (nI j)]) (rest := [.ref (ad 0)]) ((by have h9 := c_X_paperNumber_t l D ty L ad g pn qn nw tr pf j m_0 m_6 h_0 h_6 hj8; rw [hpp] at h9; exact h9 : m_E l yX8_paperNumber wsX8_paperNumber 1 21 D ty [.ref (ad 0), .int (nI j)] L ad g (some (.ref (ad pp))) g)) ⟨hx, hb, hml, hown, hts⟩ (cwV 1 hts gX8_hear_X8_paperNumber rfl rfl rfl (by decide +kernel) ⟨Nat.le_of_ble_eq_true rfl, Nat.le_of_ble_eq_true rfl⟩) hB m_0 h_0 rfl rfl hl.1 rfl (Nat.le_of_ble_eq_true rfl) dX8_hear_27 ⟨Nat.le_of_ble_eq_true rfl, Nat.le_of_ble_eq_true rfl⟩ (fun H locs hB => ?_)
  refine lv_iload_n hx hb dX8_hear_30 rfl (lv_at hl 2 rfl) ?_
  refine m_callVE (ci := 8) (As := [.ref (ad pp), .int (nI b)]) (rest := []) (c_X_isOpen1 l D ty L ad g pn qn nw tr fs fe pp pt vn wd b f m_0 m_3 m_4 m_5 m_pp h_0 h_3 h_4 h_5 h_pp hb6 hf4 hwd) ⟨hx, hb, hml, hown, hts⟩ (cwV 2 hts gX8_hear_X8_isOpen rfl rfl rfl (by decide +kernel) ⟨Nat.le_of_ble_eq_true rfl, Nat.le_of_ble_eq_true rfl⟩) hB m_0 h_0 rfl rfl hl.1 rfl (Nat.le_of_ble_eq_true rfl) dX8_hear_31 ⟨Nat.le_of_ble_eq_true rfl, Nat.le_of_ble_eq_true rfl⟩ (fun H locs hB => ?_)
  refine b_if_ne_t 40 hx hb dX8_hear_34 (by decide) (by rw [hs]; decide) ?_
  refine lv_aload_n hx hb dX8_hear_40 rfl (lv_at hl 0 rfl) ?_
  refine m_callVE (ci := 3) (As := []) (rest := []) (c_Question_isAnswered l D ty L ad g q (nI j) tp ak rc sv m_q h_q) ⟨hx, hb, hml, hown, hts⟩ (cwV 0 hts gX8_hear_X3_isAnswered rfl rfl rfl (by decide +kernel) ⟨Nat.le_of_ble_eq_true rfl, Nat.le_of_ble_eq_true rfl⟩) hB m_q h_q rfl rfl hl.1 rfl (Nat.le_of_ble_eq_true rfl) dX8_hear_41 ⟨Nat.le_of_ble_eq_true rfl, Nat.le_of_ble_eq_true rfl⟩ (fun H locs hB => ?_)
  refine b_if_ne_t 50 hx hb dX8_hear_44 (by decide) (by rw [dt hrc]; decide) ?_
  refine lv_aload_n hx hb dX8_hear_50 rfl (lv_at hl 0 rfl) ?_
  refine lv_iload_n hx hb dX8_hear_51 rfl (lv_at hl 2 rfl) ?_
  refine m_callVE (ci := 3) (As := [.int (nI b)]) (rest := []) (c_Question_isFor l D ty L ad g q (nI j) tp ak rc sv (nI b) m_q h_q) ⟨hx, hb, hml, hown, hts⟩ (cwV 1 hts gX8_hear_X3_isFor rfl rfl rfl (by decide +kernel) ⟨Nat.le_of_ble_eq_true rfl, Nat.le_of_ble_eq_true rfl⟩) hB m_q h_q rfl rfl hl.1 rfl (Nat.le_of_ble_eq_true rfl) dX8_hear_52 ⟨Nat.le_of_ble_eq_true rfl, Nat.le_of_ble_eq_true rfl⟩ (fun H locs hB => ?_)
  refine b_if_eq_t 65 hx hb dX8_hear_55 (by decide) (by rw [df hfor]; decide) ?_
  refine lv_bipush (v := (-4)) hx hb dX8_hear_65 (by decide) ?_
  exact m_iret hx hb hrt hlocks hB (Nat.le_refl _) (Nat.le_refl _) dX8_hear_67 ⟨rfl, rfl, rfl, rfl⟩
set_option maxHeartbeats 1000000 in
set_option maxRecDepth 100000 in
theorem c_X_hear2_no (l : Launch) (D : va_G) (ty : Nat → ClassId) (L : List Nat) (ad : Nat → Nat) (g : Nat → va_E) (pn qn : Nat) (nw : Int32) (tr : Int64) (pf : Nat → Option Nat) (qf : Nat → Option Nat) (fs fe : Nat → Int32) (pp pt vn : Nat) (wd : Int32) (q j : Nat) (tp ak rc sv : Int32) (k b f : Nat) (m_0 : 0 ∈ L) (m_3 : 3 ∈ L) (m_4 : 4 ∈ L) (m_5 : 5 ∈ L) (m_6 : 6 ∈ L) (m_28 : 28 ∈ L) (m_q : q ∈ L) (m_pp : pp ∈ L) (h_0 : g 0 = .inr (8, [.ref (ad 1), .ref (ad 3), .ref (ad 6), .int (nI pn), .ref (ad 7), .ref (ad 20), .ref (ad 22), .ref (ad 28), .int (nI qn), .ref (ad 29), .int nw, .long tr])) (h_3 : g 3 = .inr (4, [.ref (ad 4), .ref (ad 5)])) (h_4 : g 4 = .inl (ty 0, 12, .inl fs)) (h_5 : g 5 = .inl (ty 0, 12, .inl fe)) (h_6 : g 6 = .inl (ty 4, 8, .inr (.inr (.inr (.inr pf))))) (h_28 : g 28 = .inl (ty 5, 30, .inr (.inr (.inr (.inr qf))))) (h_q : g q = .inr (3, [.int (nI j), .int tp, .int ak, .int rc, .int sv])) (h_pp : g pp = .inr (2, [.int (nI f), .ref (ad pt), .int (nI vn), .int wd])) (hk : k < 30) (hqq : qf k = some (ad q)) (hj8 : j < 8) (hpp : pf j = some (ad pp)) (hb6 : b < 6) (hf4 : f < 4) (hwd : wd = 0 ∨ wd = 1) (hs : (opn wd fs fe (b % 3 * 4 + f) nw) = false) : m_E l yX8_hear wsX8_hear 5 113 D ty [.ref (ad 0), .int (nI b), .int (nI k)] L ad g (some (.int (-4))) g := by
  intro sz
  refine Met.ofW (cc := cX8_hear) (maxL := 4) (ret := (some .int)) (by decide) rfl ?_
  intro p e s m args below meth c s₁ B hml hv
  have hx := B.exec
  have hb := B.bytes
  have hrt := B.returns
  have hts := atoms_spec (ws := wsX8_hear) B.pre
  have hown : s.vm.findClass RX8 = some m.cls := findClass_of_methodNamed B.named
  have hlocks := B.notSynchronized
  obtain ⟨rfl, hB⟩ := m_start hv
  generalize va_A (m_w L ad g) sz = A at hB ⊢
  generalize s.heap = H at hB ⊢
  generalize ([] : List Loc) = locs at hB ⊢
  have hl := lv_entry ([.ref (ad 0), .int (nI b), .int (nI k)]) (n := 4) (Nat.le_of_ble_eq_true rfl)
  rw [lg_entry_eq]
  generalize (lg_sl ([.ref (ad 0), .int (nI b), .int (nI k)]) ++ List.replicate (4 - (lg_sl ([.ref (ad 0), .int (nI b), .int (nI k)])).length) Slot.unset).toArray = ls at hl ⊢
  have hl : lv_has ls 4 [(0, .ref (ad 0)), (1, .int (nI b)), (2, .int (nI k))] := hl
  have tI_b : (nI b).toInt = (b : Int) := nI_toInt (by omega)
  have l6 : (6 : Int32).toInt = 6 := by decide
  refine lv_aload_n hx hb dX8_hear_0 rfl (lv_at hl 0 rfl) ?_
  refine lv_iload_n hx hb dX8_hear_1 rfl (lv_at hl 2 rfl) ?_
  refine m_callVE (ci := 8) (As := [.int (nI k)]) (rest := []) ((by have h9 := c_X_questionNumber_t l D ty L ad g pn qn nw tr qf k m_0 m_28 h_0 h_28 hk; rw [hqq] at h9; exact h9 : m_E l yX8_questionNumber wsX8_questionNumber 1 21 D ty [.ref (ad 0), .int (nI k)] L ad g (some (.ref (ad q))) g)) ⟨hx, hb, hml, hown, hts⟩ (cwV 1 hts gX8_hear_X8_questionNumber rfl rfl rfl (by decide +kernel) ⟨Nat.le_of_ble_eq_true rfl, Nat.le_of_ble_eq_true rfl⟩) hB m_0 h_0 rfl rfl hl.1 rfl (Nat.le_of_ble_eq_true rfl) dX8_hear_2 ⟨Nat.le_of_ble_eq_true rfl, Nat.le_of_ble_eq_true rfl⟩ (fun H locs hB => ?_)
  refine lv_astore_n (lv' := [(3, .ref (ad q)), (0, .ref (ad 0)), (1, .int (nI b)), (2, .int (nI k))]) hx hb dX8_hear_5 rfl hl (by decide) rfl (fun ls hl => ?_)
  refine lv_iload_n hx hb dX8_hear_6 rfl (lv_at hl 2 rfl) ?_
  refine lv_bipush (v := 6) hx hb dX8_hear_7 (by decide) ?_
  refine m_callSE (As := [.int (nI b), .int 6]) (rest := []) (c_isBelow_t l D ty L ad _ _ _ (by omega) (by omega)) ⟨hx, hb, hml, hown, hts⟩ (va_cwS 2 hts gX8_hear_X8_isBelow rfl rfl rfl (by decide +kernel) ⟨Nat.le_of_ble_eq_true rfl, Nat.le_of_ble_eq_true rfl⟩) hB rfl hl.1 rfl (Nat.le_of_ble_eq_true rfl) dX8_hear_9 ⟨Nat.le_of_ble_eq_true rfl, Nat.le_of_ble_eq_true rfl⟩ (fun H locs hB => ?_)
  refine b_if_eq_f 19 hx hb dX8_hear_12 (by decide) (by decide) ?_
  refine lv_aload_n hx hb dX8_hear_15 rfl (lv_at hl 0 rfl) ?_
  refine lv_ifnonnull (tgt := 21) hx hb dX8_hear_16 (by decide) ?_
  refine lv_aload_n hx hb dX8_hear_21 rfl (lv_at hl 1 rfl) ?_
  refine lv_aload_n hx hb dX8_hear_22 rfl (lv_at hl 1 rfl) ?_
  refine lv_aload_n hx hb dX8_hear_23 rfl (lv_at hl 0 rfl) ?_
  refine m_callVE (ci := 3) (As := []) (rest := [.ref (ad 0), .ref (ad 0)]) (c_Question_paperNumber l D ty L ad g q (nI j) tp ak rc sv m_q h_q) ⟨hx, hb, hml, hown, hts⟩ (cwV 0 hts gX8_hear_X3_paperNumber rfl rfl rfl (by decide +kernel) ⟨Nat.le_of_ble_eq_true rfl, Nat.le_of_ble_eq_true rfl⟩) hB m_q h_q rfl rfl hl.1 rfl (Nat.le_of_ble_eq_true rfl) dX8_hear_24 ⟨Nat.le_of_ble_eq_true rfl, Nat.le_of_ble_eq_true rfl⟩ (fun H locs hB => ?_)
  refine m_callVE (ci := 8) (As := [.int (nI j)]) (rest := [.ref (ad 0)]) ((by have h9 := c_X_paperNumber_t l D ty L ad g pn qn nw tr pf j m_0 m_6 h_0 h_6 hj8; rw [hpp] at h9; exact h9 : m_E l yX8_paperNumber wsX8_paperNumber 1 21 D ty [.ref (ad 0), .int (nI j)] L ad g (some (.ref (ad pp))) g)) ⟨hx, hb, hml, hown, hts⟩ (cwV 1 hts gX8_hear_X8_paperNumber rfl rfl rfl (by decide +kernel) ⟨Nat.le_of_ble_eq_true rfl, Nat.le_of_ble_eq_true rfl⟩) hB m_0 h_0 rfl rfl hl.1 rfl (Nat.le_of_ble_eq_true rfl) dX8_hear_27 ⟨Nat.le_of_ble_eq_true rfl, Nat.le_of_ble_eq_true rfl⟩ (fun H locs hB => ?_)
  refine lv_iload_n hx hb dX8_hear_30 rfl (lv_at hl 2 rfl) ?_
  refine m_callVE (ci := 8) (As := [.ref (ad pp), .int (nI b)]) (rest := []) (c_X_isOpen2 l D ty L ad g pn qn nw tr fs fe pp pt vn wd b f m_0 m_3 m_4 m_5 m_pp h_0 h_3 h_4 h_5 h_pp hb6 hf4 hwd) ⟨hx, hb, hml, hown, hts⟩ (cwV 2 hts gX8_hear_X8_isOpen rfl rfl rfl (by decide +kernel) ⟨Nat.le_of_ble_eq_true rfl, Nat.le_of_ble_eq_true rfl⟩) hB m_0 h_0 rfl rfl hl.1 rfl (Nat.le_of_ble_eq_true rfl) dX8_hear_31 ⟨Nat.le_of_ble_eq_true rfl, Nat.le_of_ble_eq_true rfl⟩ (fun H locs hB => ?_)
  refine b_if_ne_f 40 hx hb dX8_hear_34 (by decide) (by rw [hs]; decide) ?_
  refine lv_bipush (v := (-4)) hx hb dX8_hear_37 (by decide) ?_
  exact m_iret hx hb hrt hlocks hB (Nat.le_refl _) (Nat.le_refl _) dX8_hear_39 ⟨rfl, rfl, rfl, rfl⟩
set_option maxHeartbeats 1000000 in
set_option maxRecDepth 100000 in
theorem c_X_hear2_state (l : Launch) (D : va_G) (ty : Nat → ClassId) (L : List Nat) (ad : Nat → Nat) (g : Nat → va_E) (pn qn : Nat) (nw : Int32) (tr : Int64) (pf : Nat → Option Nat) (qf : Nat → Option Nat) (fs fe : Nat → Int32) (pp pt vn : Nat) (wd : Int32) (q j : Nat) (tp ak rc sv : Int32) (k b f : Nat) (m_0 : 0 ∈ L) (m_3 : 3 ∈ L) (m_4 : 4 ∈ L) (m_5 : 5 ∈ L) (m_6 : 6 ∈ L) (m_28 : 28 ∈ L) (m_q : q ∈ L) (m_pp : pp ∈ L) (h_0 : g 0 = .inr (8, [.ref (ad 1), .ref (ad 3), .ref (ad 6), .int (nI pn), .ref (ad 7), .ref (ad 20), .ref (ad 22), .ref (ad 28), .int (nI qn), .ref (ad 29), .int nw, .long tr])) (h_3 : g 3 = .inr (4, [.ref (ad 4), .ref (ad 5)])) (h_4 : g 4 = .inl (ty 0, 12, .inl fs)) (h_5 : g 5 = .inl (ty 0, 12, .inl fe)) (h_6 : g 6 = .inl (ty 4, 8, .inr (.inr (.inr (.inr pf))))) (h_28 : g 28 = .inl (ty 5, 30, .inr (.inr (.inr (.inr qf))))) (h_q : g q = .inr (3, [.int (nI j), .int tp, .int ak, .int rc, .int sv])) (h_pp : g pp = .inr (2, [.int (nI f), .ref (ad pt), .int (nI vn), .int wd])) (hk : k < 30) (hqq : qf k = some (ad q)) (hj8 : j < 8) (hpp : pf j = some (ad pp)) (hb6 : b < 6) (hf4 : f < 4) (hwd : wd = 0 ∨ wd = 1) (hs : (opn wd fs fe (b % 3 * 4 + f) nw) = true) (hrc : rc = 0) : m_E l yX8_hear wsX8_hear 5 113 D ty [.ref (ad 0), .int (nI b), .int (nI k)] L ad g (some (.int (-2))) g := by
  intro sz
  refine Met.ofW (cc := cX8_hear) (maxL := 4) (ret := (some .int)) (by decide) rfl ?_
  intro p e s m args below meth c s₁ B hml hv
  have hx := B.exec
  have hb := B.bytes
  have hrt := B.returns
  have hts := atoms_spec (ws := wsX8_hear) B.pre
  have hown : s.vm.findClass RX8 = some m.cls := findClass_of_methodNamed B.named
  have hlocks := B.notSynchronized
  obtain ⟨rfl, hB⟩ := m_start hv
  generalize va_A (m_w L ad g) sz = A at hB ⊢
  generalize s.heap = H at hB ⊢
  generalize ([] : List Loc) = locs at hB ⊢
  have hl := lv_entry ([.ref (ad 0), .int (nI b), .int (nI k)]) (n := 4) (Nat.le_of_ble_eq_true rfl)
  rw [lg_entry_eq]
  generalize (lg_sl ([.ref (ad 0), .int (nI b), .int (nI k)]) ++ List.replicate (4 - (lg_sl ([.ref (ad 0), .int (nI b), .int (nI k)])).length) Slot.unset).toArray = ls at hl ⊢
  have hl : lv_has ls 4 [(0, .ref (ad 0)), (1, .int (nI b)), (2, .int (nI k))] := hl
  have tI_b : (nI b).toInt = (b : Int) := nI_toInt (by omega)
  have l6 : (6 : Int32).toInt = 6 := by decide
  refine lv_aload_n hx hb dX8_hear_0 rfl (lv_at hl 0 rfl) ?_
  refine lv_iload_n hx hb dX8_hear_1 rfl (lv_at hl 2 rfl) ?_
  refine m_callVE (ci := 8) (As := [.int (nI k)]) (rest := []) ((by have h9 := c_X_questionNumber_t l D ty L ad g pn qn nw tr qf k m_0 m_28 h_0 h_28 hk; rw [hqq] at h9; exact h9 : m_E l yX8_questionNumber wsX8_questionNumber 1 21 D ty [.ref (ad 0), .int (nI k)] L ad g (some (.ref (ad q))) g)) ⟨hx, hb, hml, hown, hts⟩ (cwV 1 hts gX8_hear_X8_questionNumber rfl rfl rfl (by decide +kernel) ⟨Nat.le_of_ble_eq_true rfl, Nat.le_of_ble_eq_true rfl⟩) hB m_0 h_0 rfl rfl hl.1 rfl (Nat.le_of_ble_eq_true rfl) dX8_hear_2 ⟨Nat.le_of_ble_eq_true rfl, Nat.le_of_ble_eq_true rfl⟩ (fun H locs hB => ?_)
  refine lv_astore_n (lv' := [(3, .ref (ad q)), (0, .ref (ad 0)), (1, .int (nI b)), (2, .int (nI k))]) hx hb dX8_hear_5 rfl hl (by decide) rfl (fun ls hl => ?_)
  refine lv_iload_n hx hb dX8_hear_6 rfl (lv_at hl 2 rfl) ?_
  refine lv_bipush (v := 6) hx hb dX8_hear_7 (by decide) ?_
  refine m_callSE (As := [.int (nI b), .int 6]) (rest := []) (c_isBelow_t l D ty L ad _ _ _ (by omega) (by omega)) ⟨hx, hb, hml, hown, hts⟩ (va_cwS 2 hts gX8_hear_X8_isBelow rfl rfl rfl (by decide +kernel) ⟨Nat.le_of_ble_eq_true rfl, Nat.le_of_ble_eq_true rfl⟩) hB rfl hl.1 rfl (Nat.le_of_ble_eq_true rfl) dX8_hear_9 ⟨Nat.le_of_ble_eq_true rfl, Nat.le_of_ble_eq_true rfl⟩ (fun H locs hB => ?_)
  refine b_if_eq_f 19 hx hb dX8_hear_12 (by decide) (by decide) ?_
  refine lv_aload_n hx hb dX8_hear_15 rfl (lv_at hl 0 rfl) ?_
  refine lv_ifnonnull (tgt := 21) hx hb dX8_hear_16 (by decide) ?_
  refine lv_aload_n hx hb dX8_hear_21 rfl (lv_at hl 1 rfl) ?_
  refine lv_aload_n hx hb dX8_hear_22 rfl (lv_at hl 1 rfl) ?_
  refine lv_aload_n hx hb dX8_hear_23 rfl (lv_at hl 0 rfl) ?_
  refine m_callVE (ci := 3) (As := []) (rest := [.ref (ad 0), .ref (ad 0)]) (c_Question_paperNumber l D ty L ad g q (nI j) tp ak rc sv m_q h_q) ⟨hx, hb, hml, hown, hts⟩ (cwV 0 hts gX8_hear_X3_paperNumber rfl rfl rfl (by decide +kernel) ⟨Nat.le_of_ble_eq_true rfl, Nat.le_of_ble_eq_true rfl⟩) hB m_q h_q rfl rfl hl.1 rfl (Nat.le_of_ble_eq_true rfl) dX8_hear_24 ⟨Nat.le_of_ble_eq_true rfl, Nat.le_of_ble_eq_true rfl⟩ (fun H locs hB => ?_)
  refine m_callVE (ci := 8) (As := [.int (nI j)]) (rest := [.ref (ad 0)]) ((by have h9 := c_X_paperNumber_t l D ty L ad g pn qn nw tr pf j m_0 m_6 h_0 h_6 hj8; rw [hpp] at h9; exact h9 : m_E l yX8_paperNumber wsX8_paperNumber 1 21 D ty [.ref (ad 0), .int (nI j)] L ad g (some (.ref (ad pp))) g)) ⟨hx, hb, hml, hown, hts⟩ (cwV 1 hts gX8_hear_X8_paperNumber rfl rfl rfl (by decide +kernel) ⟨Nat.le_of_ble_eq_true rfl, Nat.le_of_ble_eq_true rfl⟩) hB m_0 h_0 rfl rfl hl.1 rfl (Nat.le_of_ble_eq_true rfl) dX8_hear_27 ⟨Nat.le_of_ble_eq_true rfl, Nat.le_of_ble_eq_true rfl⟩ (fun H locs hB => ?_)
  refine lv_iload_n hx hb dX8_hear_30 rfl (lv_at hl 2 rfl) ?_
  refine m_callVE (ci := 8) (As := [.ref (ad pp), .int (nI b)]) (rest := []) (c_X_isOpen2 l D ty L ad g pn qn nw tr fs fe pp pt vn wd b f m_0 m_3 m_4 m_5 m_pp h_0 h_3 h_4 h_5 h_pp hb6 hf4 hwd) ⟨hx, hb, hml, hown, hts⟩ (cwV 2 hts gX8_hear_X8_isOpen rfl rfl rfl (by decide +kernel) ⟨Nat.le_of_ble_eq_true rfl, Nat.le_of_ble_eq_true rfl⟩) hB m_0 h_0 rfl rfl hl.1 rfl (Nat.le_of_ble_eq_true rfl) dX8_hear_31 ⟨Nat.le_of_ble_eq_true rfl, Nat.le_of_ble_eq_true rfl⟩ (fun H locs hB => ?_)
  refine b_if_ne_t 40 hx hb dX8_hear_34 (by decide) (by rw [hs]; decide) ?_
  refine lv_aload_n hx hb dX8_hear_40 rfl (lv_at hl 0 rfl) ?_
  refine m_callVE (ci := 3) (As := []) (rest := []) (c_Question_isAnswered l D ty L ad g q (nI j) tp ak rc sv m_q h_q) ⟨hx, hb, hml, hown, hts⟩ (cwV 0 hts gX8_hear_X3_isAnswered rfl rfl rfl (by decide +kernel) ⟨Nat.le_of_ble_eq_true rfl, Nat.le_of_ble_eq_true rfl⟩) hB m_q h_q rfl rfl hl.1 rfl (Nat.le_of_ble_eq_true rfl) dX8_hear_41 ⟨Nat.le_of_ble_eq_true rfl, Nat.le_of_ble_eq_true rfl⟩ (fun H locs hB => ?_)
  refine b_if_ne_f 50 hx hb dX8_hear_44 (by decide) (by rw [df (fun h => h hrc)]; decide) ?_
  refine lv_bipush (v := (-2)) hx hb dX8_hear_47 (by decide) ?_
  exact m_iret hx hb hrt hlocks hB (Nat.le_refl _) (Nat.le_refl _) dX8_hear_49 ⟨rfl, rfl, rfl, rfl⟩
set_option maxHeartbeats 1000000 in
set_option maxRecDepth 100000 in
theorem c_X_hear2_yes (l : Launch) (D : va_G) (ty : Nat → ClassId) (L : List Nat) (ad : Nat → Nat) (g : Nat → va_E) (pn qn : Nat) (nw : Int32) (tr : Int64) (pf : Nat → Option Nat) (qf : Nat → Option Nat) (fs fe : Nat → Int32) (pp pt vn : Nat) (wd : Int32) (q j : Nat) (tp ak rc sv : Int32) (k b f : Nat) (m_0 : 0 ∈ L) (m_3 : 3 ∈ L) (m_4 : 4 ∈ L) (m_5 : 5 ∈ L) (m_6 : 6 ∈ L) (m_28 : 28 ∈ L) (m_q : q ∈ L) (m_pp : pp ∈ L) (h_0 : g 0 = .inr (8, [.ref (ad 1), .ref (ad 3), .ref (ad 6), .int (nI pn), .ref (ad 7), .ref (ad 20), .ref (ad 22), .ref (ad 28), .int (nI qn), .ref (ad 29), .int nw, .long tr])) (h_3 : g 3 = .inr (4, [.ref (ad 4), .ref (ad 5)])) (h_4 : g 4 = .inl (ty 0, 12, .inl fs)) (h_5 : g 5 = .inl (ty 0, 12, .inl fe)) (h_6 : g 6 = .inl (ty 4, 8, .inr (.inr (.inr (.inr pf))))) (h_28 : g 28 = .inl (ty 5, 30, .inr (.inr (.inr (.inr qf))))) (h_q : g q = .inr (3, [.int (nI j), .int tp, .int ak, .int rc, .int sv])) (h_pp : g pp = .inr (2, [.int (nI f), .ref (ad pt), .int (nI vn), .int wd])) (hk : k < 30) (hqq : qf k = some (ad q)) (hj8 : j < 8) (hpp : pf j = some (ad pp)) (hb6 : b < 6) (hf4 : f < 4) (hwd : wd = 0 ∨ wd = 1) (hs : (opn wd fs fe (b % 3 * 4 + f) nw) = true) (hrc : ¬ rc = 0) (hfor : rc = 2 ∨ (ak >>> (nI b &&& 31)) &&& 1 = 1) : m_E l yX8_hear wsX8_hear 5 113 D ty [.ref (ad 0), .int (nI b), .int (nI k)] L ad g (some (.int sv)) g := by
  intro sz
  refine Met.ofW (cc := cX8_hear) (maxL := 4) (ret := (some .int)) (by decide) rfl ?_
  intro p e s m args below meth c s₁ B hml hv
  have hx := B.exec
  have hb := B.bytes
  have hrt := B.returns
  have hts := atoms_spec (ws := wsX8_hear) B.pre
  have hown : s.vm.findClass RX8 = some m.cls := findClass_of_methodNamed B.named
  have hlocks := B.notSynchronized
  obtain ⟨rfl, hB⟩ := m_start hv
  generalize va_A (m_w L ad g) sz = A at hB ⊢
  generalize s.heap = H at hB ⊢
  generalize ([] : List Loc) = locs at hB ⊢
  have hl := lv_entry ([.ref (ad 0), .int (nI b), .int (nI k)]) (n := 4) (Nat.le_of_ble_eq_true rfl)
  rw [lg_entry_eq]
  generalize (lg_sl ([.ref (ad 0), .int (nI b), .int (nI k)]) ++ List.replicate (4 - (lg_sl ([.ref (ad 0), .int (nI b), .int (nI k)])).length) Slot.unset).toArray = ls at hl ⊢
  have hl : lv_has ls 4 [(0, .ref (ad 0)), (1, .int (nI b)), (2, .int (nI k))] := hl
  have tI_b : (nI b).toInt = (b : Int) := nI_toInt (by omega)
  have l6 : (6 : Int32).toInt = 6 := by decide
  refine lv_aload_n hx hb dX8_hear_0 rfl (lv_at hl 0 rfl) ?_
  refine lv_iload_n hx hb dX8_hear_1 rfl (lv_at hl 2 rfl) ?_
  refine m_callVE (ci := 8) (As := [.int (nI k)]) (rest := []) ((by have h9 := c_X_questionNumber_t l D ty L ad g pn qn nw tr qf k m_0 m_28 h_0 h_28 hk; rw [hqq] at h9; exact h9 : m_E l yX8_questionNumber wsX8_questionNumber 1 21 D ty [.ref (ad 0), .int (nI k)] L ad g (some (.ref (ad q))) g)) ⟨hx, hb, hml, hown, hts⟩ (cwV 1 hts gX8_hear_X8_questionNumber rfl rfl rfl (by decide +kernel) ⟨Nat.le_of_ble_eq_true rfl, Nat.le_of_ble_eq_true rfl⟩) hB m_0 h_0 rfl rfl hl.1 rfl (Nat.le_of_ble_eq_true rfl) dX8_hear_2 ⟨Nat.le_of_ble_eq_true rfl, Nat.le_of_ble_eq_true rfl⟩ (fun H locs hB => ?_)
  refine lv_astore_n (lv' := [(3, .ref (ad q)), (0, .ref (ad 0)), (1, .int (nI b)), (2, .int (nI k))]) hx hb dX8_hear_5 rfl hl (by decide) rfl (fun ls hl => ?_)
  refine lv_iload_n hx hb dX8_hear_6 rfl (lv_at hl 2 rfl) ?_
  refine lv_bipush (v := 6) hx hb dX8_hear_7 (by decide) ?_
  refine m_callSE (As := [.int (nI b), .int 6]) (rest := []) (c_isBelow_t l D ty L ad _ _ _ (by omega) (by omega)) ⟨hx, hb, hml, hown, hts⟩ (va_cwS 2 hts gX8_hear_X8_isBelow rfl rfl rfl (by decide +kernel) ⟨Nat.le_of_ble_eq_true rfl, Nat.le_of_ble_eq_true rfl⟩) hB rfl hl.1 rfl (Nat.le_of_ble_eq_true rfl) dX8_hear_9 ⟨Nat.le_of_ble_eq_true rfl, Nat.le_of_ble_eq_true rfl⟩ (fun H locs hB => ?_)
  refine b_if_eq_f 19 hx hb dX8_hear_12 (by decide) (by decide) ?_
  refine lv_aload_n hx hb dX8_hear_15 rfl (lv_at hl 0 rfl) ?_
  refine lv_ifnonnull (tgt := 21) hx hb dX8_hear_16 (by decide) ?_
  refine lv_aload_n hx hb dX8_hear_21 rfl (lv_at hl 1 rfl) ?_
  refine lv_aload_n hx hb dX8_hear_22 rfl (lv_at hl 1 rfl) ?_
  refine lv_aload_n hx hb dX8_hear_23 rfl (lv_at hl 0 rfl) ?_
  refine m_callVE (ci := 3) (As := []) (rest := [.ref (ad 0), .ref (ad 0)]) (c_Question_paperNumber l D ty L ad g q (nI j) tp ak rc sv m_q h_q) ⟨hx, hb, hml, hown, hts⟩ (cwV 0 hts gX8_hear_X3_paperNumber rfl rfl rfl (by decide +kernel) ⟨Nat.le_of_ble_eq_true rfl, Nat.le_of_ble_eq_true rfl⟩) hB m_q h_q rfl rfl hl.1 rfl (Nat.le_of_ble_eq_true rfl) dX8_hear_24 ⟨Nat.le_of_ble_eq_true rfl, Nat.le_of_ble_eq_true rfl⟩ (fun H locs hB => ?_)
  refine m_callVE (ci := 8) (As := [.int (nI j)]) (rest := [.ref (ad 0)]) ((by have h9 := c_X_paperNumber_t l D ty L ad g pn qn nw tr pf j m_0 m_6 h_0 h_6 hj8; rw [hpp] at h9; exact h9 : m_E l yX8_paperNumber wsX8_paperNumber 1 21 D ty [.ref (ad 0), .int (nI j)] L ad g (some (.ref (ad pp))) g)) ⟨hx, hb, hml, hown, hts⟩ (cwV 1 hts gX8_hear_X8_paperNumber rfl rfl rfl (by decide +kernel) ⟨Nat.le_of_ble_eq_true rfl, Nat.le_of_ble_eq_true rfl⟩) hB m_0 h_0 rfl rfl hl.1 rfl (Nat.le_of_ble_eq_true rfl) dX8_hear_27 ⟨Nat.le_of_ble_eq_true rfl, Nat.le_of_ble_eq_true rfl⟩ (fun H locs hB => ?_)
  refine lv_iload_n hx hb dX8_hear_30 rfl (lv_at hl 2 rfl) ?_
  refine m_callVE (ci := 8) (As := [.ref (ad pp), .int (nI b)]) (rest := []) (c_X_isOpen2 l D ty L ad g pn qn nw tr fs fe pp pt vn wd b f m_0 m_3 m_4 m_5 m_pp h_0 h_3 h_4 h_5 h_pp hb6 hf4 hwd) ⟨hx, hb, hml, hown, hts⟩ (cwV 2 hts gX8_hear_X8_isOpen rfl rfl rfl (by decide +kernel) ⟨Nat.le_of_ble_eq_true rfl, Nat.le_of_ble_eq_true rfl⟩) hB m_0 h_0 rfl rfl hl.1 rfl (Nat.le_of_ble_eq_true rfl) dX8_hear_31 ⟨Nat.le_of_ble_eq_true rfl, Nat.le_of_ble_eq_true rfl⟩ (fun H locs hB => ?_)
  refine b_if_ne_t 40 hx hb dX8_hear_34 (by decide) (by rw [hs]; decide) ?_
  refine lv_aload_n hx hb dX8_hear_40 rfl (lv_at hl 0 rfl) ?_
  refine m_callVE (ci := 3) (As := []) (rest := []) (c_Question_isAnswered l D ty L ad g q (nI j) tp ak rc sv m_q h_q) ⟨hx, hb, hml, hown, hts⟩ (cwV 0 hts gX8_hear_X3_isAnswered rfl rfl rfl (by decide +kernel) ⟨Nat.le_of_ble_eq_true rfl, Nat.le_of_ble_eq_true rfl⟩) hB m_q h_q rfl rfl hl.1 rfl (Nat.le_of_ble_eq_true rfl) dX8_hear_41 ⟨Nat.le_of_ble_eq_true rfl, Nat.le_of_ble_eq_true rfl⟩ (fun H locs hB => ?_)
  refine b_if_ne_t 50 hx hb dX8_hear_44 (by decide) (by rw [dt hrc]; decide) ?_
  refine lv_aload_n hx hb dX8_hear_50 rfl (lv_at hl 0 rfl) ?_
  refine lv_iload_n hx hb dX8_hear_51 rfl (lv_at hl 2 rfl) ?_
  refine m_callVE (ci := 3) (As := [.int (nI b)]) (rest := []) (c_Question_isFor l D ty L ad g q (nI j) tp ak rc sv (nI b) m_q h_q) ⟨hx, hb, hml, hown, hts⟩ (cwV 1 hts gX8_hear_X3_isFor rfl rfl rfl (by decide +kernel) ⟨Nat.le_of_ble_eq_true rfl, Nat.le_of_ble_eq_true rfl⟩) hB m_q h_q rfl rfl hl.1 rfl (Nat.le_of_ble_eq_true rfl) dX8_hear_52 ⟨Nat.le_of_ble_eq_true rfl, Nat.le_of_ble_eq_true rfl⟩ (fun H locs hB => ?_)
  refine b_if_eq_f 65 hx hb dX8_hear_55 (by decide) (by rw [dt hfor]; decide) ?_
  refine lv_aload_n hx hb dX8_hear_58 rfl (lv_at hl 0 rfl) ?_
  refine m_callVE (ci := 3) (As := []) (rest := []) (c_Question_settled l D ty L ad g q (nI j) tp ak rc sv m_q h_q) ⟨hx, hb, hml, hown, hts⟩ (cwV 0 hts gX8_hear_X3_settled rfl rfl rfl (by decide +kernel) ⟨Nat.le_of_ble_eq_true rfl, Nat.le_of_ble_eq_true rfl⟩) hB m_q h_q rfl rfl hl.1 rfl (Nat.le_of_ble_eq_true rfl) dX8_hear_59 ⟨Nat.le_of_ble_eq_true rfl, Nat.le_of_ble_eq_true rfl⟩ (fun H locs hB => ?_)
  refine lv_goto (tgt := 67) hx hb dX8_hear_62 (by decide) ?_
  exact m_iret hx hb hrt hlocks hB (Nat.le_refl _) (Nat.le_refl _) dX8_hear_67 ⟨rfl, rfl, rfl, rfl⟩
set_option maxHeartbeats 1000000 in
set_option maxRecDepth 100000 in
theorem c_X_hear2_other (l : Launch) (D : va_G) (ty : Nat → ClassId) (L : List Nat) (ad : Nat → Nat) (g : Nat → va_E) (pn qn : Nat) (nw : Int32) (tr : Int64) (pf : Nat → Option Nat) (qf : Nat → Option Nat) (fs fe : Nat → Int32) (pp pt vn : Nat) (wd : Int32) (q j : Nat) (tp ak rc sv : Int32) (k b f : Nat) (m_0 : 0 ∈ L) (m_3 : 3 ∈ L) (m_4 : 4 ∈ L) (m_5 : 5 ∈ L) (m_6 : 6 ∈ L) (m_28 : 28 ∈ L) (m_q : q ∈ L) (m_pp : pp ∈ L) (h_0 : g 0 = .inr (8, [.ref (ad 1), .ref (ad 3), .ref (ad 6), .int (nI pn), .ref (ad 7), .ref (ad 20), .ref (ad 22), .ref (ad 28), .int (nI qn), .ref (ad 29), .int nw, .long tr])) (h_3 : g 3 = .inr (4, [.ref (ad 4), .ref (ad 5)])) (h_4 : g 4 = .inl (ty 0, 12, .inl fs)) (h_5 : g 5 = .inl (ty 0, 12, .inl fe)) (h_6 : g 6 = .inl (ty 4, 8, .inr (.inr (.inr (.inr pf))))) (h_28 : g 28 = .inl (ty 5, 30, .inr (.inr (.inr (.inr qf))))) (h_q : g q = .inr (3, [.int (nI j), .int tp, .int ak, .int rc, .int sv])) (h_pp : g pp = .inr (2, [.int (nI f), .ref (ad pt), .int (nI vn), .int wd])) (hk : k < 30) (hqq : qf k = some (ad q)) (hj8 : j < 8) (hpp : pf j = some (ad pp)) (hb6 : b < 6) (hf4 : f < 4) (hwd : wd = 0 ∨ wd = 1) (hs : (opn wd fs fe (b % 3 * 4 + f) nw) = true) (hrc : ¬ rc = 0) (hfor : ¬ (rc = 2 ∨ (ak >>> (nI b &&& 31)) &&& 1 = 1)) : m_E l yX8_hear wsX8_hear 5 113 D ty [.ref (ad 0), .int (nI b), .int (nI k)] L ad g (some (.int (-4))) g := by
  intro sz
  refine Met.ofW (cc := cX8_hear) (maxL := 4) (ret := (some .int)) (by decide) rfl ?_
  intro p e s m args below meth c s₁ B hml hv
  have hx := B.exec
  have hb := B.bytes
  have hrt := B.returns
  have hts := atoms_spec (ws := wsX8_hear) B.pre
  have hown : s.vm.findClass RX8 = some m.cls := findClass_of_methodNamed B.named
  have hlocks := B.notSynchronized
  obtain ⟨rfl, hB⟩ := m_start hv
  generalize va_A (m_w L ad g) sz = A at hB ⊢
  generalize s.heap = H at hB ⊢
  generalize ([] : List Loc) = locs at hB ⊢
  have hl := lv_entry ([.ref (ad 0), .int (nI b), .int (nI k)]) (n := 4) (Nat.le_of_ble_eq_true rfl)
  rw [lg_entry_eq]
  generalize (lg_sl ([.ref (ad 0), .int (nI b), .int (nI k)]) ++ List.replicate (4 - (lg_sl ([.ref (ad 0), .int (nI b), .int (nI k)])).length) Slot.unset).toArray = ls at hl ⊢
  have hl : lv_has ls 4 [(0, .ref (ad 0)), (1, .int (nI b)), (2, .int (nI k))] := hl
  have tI_b : (nI b).toInt = (b : Int) := nI_toInt (by omega)
  have l6 : (6 : Int32).toInt = 6 := by decide
  refine lv_aload_n hx hb dX8_hear_0 rfl (lv_at hl 0 rfl) ?_
  refine lv_iload_n hx hb dX8_hear_1 rfl (lv_at hl 2 rfl) ?_
  refine m_callVE (ci := 8) (As := [.int (nI k)]) (rest := []) ((by have h9 := c_X_questionNumber_t l D ty L ad g pn qn nw tr qf k m_0 m_28 h_0 h_28 hk; rw [hqq] at h9; exact h9 : m_E l yX8_questionNumber wsX8_questionNumber 1 21 D ty [.ref (ad 0), .int (nI k)] L ad g (some (.ref (ad q))) g)) ⟨hx, hb, hml, hown, hts⟩ (cwV 1 hts gX8_hear_X8_questionNumber rfl rfl rfl (by decide +kernel) ⟨Nat.le_of_ble_eq_true rfl, Nat.le_of_ble_eq_true rfl⟩) hB m_0 h_0 rfl rfl hl.1 rfl (Nat.le_of_ble_eq_true rfl) dX8_hear_2 ⟨Nat.le_of_ble_eq_true rfl, Nat.le_of_ble_eq_true rfl⟩ (fun H locs hB => ?_)
  refine lv_astore_n (lv' := [(3, .ref (ad q)), (0, .ref (ad 0)), (1, .int (nI b)), (2, .int (nI k))]) hx hb dX8_hear_5 rfl hl (by decide) rfl (fun ls hl => ?_)
  refine lv_iload_n hx hb dX8_hear_6 rfl (lv_at hl 2 rfl) ?_
  refine lv_bipush (v := 6) hx hb dX8_hear_7 (by decide) ?_
  refine m_callSE (As := [.int (nI b), .int 6]) (rest := []) (c_isBelow_t l D ty L ad _ _ _ (by omega) (by omega)) ⟨hx, hb, hml, hown, hts⟩ (va_cwS 2 hts gX8_hear_X8_isBelow rfl rfl rfl (by decide +kernel) ⟨Nat.le_of_ble_eq_true rfl, Nat.le_of_ble_eq_true rfl⟩) hB rfl hl.1 rfl (Nat.le_of_ble_eq_true rfl) dX8_hear_9 ⟨Nat.le_of_ble_eq_true rfl, Nat.le_of_ble_eq_true rfl⟩ (fun H locs hB => ?_)
  refine b_if_eq_f 19 hx hb dX8_hear_12 (by decide) (by decide) ?_
  refine lv_aload_n hx hb dX8_hear_15 rfl (lv_at hl 0 rfl) ?_
  refine lv_ifnonnull (tgt := 21) hx hb dX8_hear_16 (by decide) ?_
  refine lv_aload_n hx hb dX8_hear_21 rfl (lv_at hl 1 rfl) ?_
  refine lv_aload_n hx hb dX8_hear_22 rfl (lv_at hl 1 rfl) ?_
  refine lv_aload_n hx hb dX8_hear_23 rfl (lv_at hl 0 rfl) ?_
  refine m_callVE (ci := 3) (As := []) (rest := [.ref (ad 0), .ref (ad 0)]) (c_Question_paperNumber l D ty L ad g q (nI j) tp ak rc sv m_q h_q) ⟨hx, hb, hml, hown, hts⟩ (cwV 0 hts gX8_hear_X3_paperNumber rfl rfl rfl (by decide +kernel) ⟨Nat.le_of_ble_eq_true rfl, Nat.le_of_ble_eq_true rfl⟩) hB m_q h_q rfl rfl hl.1 rfl (Nat.le_of_ble_eq_true rfl) dX8_hear_24 ⟨Nat.le_of_ble_eq_true rfl, Nat.le_of_ble_eq_true rfl⟩ (fun H locs hB => ?_)
  refine m_callVE (ci := 8) (As := [.int (nI j)]) (rest := [.ref (ad 0)]) ((by have h9 := c_X_paperNumber_t l D ty L ad g pn qn nw tr pf j m_0 m_6 h_0 h_6 hj8; rw [hpp] at h9; exact h9 : m_E l yX8_paperNumber wsX8_paperNumber 1 21 D ty [.ref (ad 0), .int (nI j)] L ad g (some (.ref (ad pp))) g)) ⟨hx, hb, hml, hown, hts⟩ (cwV 1 hts gX8_hear_X8_paperNumber rfl rfl rfl (by decide +kernel) ⟨Nat.le_of_ble_eq_true rfl, Nat.le_of_ble_eq_true rfl⟩) hB m_0 h_0 rfl rfl hl.1 rfl (Nat.le_of_ble_eq_true rfl) dX8_hear_27 ⟨Nat.le_of_ble_eq_true rfl, Nat.le_of_ble_eq_true rfl⟩ (fun H locs hB => ?_)
  refine lv_iload_n hx hb dX8_hear_30 rfl (lv_at hl 2 rfl) ?_
  refine m_callVE (ci := 8) (As := [.ref (ad pp), .int (nI b)]) (rest := []) (c_X_isOpen2 l D ty L ad g pn qn nw tr fs fe pp pt vn wd b f m_0 m_3 m_4 m_5 m_pp h_0 h_3 h_4 h_5 h_pp hb6 hf4 hwd) ⟨hx, hb, hml, hown, hts⟩ (cwV 2 hts gX8_hear_X8_isOpen rfl rfl rfl (by decide +kernel) ⟨Nat.le_of_ble_eq_true rfl, Nat.le_of_ble_eq_true rfl⟩) hB m_0 h_0 rfl rfl hl.1 rfl (Nat.le_of_ble_eq_true rfl) dX8_hear_31 ⟨Nat.le_of_ble_eq_true rfl, Nat.le_of_ble_eq_true rfl⟩ (fun H locs hB => ?_)
  refine b_if_ne_t 40 hx hb dX8_hear_34 (by decide) (by rw [hs]; decide) ?_
  refine lv_aload_n hx hb dX8_hear_40 rfl (lv_at hl 0 rfl) ?_
  refine m_callVE (ci := 3) (As := []) (rest := []) (c_Question_isAnswered l D ty L ad g q (nI j) tp ak rc sv m_q h_q) ⟨hx, hb, hml, hown, hts⟩ (cwV 0 hts gX8_hear_X3_isAnswered rfl rfl rfl (by decide +kernel) ⟨Nat.le_of_ble_eq_true rfl, Nat.le_of_ble_eq_true rfl⟩) hB m_q h_q rfl rfl hl.1 rfl (Nat.le_of_ble_eq_true rfl) dX8_hear_41 ⟨Nat.le_of_ble_eq_true rfl, Nat.le_of_ble_eq_true rfl⟩ (fun H locs hB => ?_)
  refine b_if_ne_t 50 hx hb dX8_hear_44 (by decide) (by rw [dt hrc]; decide) ?_
  refine lv_aload_n hx hb dX8_hear_50 rfl (lv_at hl 0 rfl) ?_
  refine lv_iload_n hx hb dX8_hear_51 rfl (lv_at hl 2 rfl) ?_
  refine m_callVE (ci := 3) (As := [.int (nI b)]) (rest := []) (c_Question_isFor l D ty L ad g q (nI j) tp ak rc sv (nI b) m_q h_q) ⟨hx, hb, hml, hown, hts⟩ (cwV 1 hts gX8_hear_X3_isFor rfl rfl rfl (by decide +kernel) ⟨Nat.le_of_ble_eq_true rfl, Nat.le_of_ble_eq_true rfl⟩) hB m_q h_q rfl rfl hl.1 rfl (Nat.le_of_ble_eq_true rfl) dX8_hear_52 ⟨Nat.le_of_ble_eq_true rfl, Nat.le_of_ble_eq_true rfl⟩ (fun H locs hB => ?_)
  refine b_if_eq_t 65 hx hb dX8_hear_55 (by decide) (by rw [df hfor]; decide) ?_
  refine lv_bipush (v := (-4)) hx hb dX8_hear_65 (by decide) ?_
  exact m_iret hx hb hrt hlocks hB (Nat.le_refl _) (Nat.le_refl _) dX8_hear_67 ⟨rfl, rfl, rfl, rfl⟩
