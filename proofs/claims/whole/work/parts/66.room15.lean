set_option maxRecDepth 20000 in
theorem in_X8_ask_X8 : ∀ w ∈ wsX80, w ∈ wsX8_ask := by decide +kernel
set_option maxHeartbeats 1000000 in
set_option maxRecDepth 100000 in
theorem c_X_ask_b1 (l : Launch) (D : va_G) (ty : Nat → ClassId) (L : List Nat) (ad : Nat → Nat) (g : Nat → va_E) (pn qn : Nat) (nw : Int32) (tr : Int64) (pf : Nat → Option Nat) (ak : Nat → Int32) (i w tp : Int32) (m_0 : 0 ∈ L) (m_6 : 6 ∈ L) (m_29 : 29 ∈ L) (h_0 : g 0 = .inr (8, [.ref (ad 1), .ref (ad 3), .ref (ad 6), .int (nI pn), .ref (ad 7), .ref (ad 20), .ref (ad 22), .ref (ad 28), .int (nI qn), .ref (ad 29), .int nw, .long tr])) (h_6 : g 6 = .inl (ty 4, 8, .inr (.inr (.inr (.inr pf))))) (h_29 : g 29 = .inl (ty 0, 6, .inl ak)) (hb : ¬ (0 ≤ w.toInt ∧ w.toInt < 6)) (hi : ¬ (0 ≤ i.toInt ∧ i.toInt < 8)) : m_E l yX8_ask wsX8_ask 5 113 D ty [.ref (ad 0), .int w, .int i, .int tp] L ad g (some (.int (-1))) g := by
  intro sz
  refine Met.ofW (cc := cX8_ask) (maxL := 7) (ret := (some .int)) (by decide) rfl ?_
  intro p e s m args below meth c s₁ B hml hv
  have hx := B.exec
  have hb := B.bytes
  have hrt := B.returns
  have hts := atoms_spec (ws := wsX8_ask) B.pre
  have hown : s.vm.findClass RX8 = some m.cls := findClass_of_methodNamed B.named
  have hlocks := B.notSynchronized
  obtain ⟨rfl, hB⟩ := m_start hv
  generalize va_A (m_w L ad g) sz = A at hB ⊢
  generalize s.heap = H at hB ⊢
  generalize ([] : List Loc) = locs at hB ⊢
  have hl := lv_entry ([.ref (ad 0), .int w, .int i, .int tp]) (n := 7) (Nat.le_of_ble_eq_true rfl)
  rw [lg_entry_eq]
  generalize (lg_sl ([.ref (ad 0), .int w, .int i, .int tp]) ++ List.replicate (7 - (lg_sl ([.ref (ad 0), .int w, .int i, .int tp])).length) Slot.unset).toArray = ls at hl ⊢
  have hl : lv_has ls 7 [(0, .ref (ad 0)), (1, .int w), (2, .int i), (3, .int tp)] := hl
  have ln : (nI 6).toInt = 6 := by decide
  refine lv_aload_n hx hb dX8_ask_0 rfl (lv_at hl 0 rfl) ?_
  refine lv_iload_n hx hb dX8_ask_1 rfl (lv_at hl 2 rfl) ?_
  refine m_callVE (ci := 8) (As := [.int i]) (rest := []) (c_X_paperNumber_f l D ty L ad g pn qn nw tr pf i m_0 m_6 h_0 h_6 hi) ⟨hx, hb, hml, hown, hts⟩ (cwV 1 hts gX8_ask_X8_paperNumber rfl rfl rfl (by decide +kernel) ⟨Nat.le_of_ble_eq_true rfl, Nat.le_of_ble_eq_true rfl⟩) hB m_0 h_0 rfl rfl hl.1 rfl (Nat.le_of_ble_eq_true rfl) dX8_ask_2 ⟨Nat.le_of_ble_eq_true rfl, Nat.le_of_ble_eq_true rfl⟩ (fun H locs hB => ?_)
  refine lv_astoreN (lv' := [(4, .null), (0, .ref (ad 0)), (1, .int w), (2, .int i), (3, .int tp)]) hx hb dX8_ask_5 hl (by decide) rfl (fun ls hl => ?_)
  refine lv_iload_n hx hb dX8_ask_7 rfl (lv_at hl 2 rfl) ?_
  refine lv_aload_n hx hb dX8_ask_8 rfl (lv_at hl 1 rfl) ?_
  refine m_get (C := RX8) (T := TX8) (N := 12) (ci := 8) hx hb hts in_X8_ask_X8 hown hB m_0 h_0 rfl 9 (by decide) (hts (.fieldLink RX8 51 "PaperRoom" "asksThisTick" "[I") (by decide +kernel)) (fun _ h9 => h9) rfl dX8_ask_9 ?_
  refine m_alen hx hb hB m_29 0 h_29 rfl (v := nI 6) rfl dX8_ask_12 ?_
  refine m_callSE (As := [.int w, .int (nI 6)]) (rest := []) (c_isBelow_f l D ty L ad _ _ _ (by omega)) ⟨hx, hb, hml, hown, hts⟩ (va_cwS 2 hts gX8_ask_X8_isBelow rfl rfl rfl (by decide +kernel) ⟨Nat.le_of_ble_eq_true rfl, Nat.le_of_ble_eq_true rfl⟩) hB rfl hl.1 rfl (Nat.le_of_ble_eq_true rfl) dX8_ask_13 ⟨Nat.le_of_ble_eq_true rfl, Nat.le_of_ble_eq_true rfl⟩ (fun H locs hB => ?_)
  refine b_if_eq_t 33 hx hb dX8_ask_16 (by decide) (by decide) ?_
  refine lv_iconst (v := (-1)) hx hb dX8_ask_33 (by decide) ?_
  exact m_iret hx hb hrt hlocks hB (Nat.le_refl _) (Nat.le_refl _) dX8_ask_34 ⟨rfl, rfl, rfl, rfl⟩
set_option maxHeartbeats 1000000 in
set_option maxRecDepth 100000 in
theorem c_X_ask_b2 (l : Launch) (D : va_G) (ty : Nat → ClassId) (L : List Nat) (ad : Nat → Nat) (g : Nat → va_E) (pn qn : Nat) (nw : Int32) (tr : Int64) (pf : Nat → Option Nat) (ak : Nat → Int32) (k : Nat) (w tp : Int32) (m_0 : 0 ∈ L) (m_6 : 6 ∈ L) (m_29 : 29 ∈ L) (h_0 : g 0 = .inr (8, [.ref (ad 1), .ref (ad 3), .ref (ad 6), .int (nI pn), .ref (ad 7), .ref (ad 20), .ref (ad 22), .ref (ad 28), .int (nI qn), .ref (ad 29), .int nw, .long tr])) (h_6 : g 6 = .inl (ty 4, 8, .inr (.inr (.inr (.inr pf))))) (h_29 : g 29 = .inl (ty 0, 6, .inl ak)) (hb : ¬ (0 ≤ w.toInt ∧ w.toInt < 6)) (hk : k < 8) : m_E l yX8_ask wsX8_ask 5 113 D ty [.ref (ad 0), .int w, .int (nI k), .int tp] L ad g (some (.int (-1))) g := by
  intro sz
  refine Met.ofW (cc := cX8_ask) (maxL := 7) (ret := (some .int)) (by decide) rfl ?_
  intro p e s m args below meth c s₁ B hml hv
  have hx := B.exec
  have hb := B.bytes
  have hrt := B.returns
  have hts := atoms_spec (ws := wsX8_ask) B.pre
  have hown : s.vm.findClass RX8 = some m.cls := findClass_of_methodNamed B.named
  have hlocks := B.notSynchronized
  obtain ⟨rfl, hB⟩ := m_start hv
  generalize va_A (m_w L ad g) sz = A at hB ⊢
  generalize s.heap = H at hB ⊢
  generalize ([] : List Loc) = locs at hB ⊢
  have hl := lv_entry ([.ref (ad 0), .int w, .int (nI k), .int tp]) (n := 7) (Nat.le_of_ble_eq_true rfl)
  rw [lg_entry_eq]
  generalize (lg_sl ([.ref (ad 0), .int w, .int (nI k), .int tp]) ++ List.replicate (7 - (lg_sl ([.ref (ad 0), .int w, .int (nI k), .int tp])).length) Slot.unset).toArray = ls at hl ⊢
  have hl : lv_has ls 7 [(0, .ref (ad 0)), (1, .int w), (2, .int (nI k)), (3, .int tp)] := hl
  have ln : (nI 6).toInt = 6 := by decide
  rcases hq : pf k with _ | r9
  · skip
    refine lv_aload_n hx hb dX8_ask_0 rfl (lv_at hl 0 rfl) ?_
    refine lv_iload_n hx hb dX8_ask_1 rfl (lv_at hl 2 rfl) ?_
    refine m_callVE (ci := 8) (As := [.int (nI k)]) (rest := []) ((by have h9 := c_X_paperNumber_t l D ty L ad g pn qn nw tr pf k m_0 m_6 h_0 h_6 hk; rw [hq] at h9; exact h9 : m_E l yX8_paperNumber wsX8_paperNumber 1 21 D ty [.ref (ad 0), .int (nI k)] L ad g (some .null) g)) ⟨hx, hb, hml, hown, hts⟩ (cwV 1 hts gX8_ask_X8_paperNumber rfl rfl rfl (by decide +kernel) ⟨Nat.le_of_ble_eq_true rfl, Nat.le_of_ble_eq_true rfl⟩) hB m_0 h_0 rfl rfl hl.1 rfl (Nat.le_of_ble_eq_true rfl) dX8_ask_2 ⟨Nat.le_of_ble_eq_true rfl, Nat.le_of_ble_eq_true rfl⟩ (fun H locs hB => ?_)
    refine lv_astoreN (lv' := [(4, .null), (0, .ref (ad 0)), (1, .int w), (2, .int (nI k)), (3, .int tp)]) hx hb dX8_ask_5 hl (by decide) rfl (fun ls hl => ?_)
    refine lv_iload_n hx hb dX8_ask_7 rfl (lv_at hl 2 rfl) ?_
    refine lv_aload_n hx hb dX8_ask_8 rfl (lv_at hl 1 rfl) ?_
    refine m_get (C := RX8) (T := TX8) (N := 12) (ci := 8) hx hb hts in_X8_ask_X8 hown hB m_0 h_0 rfl 9 (by decide) (hts (.fieldLink RX8 51 "PaperRoom" "asksThisTick" "[I") (by decide +kernel)) (fun _ h9 => h9) rfl dX8_ask_9 ?_
    refine m_alen hx hb hB m_29 0 h_29 rfl (v := nI 6) rfl dX8_ask_12 ?_
    refine m_callSE (As := [.int w, .int (nI 6)]) (rest := []) (c_isBelow_f l D ty L ad _ _ _ (by omega)) ⟨hx, hb, hml, hown, hts⟩ (va_cwS 2 hts gX8_ask_X8_isBelow rfl rfl rfl (by decide +kernel) ⟨Nat.le_of_ble_eq_true rfl, Nat.le_of_ble_eq_true rfl⟩) hB rfl hl.1 rfl (Nat.le_of_ble_eq_true rfl) dX8_ask_13 ⟨Nat.le_of_ble_eq_true rfl, Nat.le_of_ble_eq_true rfl⟩ (fun H locs hB => ?_)
    refine b_if_eq_t 33 hx hb dX8_ask_16 (by decide) (by decide) ?_
    refine lv_iconst (v := (-1)) hx hb dX8_ask_33 (by decide) ?_
    exact m_iret hx hb hrt hlocks hB (Nat.le_refl _) (Nat.le_refl _) dX8_ask_34 ⟨rfl, rfl, rfl, rfl⟩
  · skip
    refine lv_aload_n hx hb dX8_ask_0 rfl (lv_at hl 0 rfl) ?_
    refine lv_iload_n hx hb dX8_ask_1 rfl (lv_at hl 2 rfl) ?_
    refine m_callVE (ci := 8) (As := [.int (nI k)]) (rest := []) ((by have h9 := c_X_paperNumber_t l D ty L ad g pn qn nw tr pf k m_0 m_6 h_0 h_6 hk; rw [hq] at h9; exact h9 : m_E l yX8_paperNumber wsX8_paperNumber 1 21 D ty [.ref (ad 0), .int (nI k)] L ad g (some (.ref r9)) g)) ⟨hx, hb, hml, hown, hts⟩ (cwV 1 hts gX8_ask_X8_paperNumber rfl rfl rfl (by decide +kernel) ⟨Nat.le_of_ble_eq_true rfl, Nat.le_of_ble_eq_true rfl⟩) hB m_0 h_0 rfl rfl hl.1 rfl (Nat.le_of_ble_eq_true rfl) dX8_ask_2 ⟨Nat.le_of_ble_eq_true rfl, Nat.le_of_ble_eq_true rfl⟩ (fun H locs hB => ?_)
    refine lv_astore (lv' := [(4, .ref r9), (0, .ref (ad 0)), (1, .int w), (2, .int (nI k)), (3, .int tp)]) hx hb dX8_ask_5 hl (by decide) rfl (fun ls hl => ?_)
    refine lv_iload_n hx hb dX8_ask_7 rfl (lv_at hl 2 rfl) ?_
    refine lv_aload_n hx hb dX8_ask_8 rfl (lv_at hl 1 rfl) ?_
    refine m_get (C := RX8) (T := TX8) (N := 12) (ci := 8) hx hb hts in_X8_ask_X8 hown hB m_0 h_0 rfl 9 (by decide) (hts (.fieldLink RX8 51 "PaperRoom" "asksThisTick" "[I") (by decide +kernel)) (fun _ h9 => h9) rfl dX8_ask_9 ?_
    refine m_alen hx hb hB m_29 0 h_29 rfl (v := nI 6) rfl dX8_ask_12 ?_
    refine m_callSE (As := [.int w, .int (nI 6)]) (rest := []) (c_isBelow_f l D ty L ad _ _ _ (by omega)) ⟨hx, hb, hml, hown, hts⟩ (va_cwS 2 hts gX8_ask_X8_isBelow rfl rfl rfl (by decide +kernel) ⟨Nat.le_of_ble_eq_true rfl, Nat.le_of_ble_eq_true rfl⟩) hB rfl hl.1 rfl (Nat.le_of_ble_eq_true rfl) dX8_ask_13 ⟨Nat.le_of_ble_eq_true rfl, Nat.le_of_ble_eq_true rfl⟩ (fun H locs hB => ?_)
    refine b_if_eq_t 33 hx hb dX8_ask_16 (by decide) (by decide) ?_
    refine lv_iconst (v := (-1)) hx hb dX8_ask_33 (by decide) ?_
    exact m_iret hx hb hrt hlocks hB (Nat.le_refl _) (Nat.le_refl _) dX8_ask_34 ⟨rfl, rfl, rfl, rfl⟩
set_option maxHeartbeats 1000000 in
set_option maxRecDepth 100000 in
theorem c_X_ask_none (l : Launch) (D : va_G) (ty : Nat → ClassId) (L : List Nat) (ad : Nat → Nat) (g : Nat → va_E) (pn qn : Nat) (nw : Int32) (tr : Int64) (pf : Nat → Option Nat) (ak : Nat → Int32) (k b : Nat) (tp : Int32) (m_0 : 0 ∈ L) (m_6 : 6 ∈ L) (m_29 : 29 ∈ L) (h_0 : g 0 = .inr (8, [.ref (ad 1), .ref (ad 3), .ref (ad 6), .int (nI pn), .ref (ad 7), .ref (ad 20), .ref (ad 22), .ref (ad 28), .int (nI qn), .ref (ad 29), .int nw, .long tr])) (h_6 : g 6 = .inl (ty 4, 8, .inr (.inr (.inr (.inr pf))))) (h_29 : g 29 = .inl (ty 0, 6, .inl ak)) (hk : k < 8) (hpp : pf k = none) (hb6 : b < 6) : m_E l yX8_ask wsX8_ask 5 113 D ty [.ref (ad 0), .int (nI b), .int (nI k), .int tp] L ad g (some (.int (-1))) g := by
  intro sz
  refine Met.ofW (cc := cX8_ask) (maxL := 7) (ret := (some .int)) (by decide) rfl ?_
  intro p e s m args below meth c s₁ B hml hv
  have hx := B.exec
  have hb := B.bytes
  have hrt := B.returns
  have hts := atoms_spec (ws := wsX8_ask) B.pre
  have hown : s.vm.findClass RX8 = some m.cls := findClass_of_methodNamed B.named
  have hlocks := B.notSynchronized
  obtain ⟨rfl, hB⟩ := m_start hv
  generalize va_A (m_w L ad g) sz = A at hB ⊢
  generalize s.heap = H at hB ⊢
  generalize ([] : List Loc) = locs at hB ⊢
  have hl := lv_entry ([.ref (ad 0), .int (nI b), .int (nI k), .int tp]) (n := 7) (Nat.le_of_ble_eq_true rfl)
  rw [lg_entry_eq]
  generalize (lg_sl ([.ref (ad 0), .int (nI b), .int (nI k), .int tp]) ++ List.replicate (7 - (lg_sl ([.ref (ad 0), .int (nI b), .int (nI k), .int tp])).length) Slot.unset).toArray = ls at hl ⊢
  have hl : lv_has ls 7 [(0, .ref (ad 0)), (1, .int (nI b)), (2, .int (nI k)), (3, .int tp)] := hl
  have tI_b : (nI b).toInt = (b : Int) := nI_toInt (by omega)
  have ln : (nI 6).toInt = 6 := by decide
  refine lv_aload_n hx hb dX8_ask_0 rfl (lv_at hl 0 rfl) ?_
  refine lv_iload_n hx hb dX8_ask_1 rfl (lv_at hl 2 rfl) ?_
  refine m_callVE (ci := 8) (As := [.int (nI k)]) (rest := []) ((by have h9 := c_X_paperNumber_t l D ty L ad g pn qn nw tr pf k m_0 m_6 h_0 h_6 hk; rw [hpp] at h9; exact h9 : m_E l yX8_paperNumber wsX8_paperNumber 1 21 D ty [.ref (ad 0), .int (nI k)] L ad g (some .null) g)) ⟨hx, hb, hml, hown, hts⟩ (cwV 1 hts gX8_ask_X8_paperNumber rfl rfl rfl (by decide +kernel) ⟨Nat.le_of_ble_eq_true rfl, Nat.le_of_ble_eq_true rfl⟩) hB m_0 h_0 rfl rfl hl.1 rfl (Nat.le_of_ble_eq_true rfl) dX8_ask_2 ⟨Nat.le_of_ble_eq_true rfl, Nat.le_of_ble_eq_true rfl⟩ (fun H locs hB => ?_)
  refine lv_astoreN (lv' := [(4, .null), (0, .ref (ad 0)), (1, .int (nI b)), (2, .int (nI k)), (3, .int tp)]) hx hb dX8_ask_5 hl (by decide) rfl (fun ls hl => ?_)
  refine lv_iload_n hx hb dX8_ask_7 rfl (lv_at hl 2 rfl) ?_
  refine lv_aload_n hx hb dX8_ask_8 rfl (lv_at hl 1 rfl) ?_
  refine m_get (C := RX8) (T := TX8) (N := 12) (ci := 8) hx hb hts in_X8_ask_X8 hown hB m_0 h_0 rfl 9 (by decide) (hts (.fieldLink RX8 51 "PaperRoom" "asksThisTick" "[I") (by decide +kernel)) (fun _ h9 => h9) rfl dX8_ask_9 ?_
  refine m_alen hx hb hB m_29 0 h_29 rfl (v := nI 6) rfl dX8_ask_12 ?_
  refine m_callSE (As := [.int (nI b), .int (nI 6)]) (rest := []) (c_isBelow_t l D ty L ad _ _ _ (by omega) (by omega)) ⟨hx, hb, hml, hown, hts⟩ (va_cwS 2 hts gX8_ask_X8_isBelow rfl rfl rfl (by decide +kernel) ⟨Nat.le_of_ble_eq_true rfl, Nat.le_of_ble_eq_true rfl⟩) hB rfl hl.1 rfl (Nat.le_of_ble_eq_true rfl) dX8_ask_13 ⟨Nat.le_of_ble_eq_true rfl, Nat.le_of_ble_eq_true rfl⟩ (fun H locs hB => ?_)
  refine b_if_eq_f 33 hx hb dX8_ask_16 (by decide) (by decide) ?_
  refine lv_aloadN hx hb dX8_ask_19 (lv_at hl 0 rfl) ?_
  refine lv_ifnullN (tgt := 33) hx hb dX8_ask_21 (by decide) ?_
  refine lv_iconst (v := (-1)) hx hb dX8_ask_33 (by decide) ?_
  exact m_iret hx hb hrt hlocks hB (Nat.le_refl _) (Nat.le_refl _) dX8_ask_34 ⟨rfl, rfl, rfl, rfl⟩
set_option maxHeartbeats 1000000 in
set_option maxRecDepth 100000 in
theorem c_X_ask_bad (l : Launch) (D : va_G) (ty : Nat → ClassId) (L : List Nat) (ad : Nat → Nat) (g : Nat → va_E) (pn qn : Nat) (nw : Int32) (tr : Int64) (pf : Nat → Option Nat) (ak : Nat → Int32) (i tp : Int32) (b : Nat) (m_0 : 0 ∈ L) (m_6 : 6 ∈ L) (m_29 : 29 ∈ L) (h_0 : g 0 = .inr (8, [.ref (ad 1), .ref (ad 3), .ref (ad 6), .int (nI pn), .ref (ad 7), .ref (ad 20), .ref (ad 22), .ref (ad 28), .int (nI qn), .ref (ad 29), .int nw, .long tr])) (h_6 : g 6 = .inl (ty 4, 8, .inr (.inr (.inr (.inr pf))))) (h_29 : g 29 = .inl (ty 0, 6, .inl ak)) (hi : ¬ (0 ≤ i.toInt ∧ i.toInt < 8)) (hb6 : b < 6) : m_E l yX8_ask wsX8_ask 5 113 D ty [.ref (ad 0), .int (nI b), .int i, .int tp] L ad g (some (.int (-1))) g := by
  intro sz
  refine Met.ofW (cc := cX8_ask) (maxL := 7) (ret := (some .int)) (by decide) rfl ?_
  intro p e s m args below meth c s₁ B hml hv
  have hx := B.exec
  have hb := B.bytes
  have hrt := B.returns
  have hts := atoms_spec (ws := wsX8_ask) B.pre
  have hown : s.vm.findClass RX8 = some m.cls := findClass_of_methodNamed B.named
  have hlocks := B.notSynchronized
  obtain ⟨rfl, hB⟩ := m_start hv
  generalize va_A (m_w L ad g) sz = A at hB ⊢
  generalize s.heap = H at hB ⊢
  generalize ([] : List Loc) = locs at hB ⊢
  have hl := lv_entry ([.ref (ad 0), .int (nI b), .int i, .int tp]) (n := 7) (Nat.le_of_ble_eq_true rfl)
  rw [lg_entry_eq]
  generalize (lg_sl ([.ref (ad 0), .int (nI b), .int i, .int tp]) ++ List.replicate (7 - (lg_sl ([.ref (ad 0), .int (nI b), .int i, .int tp])).length) Slot.unset).toArray = ls at hl ⊢
  have hl : lv_has ls 7 [(0, .ref (ad 0)), (1, .int (nI b)), (2, .int i), (3, .int tp)] := hl
  have tI_b : (nI b).toInt = (b : Int) := nI_toInt (by omega)
  have ln : (nI 6).toInt = 6 := by decide
  refine lv_aload_n hx hb dX8_ask_0 rfl (lv_at hl 0 rfl) ?_
  refine lv_iload_n hx hb dX8_ask_1 rfl (lv_at hl 2 rfl) ?_
  refine m_callVE (ci := 8) (As := [.int i]) (rest := []) (c_X_paperNumber_f l D ty L ad g pn qn nw tr pf i m_0 m_6 h_0 h_6 hi) ⟨hx, hb, hml, hown, hts⟩ (cwV 1 hts gX8_ask_X8_paperNumber rfl rfl rfl (by decide +kernel) ⟨Nat.le_of_ble_eq_true rfl, Nat.le_of_ble_eq_true rfl⟩) hB m_0 h_0 rfl rfl hl.1 rfl (Nat.le_of_ble_eq_true rfl) dX8_ask_2 ⟨Nat.le_of_ble_eq_true rfl, Nat.le_of_ble_eq_true rfl⟩ (fun H locs hB => ?_)
  refine lv_astoreN (lv' := [(4, .null), (0, .ref (ad 0)), (1, .int (nI b)), (2, .int i), (3, .int tp)]) hx hb dX8_ask_5 hl (by decide) rfl (fun ls hl => ?_)
  refine lv_iload_n hx hb dX8_ask_7 rfl (lv_at hl 2 rfl) ?_
  refine lv_aload_n hx hb dX8_ask_8 rfl (lv_at hl 1 rfl) ?_
  refine m_get (C := RX8) (T := TX8) (N := 12) (ci := 8) hx hb hts in_X8_ask_X8 hown hB m_0 h_0 rfl 9 (by decide) (hts (.fieldLink RX8 51 "PaperRoom" "asksThisTick" "[I") (by decide +kernel)) (fun _ h9 => h9) rfl dX8_ask_9 ?_
  refine m_alen hx hb hB m_29 0 h_29 rfl (v := nI 6) rfl dX8_ask_12 ?_
  refine m_callSE (As := [.int (nI b), .int (nI 6)]) (rest := []) (c_isBelow_t l D ty L ad _ _ _ (by omega) (by omega)) ⟨hx, hb, hml, hown, hts⟩ (va_cwS 2 hts gX8_ask_X8_isBelow rfl rfl rfl (by decide +kernel) ⟨Nat.le_of_ble_eq_true rfl, Nat.le_of_ble_eq_true rfl⟩) hB rfl hl.1 rfl (Nat.le_of_ble_eq_true rfl) dX8_ask_13 ⟨Nat.le_of_ble_eq_true rfl, Nat.le_of_ble_eq_true rfl⟩ (fun H locs hB => ?_)
  refine b_if_eq_f 33 hx hb dX8_ask_16 (by decide) (by decide) ?_
  refine lv_aloadN hx hb dX8_ask_19 (lv_at hl 0 rfl) ?_
  refine lv_ifnullN (tgt := 33) hx hb dX8_ask_21 (by decide) ?_
  refine lv_iconst (v := (-1)) hx hb dX8_ask_33 (by decide) ?_
  exact m_iret hx hb hrt hlocks hB (Nat.le_refl _) (Nat.le_refl _) dX8_ask_34 ⟨rfl, rfl, rfl, rfl⟩
set_option maxHeartbeats 1000000 in
set_option maxRecDepth 100000 in
theorem c_X_ask0_t (l : Launch) (D : va_G) (ty : Nat → ClassId) (L : List Nat) (ad : Nat → Nat) (g : Nat → va_E) (pn qn : Nat) (nw : Int32) (tr : Int64) (pf : Nat → Option Nat) (ak : Nat → Int32) (fs fe : Nat → Int32) (pp pt vn : Nat) (wd : Int32) (lg : Int32) (qf : Nat → Option Nat) (qr : Nat → Nat) (qp qt qa qc qv : Nat → Int32) (k b f : Nat) (tp : Int32) (m_0 : 0 ∈ L) (m_3 : 3 ∈ L) (m_4 : 4 ∈ L) (m_5 : 5 ∈ L) (m_6 : 6 ∈ L) (m_28 : 28 ∈ L) (m_29 : 29 ∈ L) (m_pp : pp ∈ L) (h_0 : g 0 = .inr (8, [.ref (ad 1), .ref (ad 3), .ref (ad 6), .int (nI pn), .ref (ad 7), .ref (ad 20), .ref (ad 22), .ref (ad 28), .int (nI qn), .ref (ad 29), .int nw, .long tr])) (h_3 : g 3 = .inr (4, [.ref (ad 4), .ref (ad 5)])) (h_4 : g 4 = .inl (ty 0, 12, .inl fs)) (h_5 : g 5 = .inl (ty 0, 12, .inl fe)) (h_6 : g 6 = .inl (ty 4, 8, .inr (.inr (.inr (.inr pf))))) (h_28 : g 28 = .inl (ty 5, 30, .inr (.inr (.inr (.inr qf))))) (h_29 : g 29 = .inl (ty 0, 6, .inl ak)) (h_pp : g pp = .inr (0, [.int (nI f), .ref (ad pt), .int (nI vn), .int wd, .int lg])) (hk : k < 8) (hpp : pf k = some (ad pp)) (hb6 : b < 6) (hf4 : f < 4) (hwd : wd = 0 ∨ wd = 1) (h30 : 30 ≤ pp) (htp : ¬ (0 ≤ tp.toInt ∧ tp.toInt < 10)) : m_E l yX8_ask wsX8_ask 5 113 D ty [.ref (ad 0), .int (nI b), .int (nI k), .int tp] L ad g (some (.int (-1))) g := by
  intro sz
  refine Met.ofW (cc := cX8_ask) (maxL := 7) (ret := (some .int)) (by decide) rfl ?_
  intro p e s m args below meth c s₁ B hml hv
  have hx := B.exec
  have hb := B.bytes
  have hrt := B.returns
  have hts := atoms_spec (ws := wsX8_ask) B.pre
  have hown : s.vm.findClass RX8 = some m.cls := findClass_of_methodNamed B.named
  have hlocks := B.notSynchronized
  obtain ⟨rfl, hB⟩ := m_start hv
  generalize va_A (m_w L ad g) sz = A at hB ⊢
  generalize s.heap = H at hB ⊢
  generalize ([] : List Loc) = locs at hB ⊢
  have hl := lv_entry ([.ref (ad 0), .int (nI b), .int (nI k), .int tp]) (n := 7) (Nat.le_of_ble_eq_true rfl)
  rw [lg_entry_eq]
  generalize (lg_sl ([.ref (ad 0), .int (nI b), .int (nI k), .int tp]) ++ List.replicate (7 - (lg_sl ([.ref (ad 0), .int (nI b), .int (nI k), .int tp])).length) Slot.unset).toArray = ls at hl ⊢
  have hl : lv_has ls 7 [(0, .ref (ad 0)), (1, .int (nI b)), (2, .int (nI k)), (3, .int tp)] := hl
  have tI_b : (nI b).toInt = (b : Int) := nI_toInt (by omega)
  have ln : (nI 6).toInt = 6 := by decide
  have l10 : (10 : Int32).toInt = 10 := by decide
  have l2 : (2 : Int32).toInt = 2 := by decide
  refine lv_aload_n hx hb dX8_ask_0 rfl (lv_at hl 0 rfl) ?_
  refine lv_iload_n hx hb dX8_ask_1 rfl (lv_at hl 2 rfl) ?_
  refine m_callVE (ci := 8) (As := [.int (nI k)]) (rest := []) ((by have h9 := c_X_paperNumber_t l D ty L ad g pn qn nw tr pf k m_0 m_6 h_0 h_6 hk; rw [hpp] at h9; exact h9 : m_E l yX8_paperNumber wsX8_paperNumber 1 21 D ty [.ref (ad 0), .int (nI k)] L ad g (some (.ref (ad pp))) g)) ⟨hx, hb, hml, hown, hts⟩ (cwV 1 hts gX8_ask_X8_paperNumber rfl rfl rfl (by decide +kernel) ⟨Nat.le_of_ble_eq_true rfl, Nat.le_of_ble_eq_true rfl⟩) hB m_0 h_0 rfl rfl hl.1 rfl (Nat.le_of_ble_eq_true rfl) dX8_ask_2 ⟨Nat.le_of_ble_eq_true rfl, Nat.le_of_ble_eq_true rfl⟩ (fun H locs hB => ?_)
  refine lv_astore (lv' := [(4, .ref (ad pp)), (0, .ref (ad 0)), (1, .int (nI b)), (2, .int (nI k)), (3, .int tp)]) hx hb dX8_ask_5 hl (by decide) rfl (fun ls hl => ?_)
  refine lv_iload_n hx hb dX8_ask_7 rfl (lv_at hl 2 rfl) ?_
  refine lv_aload_n hx hb dX8_ask_8 rfl (lv_at hl 1 rfl) ?_
  refine m_get (C := RX8) (T := TX8) (N := 12) (ci := 8) hx hb hts in_X8_ask_X8 hown hB m_0 h_0 rfl 9 (by decide) (hts (.fieldLink RX8 51 "PaperRoom" "asksThisTick" "[I") (by decide +kernel)) (fun _ h9 => h9) rfl dX8_ask_9 ?_
  refine m_alen hx hb hB m_29 0 h_29 rfl (v := nI 6) rfl dX8_ask_12 ?_
  refine m_callSE (As := [.int (nI b), .int (nI 6)]) (rest := []) (c_isBelow_t l D ty L ad _ _ _ (by omega) (by omega)) ⟨hx, hb, hml, hown, hts⟩ (va_cwS 2 hts gX8_ask_X8_isBelow rfl rfl rfl (by decide +kernel) ⟨Nat.le_of_ble_eq_true rfl, Nat.le_of_ble_eq_true rfl⟩) hB rfl hl.1 rfl (Nat.le_of_ble_eq_true rfl) dX8_ask_13 ⟨Nat.le_of_ble_eq_true rfl, Nat.le_of_ble_eq_true rfl⟩ (fun H locs hB => ?_)
  refine b_if_eq_f 33 hx hb dX8_ask_16 (by decide) (by decide) ?_
  refine lv_aload hx hb dX8_ask_19 (lv_at hl 0 rfl) ?_
  refine lv_ifnull hx hb dX8_ask_21 ?_
  refine lv_iload_n hx hb dX8_ask_24 rfl (lv_at hl 4 rfl) ?_
  refine lv_bipush (v := 10) hx hb dX8_ask_25 (by decide) ?_
  refine m_callSE (As := [.int tp, .int 10]) (rest := []) (c_isBelow_f l D ty L ad _ _ _ (by omega)) ⟨hx, hb, hml, hown, hts⟩ (va_cwS 2 hts gX8_ask_X8_isBelow rfl rfl rfl (by decide +kernel) ⟨Nat.le_of_ble_eq_true rfl, Nat.le_of_ble_eq_true rfl⟩) hB rfl hl.1 rfl (Nat.le_of_ble_eq_true rfl) dX8_ask_27 ⟨Nat.le_of_ble_eq_true rfl, Nat.le_of_ble_eq_true rfl⟩ (fun H locs hB => ?_)
  refine b_if_ne_f 35 hx hb dX8_ask_30 (by decide) (by decide) ?_
  refine lv_iconst (v := (-1)) hx hb dX8_ask_33 (by decide) ?_
  exact m_iret hx hb hrt hlocks hB (Nat.le_refl _) (Nat.le_refl _) dX8_ask_34 ⟨rfl, rfl, rfl, rfl⟩
set_option maxHeartbeats 1000000 in
set_option maxRecDepth 100000 in
theorem c_X_ask0_no (l : Launch) (D : va_G) (ty : Nat → ClassId) (L : List Nat) (ad : Nat → Nat) (g : Nat → va_E) (pn qn : Nat) (nw : Int32) (tr : Int64) (pf : Nat → Option Nat) (ak : Nat → Int32) (fs fe : Nat → Int32) (pp pt vn : Nat) (wd : Int32) (lg : Int32) (qf : Nat → Option Nat) (qr : Nat → Nat) (qp qt qa qc qv : Nat → Int32) (k b f : Nat) (tp : Int32) (m_0 : 0 ∈ L) (m_3 : 3 ∈ L) (m_4 : 4 ∈ L) (m_5 : 5 ∈ L) (m_6 : 6 ∈ L) (m_28 : 28 ∈ L) (m_29 : 29 ∈ L) (m_pp : pp ∈ L) (h_0 : g 0 = .inr (8, [.ref (ad 1), .ref (ad 3), .ref (ad 6), .int (nI pn), .ref (ad 7), .ref (ad 20), .ref (ad 22), .ref (ad 28), .int (nI qn), .ref (ad 29), .int nw, .long tr])) (h_3 : g 3 = .inr (4, [.ref (ad 4), .ref (ad 5)])) (h_4 : g 4 = .inl (ty 0, 12, .inl fs)) (h_5 : g 5 = .inl (ty 0, 12, .inl fe)) (h_6 : g 6 = .inl (ty 4, 8, .inr (.inr (.inr (.inr pf))))) (h_28 : g 28 = .inl (ty 5, 30, .inr (.inr (.inr (.inr qf))))) (h_29 : g 29 = .inl (ty 0, 6, .inl ak)) (h_pp : g pp = .inr (0, [.int (nI f), .ref (ad pt), .int (nI vn), .int wd, .int lg])) (hk : k < 8) (hpp : pf k = some (ad pp)) (hb6 : b < 6) (hf4 : f < 4) (hwd : wd = 0 ∨ wd = 1) (h30 : 30 ≤ pp) (htp : 0 ≤ tp.toInt ∧ tp.toInt < 10) (hs : (opn wd fs fe (b % 3 * 4 + f) nw && decide (lg.toInt ≤ nw.toInt)) = false) : m_E l yX8_ask wsX8_ask 5 113 D ty [.ref (ad 0), .int (nI b), .int (nI k), .int tp] L ad g (some (.int (-4))) g := by
  intro sz
  refine Met.ofW (cc := cX8_ask) (maxL := 7) (ret := (some .int)) (by decide) rfl ?_
  intro p e s m args below meth c s₁ B hml hv
  have hx := B.exec
  have hb := B.bytes
  have hrt := B.returns
  have hts := atoms_spec (ws := wsX8_ask) B.pre
  have hown : s.vm.findClass RX8 = some m.cls := findClass_of_methodNamed B.named
  have hlocks := B.notSynchronized
  obtain ⟨rfl, hB⟩ := m_start hv
  generalize va_A (m_w L ad g) sz = A at hB ⊢
  generalize s.heap = H at hB ⊢
  generalize ([] : List Loc) = locs at hB ⊢
  have hl := lv_entry ([.ref (ad 0), .int (nI b), .int (nI k), .int tp]) (n := 7) (Nat.le_of_ble_eq_true rfl)
  rw [lg_entry_eq]
  generalize (lg_sl ([.ref (ad 0), .int (nI b), .int (nI k), .int tp]) ++ List.replicate (7 - (lg_sl ([.ref (ad 0), .int (nI b), .int (nI k), .int tp])).length) Slot.unset).toArray = ls at hl ⊢
  have hl : lv_has ls 7 [(0, .ref (ad 0)), (1, .int (nI b)), (2, .int (nI k)), (3, .int tp)] := hl
  have tI_b : (nI b).toInt = (b : Int) := nI_toInt (by omega)
  have ln : (nI 6).toInt = 6 := by decide
  have l10 : (10 : Int32).toInt = 10 := by decide
  have l2 : (2 : Int32).toInt = 2 := by decide
  refine lv_aload_n hx hb dX8_ask_0 rfl (lv_at hl 0 rfl) ?_
  refine lv_iload_n hx hb dX8_ask_1 rfl (lv_at hl 2 rfl) ?_
  refine m_callVE (ci := 8) (As := [.int (nI k)]) (rest := []) ((by have h9 := c_X_paperNumber_t l D ty L ad g pn qn nw tr pf k m_0 m_6 h_0 h_6 hk; rw [hpp] at h9; exact h9 : m_E l yX8_paperNumber wsX8_paperNumber 1 21 D ty [.ref (ad 0), .int (nI k)] L ad g (some (.ref (ad pp))) g)) ⟨hx, hb, hml, hown, hts⟩ (cwV 1 hts gX8_ask_X8_paperNumber rfl rfl rfl (by decide +kernel) ⟨Nat.le_of_ble_eq_true rfl, Nat.le_of_ble_eq_true rfl⟩) hB m_0 h_0 rfl rfl hl.1 rfl (Nat.le_of_ble_eq_true rfl) dX8_ask_2 ⟨Nat.le_of_ble_eq_true rfl, Nat.le_of_ble_eq_true rfl⟩ (fun H locs hB => ?_)
  refine lv_astore (lv' := [(4, .ref (ad pp)), (0, .ref (ad 0)), (1, .int (nI b)), (2, .int (nI k)), (3, .int tp)]) hx hb dX8_ask_5 hl (by decide) rfl (fun ls hl => ?_)
  refine lv_iload_n hx hb dX8_ask_7 rfl (lv_at hl 2 rfl) ?_
  refine lv_aload_n hx hb dX8_ask_8 rfl (lv_at hl 1 rfl) ?_
  refine m_get (C := RX8) (T := TX8) (N := 12) (ci := 8) hx hb hts in_X8_ask_X8 hown hB m_0 h_0 rfl 9 (by decide) (hts (.fieldLink RX8 51 "PaperRoom" "asksThisTick" "[I") (by decide +kernel)) (fun _ h9 => h9) rfl dX8_ask_9 ?_
  refine m_alen hx hb hB m_29 0 h_29 rfl (v := nI 6) rfl dX8_ask_12 ?_
  refine m_callSE (As := [.int (nI b), .int (nI 6)]) (rest := []) (c_isBelow_t l D ty L ad _ _ _ (by omega) (by omega)) ⟨hx, hb, hml, hown, hts⟩ (va_cwS 2 hts gX8_ask_X8_isBelow rfl rfl rfl (by decide +kernel) ⟨Nat.le_of_ble_eq_true rfl, Nat.le_of_ble_eq_true rfl⟩) hB rfl hl.1 rfl (Nat.le_of_ble_eq_true rfl) dX8_ask_13 ⟨Nat.le_of_ble_eq_true rfl, Nat.le_of_ble_eq_true rfl⟩ (fun H locs hB => ?_)
  refine b_if_eq_f 33 hx hb dX8_ask_16 (by decide) (by decide) ?_
  refine lv_aload hx hb dX8_ask_19 (lv_at hl 0 rfl) ?_
  refine lv_ifnull hx hb dX8_ask_21 ?_
  refine lv_iload_n hx hb dX8_ask_24 rfl (lv_at hl 4 rfl) ?_
  refine lv_bipush (v := 10) hx hb dX8_ask_25 (by decide) ?_
  refine m_callSE (As := [.int tp, .int 10]) (rest := []) (c_isBelow_t l D ty L ad _ _ _ (by omega) (by omega)) ⟨hx, hb, hml, hown, hts⟩ (va_cwS 2 hts gX8_ask_X8_isBelow rfl rfl rfl (by decide +kernel) ⟨Nat.le_of_ble_eq_true rfl, Nat.le_of_ble_eq_true rfl⟩) hB rfl hl.1 rfl (Nat.le_of_ble_eq_true rfl) dX8_ask_27 ⟨Nat.le_of_ble_eq_true rfl, Nat.le_of_ble_eq_true rfl⟩ (fun H locs hB => ?_)
  refine b_if_ne_t 35 hx hb dX8_ask_30 (by decide) (by decide) ?_
  refine lv_aload_n hx hb dX8_ask_35 rfl (lv_at hl 1 rfl) ?_
  refine lv_aload hx hb dX8_ask_36 (lv_at hl 0 rfl) ?_
  refine lv_iload_n hx hb dX8_ask_38 rfl (lv_at hl 2 rfl) ?_
  refine m_callVE (ci := 8) (As := [.ref (ad pp), .int (nI b)]) (rest := []) (c_X_isOpen0 l D ty L ad g pn qn nw tr fs fe pp pt vn wd lg b f m_0 m_3 m_4 m_5 m_pp h_0 h_3 h_4 h_5 h_pp hb6 hf4 hwd) ⟨hx, hb, hml, hown, hts⟩ (cwV 2 hts gX8_ask_X8_isOpen rfl rfl rfl (by decide +kernel) ⟨Nat.le_of_ble_eq_true rfl, Nat.le_of_ble_eq_true rfl⟩) hB m_0 h_0 rfl rfl hl.1 rfl (Nat.le_of_ble_eq_true rfl) dX8_ask_39 ⟨Nat.le_of_ble_eq_true rfl, Nat.le_of_ble_eq_true rfl⟩ (fun H locs hB => ?_)
  refine b_if_ne_f 48 hx hb dX8_ask_42 (by decide) (by rw [hs]; decide) ?_
  refine lv_bipush (v := (-4)) hx hb dX8_ask_45 (by decide) ?_
  exact m_iret hx hb hrt hlocks hB (Nat.le_refl _) (Nat.le_refl _) dX8_ask_47 ⟨rfl, rfl, rfl, rfl⟩
set_option maxHeartbeats 1000000 in
set_option maxRecDepth 100000 in
theorem c_X_ask0_state (l : Launch) (D : va_G) (ty : Nat → ClassId) (L : List Nat) (ad : Nat → Nat) (g : Nat → va_E) (pn qn : Nat) (nw : Int32) (tr : Int64) (pf : Nat → Option Nat) (ak : Nat → Int32) (fs fe : Nat → Int32) (pp pt vn : Nat) (wd : Int32) (lg : Int32) (qf : Nat → Option Nat) (qr : Nat → Nat) (qp qt qa qc qv : Nat → Int32) (k b f : Nat) (tp : Int32) (m_0 : 0 ∈ L) (m_3 : 3 ∈ L) (m_4 : 4 ∈ L) (m_5 : 5 ∈ L) (m_6 : 6 ∈ L) (m_28 : 28 ∈ L) (m_29 : 29 ∈ L) (m_pp : pp ∈ L) (h_0 : g 0 = .inr (8, [.ref (ad 1), .ref (ad 3), .ref (ad 6), .int (nI pn), .ref (ad 7), .ref (ad 20), .ref (ad 22), .ref (ad 28), .int (nI qn), .ref (ad 29), .int nw, .long tr])) (h_3 : g 3 = .inr (4, [.ref (ad 4), .ref (ad 5)])) (h_4 : g 4 = .inl (ty 0, 12, .inl fs)) (h_5 : g 5 = .inl (ty 0, 12, .inl fe)) (h_6 : g 6 = .inl (ty 4, 8, .inr (.inr (.inr (.inr pf))))) (h_28 : g 28 = .inl (ty 5, 30, .inr (.inr (.inr (.inr qf))))) (h_29 : g 29 = .inl (ty 0, 6, .inl ak)) (h_pp : g pp = .inr (0, [.int (nI f), .ref (ad pt), .int (nI vn), .int wd, .int lg])) (hk : k < 8) (hpp : pf k = some (ad pp)) (hb6 : b < 6) (hf4 : f < 4) (hwd : wd = 0 ∨ wd = 1) (h30 : 30 ≤ pp) (htp : 0 ≤ tp.toInt ∧ tp.toInt < 10) (hs : (opn wd fs fe (b % 3 * 4 + f) nw && decide (lg.toInt ≤ nw.toInt)) = true) (hak : 2 ≤ (ak b).toInt) : m_E l yX8_ask wsX8_ask 5 113 D ty [.ref (ad 0), .int (nI b), .int (nI k), .int tp] L ad g (some (.int (-2))) g := by
  intro sz
  refine Met.ofW (cc := cX8_ask) (maxL := 7) (ret := (some .int)) (by decide) rfl ?_
  intro p e s m args below meth c s₁ B hml hv
  have hx := B.exec
  have hb := B.bytes
  have hrt := B.returns
  have hts := atoms_spec (ws := wsX8_ask) B.pre
  have hown : s.vm.findClass RX8 = some m.cls := findClass_of_methodNamed B.named
  have hlocks := B.notSynchronized
  obtain ⟨rfl, hB⟩ := m_start hv
  generalize va_A (m_w L ad g) sz = A at hB ⊢
  generalize s.heap = H at hB ⊢
  generalize ([] : List Loc) = locs at hB ⊢
  have hl := lv_entry ([.ref (ad 0), .int (nI b), .int (nI k), .int tp]) (n := 7) (Nat.le_of_ble_eq_true rfl)
  rw [lg_entry_eq]
  generalize (lg_sl ([.ref (ad 0), .int (nI b), .int (nI k), .int tp]) ++ List.replicate (7 - (lg_sl ([.ref (ad 0), .int (nI b), .int (nI k), .int tp])).length) Slot.unset).toArray = ls at hl ⊢
  have hl : lv_has ls 7 [(0, .ref (ad 0)), (1, .int (nI b)), (2, .int (nI k)), (3, .int tp)] := hl
  have tI_b : (nI b).toInt = (b : Int) := nI_toInt (by omega)
  have ln : (nI 6).toInt = 6 := by decide
  have l10 : (10 : Int32).toInt = 10 := by decide
  have l2 : (2 : Int32).toInt = 2 := by decide
  refine lv_aload_n hx hb dX8_ask_0 rfl (lv_at hl 0 rfl) ?_
  refine lv_iload_n hx hb dX8_ask_1 rfl (lv_at hl 2 rfl) ?_
  refine m_callVE (ci := 8) (As := [.int (nI k)]) (rest := []) ((by have h9 := c_X_paperNumber_t l D ty L ad g pn qn nw tr pf k m_0 m_6 h_0 h_6 hk; rw [hpp] at h9; exact h9 : m_E l yX8_paperNumber wsX8_paperNumber 1 21 D ty [.ref (ad 0), .int (nI k)] L ad g (some (.ref (ad pp))) g)) ⟨hx, hb, hml, hown, hts⟩ (cwV 1 hts gX8_ask_X8_paperNumber rfl rfl rfl (by decide +kernel) ⟨Nat.le_of_ble_eq_true rfl, Nat.le_of_ble_eq_true rfl⟩) hB m_0 h_0 rfl rfl hl.1 rfl (Nat.le_of_ble_eq_true rfl) dX8_ask_2 ⟨Nat.le_of_ble_eq_true rfl, Nat.le_of_ble_eq_true rfl⟩ (fun H locs hB => ?_)
  refine lv_astore (lv' := [(4, .ref (ad pp)), (0, .ref (ad 0)), (1, .int (nI b)), (2, .int (nI k)), (3, .int tp)]) hx hb dX8_ask_5 hl (by decide) rfl (fun ls hl => ?_)
  refine lv_iload_n hx hb dX8_ask_7 rfl (lv_at hl 2 rfl) ?_
  refine lv_aload_n hx hb dX8_ask_8 rfl (lv_at hl 1 rfl) ?_
  refine m_get (C := RX8) (T := TX8) (N := 12) (ci := 8) hx hb hts in_X8_ask_X8 hown hB m_0 h_0 rfl 9 (by decide) (hts (.fieldLink RX8 51 "PaperRoom" "asksThisTick" "[I") (by decide +kernel)) (fun _ h9 => h9) rfl dX8_ask_9 ?_
  refine m_alen hx hb hB m_29 0 h_29 rfl (v := nI 6) rfl dX8_ask_12 ?_
  refine m_callSE (As := [.int (nI b), .int (nI 6)]) (rest := []) (c_isBelow_t l D ty L ad _ _ _ (by omega) (by omega)) ⟨hx, hb, hml, hown, hts⟩ (va_cwS 2 hts gX8_ask_X8_isBelow rfl rfl rfl (by decide +kernel) ⟨Nat.le_of_ble_eq_true rfl, Nat.le_of_ble_eq_true rfl⟩) hB rfl hl.1 rfl (Nat.le_of_ble_eq_true rfl) dX8_ask_13 ⟨Nat.le_of_ble_eq_true rfl, Nat.le_of_ble_eq_true rfl⟩ (fun H locs hB => ?_)
  refine b_if_eq_f 33 hx hb dX8_ask_16 (by decide) (by decide) ?_
  refine lv_aload hx hb dX8_ask_19 (lv_at hl 0 rfl) ?_
  refine lv_ifnull hx hb dX8_ask_21 ?_
  refine lv_iload_n hx hb dX8_ask_24 rfl (lv_at hl 4 rfl) ?_
  refine lv_bipush (v := 10) hx hb dX8_ask_25 (by decide) ?_
  refine m_callSE (As := [.int tp, .int 10]) (rest := []) (c_isBelow_t l D ty L ad _ _ _ (by omega) (by omega)) ⟨hx, hb, hml, hown, hts⟩ (va_cwS 2 hts gX8_ask_X8_isBelow rfl rfl rfl (by decide +kernel) ⟨Nat.le_of_ble_eq_true rfl, Nat.le_of_ble_eq_true rfl⟩) hB rfl hl.1 rfl (Nat.le_of_ble_eq_true rfl) dX8_ask_27 ⟨Nat.le_of_ble_eq_true rfl, Nat.le_of_ble_eq_true rfl⟩ (fun H locs hB => ?_)
  refine b_if_ne_t 35 hx hb dX8_ask_30 (by decide) (by decide) ?_
  refine lv_aload_n hx hb dX8_ask_35 rfl (lv_at hl 1 rfl) ?_
  refine lv_aload hx hb dX8_ask_36 (lv_at hl 0 rfl) ?_
  refine lv_iload_n hx hb dX8_ask_38 rfl (lv_at hl 2 rfl) ?_
  refine m_callVE (ci := 8) (As := [.ref (ad pp), .int (nI b)]) (rest := []) (c_X_isOpen0 l D ty L ad g pn qn nw tr fs fe pp pt vn wd lg b f m_0 m_3 m_4 m_5 m_pp h_0 h_3 h_4 h_5 h_pp hb6 hf4 hwd) ⟨hx, hb, hml, hown, hts⟩ (cwV 2 hts gX8_ask_X8_isOpen rfl rfl rfl (by decide +kernel) ⟨Nat.le_of_ble_eq_true rfl, Nat.le_of_ble_eq_true rfl⟩) hB m_0 h_0 rfl rfl hl.1 rfl (Nat.le_of_ble_eq_true rfl) dX8_ask_39 ⟨Nat.le_of_ble_eq_true rfl, Nat.le_of_ble_eq_true rfl⟩ (fun H locs hB => ?_)
  refine b_if_ne_t 48 hx hb dX8_ask_42 (by decide) (by rw [hs]; decide) ?_
  refine lv_aload_n hx hb dX8_ask_48 rfl (lv_at hl 1 rfl) ?_
  refine m_get (C := RX8) (T := TX8) (N := 12) (ci := 8) hx hb hts in_X8_ask_X8 hown hB m_0 h_0 rfl 9 (by decide) (hts (.fieldLink RX8 51 "PaperRoom" "asksThisTick" "[I") (by decide +kernel)) (fun _ h9 => h9) rfl dX8_ask_49 ?_
  refine lv_iload_n hx hb dX8_ask_52 rfl (lv_at hl 2 rfl) ?_
  refine n_iald hx hb hB m_29 h_29 b rfl (by omega) (by omega) dX8_ask_53 ?_
  refine lv_iconst (v := 2) hx hb dX8_ask_54 (by decide) ?_
  refine b_icmp_lt_f 61 hx hb dX8_ask_55 (by decide) (by rw [l2]; omega) ?_
  refine lv_bipush (v := (-2)) hx hb dX8_ask_58 (by decide) ?_
  exact m_iret hx hb hrt hlocks hB (Nat.le_refl _) (Nat.le_refl _) dX8_ask_60 ⟨rfl, rfl, rfl, rfl⟩
set_option maxHeartbeats 1000000 in
set_option maxRecDepth 100000 in
theorem c_X_ask0_full (l : Launch) (D : va_G) (ty : Nat → ClassId) (L : List Nat) (ad : Nat → Nat) (g : Nat → va_E) (pn qn : Nat) (nw : Int32) (tr : Int64) (pf : Nat → Option Nat) (ak : Nat → Int32) (fs fe : Nat → Int32) (pp pt vn : Nat) (wd : Int32) (lg : Int32) (qf : Nat → Option Nat) (qr : Nat → Nat) (qp qt qa qc qv : Nat → Int32) (k b f : Nat) (tp : Int32) (m_0 : 0 ∈ L) (m_3 : 3 ∈ L) (m_4 : 4 ∈ L) (m_5 : 5 ∈ L) (m_6 : 6 ∈ L) (m_28 : 28 ∈ L) (m_29 : 29 ∈ L) (m_pp : pp ∈ L) (h_0 : g 0 = .inr (8, [.ref (ad 1), .ref (ad 3), .ref (ad 6), .int (nI pn), .ref (ad 7), .ref (ad 20), .ref (ad 22), .ref (ad 28), .int (nI qn), .ref (ad 29), .int nw, .long tr])) (h_3 : g 3 = .inr (4, [.ref (ad 4), .ref (ad 5)])) (h_4 : g 4 = .inl (ty 0, 12, .inl fs)) (h_5 : g 5 = .inl (ty 0, 12, .inl fe)) (h_6 : g 6 = .inl (ty 4, 8, .inr (.inr (.inr (.inr pf))))) (h_28 : g 28 = .inl (ty 5, 30, .inr (.inr (.inr (.inr qf))))) (h_29 : g 29 = .inl (ty 0, 6, .inl ak)) (h_pp : g pp = .inr (0, [.int (nI f), .ref (ad pt), .int (nI vn), .int wd, .int lg])) (hk : k < 8) (hpp : pf k = some (ad pp)) (hb6 : b < 6) (hf4 : f < 4) (hwd : wd = 0 ∨ wd = 1) (h30 : 30 ≤ pp) (htp : 0 ≤ tp.toInt ∧ tp.toInt < 10) (hs : (opn wd fs fe (b % 3 * 4 + f) nw && decide (lg.toInt ≤ nw.toInt)) = true) (hak : (ak b).toInt < 2) (hq0 : ∀ i, i < qn → qf i = some (ad (qr i))) (hq1 : ∀ i, i < qn → qr i ∈ L) (hq2 : ∀ i, i < qn → g (qr i) = .inr (3, [.int (qp i), .int (qt i), .int (qa i), .int (qc i), .int (qv i)])) (hqn : qn ≤ 30) (hq30 : qn = 30) (hno : ∀ i, i < qn → ¬ (qp i = nI k ∧ qt i = tp)) : m_E l yX8_ask wsX8_ask 5 113 D ty [.ref (ad 0), .int (nI b), .int (nI k), .int tp] L ad g (some (.int (-3))) g := by
  intro sz
  refine Met.ofW (cc := cX8_ask) (maxL := 7) (ret := (some .int)) (by decide) rfl ?_
  intro p e s m args below meth c s₁ B hml hv
  have hx := B.exec
  have hb := B.bytes
  have hrt := B.returns
  have hts := atoms_spec (ws := wsX8_ask) B.pre
  have hown : s.vm.findClass RX8 = some m.cls := findClass_of_methodNamed B.named
  have hlocks := B.notSynchronized
  obtain ⟨rfl, hB⟩ := m_start hv
  generalize va_A (m_w L ad g) sz = A at hB ⊢
  generalize s.heap = H at hB ⊢
  generalize ([] : List Loc) = locs at hB ⊢
  have hl := lv_entry ([.ref (ad 0), .int (nI b), .int (nI k), .int tp]) (n := 7) (Nat.le_of_ble_eq_true rfl)
  rw [lg_entry_eq]
  generalize (lg_sl ([.ref (ad 0), .int (nI b), .int (nI k), .int tp]) ++ List.replicate (7 - (lg_sl ([.ref (ad 0), .int (nI b), .int (nI k), .int tp])).length) Slot.unset).toArray = ls at hl ⊢
  have hl : lv_has ls 7 [(0, .ref (ad 0)), (1, .int (nI b)), (2, .int (nI k)), (3, .int tp)] := hl
  have tI_b : (nI b).toInt = (b : Int) := nI_toInt (by omega)
  have ln : (nI 6).toInt = 6 := by decide
  have l10 : (10 : Int32).toInt = 10 := by decide
  have l2 : (2 : Int32).toInt = 2 := by decide
  refine lv_aload_n hx hb dX8_ask_0 rfl (lv_at hl 0 rfl) ?_
  refine lv_iload_n hx hb dX8_ask_1 rfl (lv_at hl 2 rfl) ?_
  refine m_callVE (ci := 8) (As := [.int (nI k)]) (rest := []) ((by have h9 := c_X_paperNumber_t l D ty L ad g pn qn nw tr pf k m_0 m_6 h_0 h_6 hk; rw [hpp] at h9; exact h9 : m_E l yX8_paperNumber wsX8_paperNumber 1 21 D ty [.ref (ad 0), .int (nI k)] L ad g (some (.ref (ad pp))) g)) ⟨hx, hb, hml, hown, hts⟩ (cwV 1 hts gX8_ask_X8_paperNumber rfl rfl rfl (by decide +kernel) ⟨Nat.le_of_ble_eq_true rfl, Nat.le_of_ble_eq_true rfl⟩) hB m_0 h_0 rfl rfl hl.1 rfl (Nat.le_of_ble_eq_true rfl) dX8_ask_2 ⟨Nat.le_of_ble_eq_true rfl, Nat.le_of_ble_eq_true rfl⟩ (fun H locs hB => ?_)
  refine lv_astore (lv' := [(4, .ref (ad pp)), (0, .ref (ad 0)), (1, .int (nI b)), (2, .int (nI k)), (3, .int tp)]) hx hb dX8_ask_5 hl (by decide) rfl (fun ls hl => ?_)
  refine lv_iload_n hx hb dX8_ask_7 rfl (lv_at hl 2 rfl) ?_
  refine lv_aload_n hx hb dX8_ask_8 rfl (lv_at hl 1 rfl) ?_
  refine m_get (C := RX8) (T := TX8) (N := 12) (ci := 8) hx hb hts in_X8_ask_X8 hown hB m_0 h_0 rfl 9 (by decide) (hts (.fieldLink RX8 51 "PaperRoom" "asksThisTick" "[I") (by decide +kernel)) (fun _ h9 => h9) rfl dX8_ask_9 ?_
  refine m_alen hx hb hB m_29 0 h_29 rfl (v := nI 6) rfl dX8_ask_12 ?_
  refine m_callSE (As := [.int (nI b), .int (nI 6)]) (rest := []) (c_isBelow_t l D ty L ad _ _ _ (by omega) (by omega)) ⟨hx, hb, hml, hown, hts⟩ (va_cwS 2 hts gX8_ask_X8_isBelow rfl rfl rfl (by decide +kernel) ⟨Nat.le_of_ble_eq_true rfl, Nat.le_of_ble_eq_true rfl⟩) hB rfl hl.1 rfl (Nat.le_of_ble_eq_true rfl) dX8_ask_13 ⟨Nat.le_of_ble_eq_true rfl, Nat.le_of_ble_eq_true rfl⟩ (fun H locs hB => ?_)
  refine b_if_eq_f 33 hx hb dX8_ask_16 (by decide) (by decide) ?_
  refine lv_aload hx hb dX8_ask_19 (lv_at hl 0 rfl) ?_
  refine lv_ifnull hx hb dX8_ask_21 ?_
  refine lv_iload_n hx hb dX8_ask_24 rfl (lv_at hl 4 rfl) ?_
  refine lv_bipush (v := 10) hx hb dX8_ask_25 (by decide) ?_
  refine m_callSE (As := [.int tp, .int 10]) (rest := []) (c_isBelow_t l D ty L ad _ _ _ (by omega) (by omega)) ⟨hx, hb, hml, hown, hts⟩ (va_cwS 2 hts gX8_ask_X8_isBelow rfl rfl rfl (by decide +kernel) ⟨Nat.le_of_ble_eq_true rfl, Nat.le_of_ble_eq_true rfl⟩) hB rfl hl.1 rfl (Nat.le_of_ble_eq_true rfl) dX8_ask_27 ⟨Nat.le_of_ble_eq_true rfl, Nat.le_of_ble_eq_true rfl⟩ (fun H locs hB => ?_)
  refine b_if_ne_t 35 hx hb dX8_ask_30 (by decide) (by decide) ?_
  refine lv_aload_n hx hb dX8_ask_35 rfl (lv_at hl 1 rfl) ?_
  refine lv_aload hx hb dX8_ask_36 (lv_at hl 0 rfl) ?_
  refine lv_iload_n hx hb dX8_ask_38 rfl (lv_at hl 2 rfl) ?_
  refine m_callVE (ci := 8) (As := [.ref (ad pp), .int (nI b)]) (rest := []) (c_X_isOpen0 l D ty L ad g pn qn nw tr fs fe pp pt vn wd lg b f m_0 m_3 m_4 m_5 m_pp h_0 h_3 h_4 h_5 h_pp hb6 hf4 hwd) ⟨hx, hb, hml, hown, hts⟩ (cwV 2 hts gX8_ask_X8_isOpen rfl rfl rfl (by decide +kernel) ⟨Nat.le_of_ble_eq_true rfl, Nat.le_of_ble_eq_true rfl⟩) hB m_0 h_0 rfl rfl hl.1 rfl (Nat.le_of_ble_eq_true rfl) dX8_ask_39 ⟨Nat.le_of_ble_eq_true rfl, Nat.le_of_ble_eq_true rfl⟩ (fun H locs hB => ?_)
  refine b_if_ne_t 48 hx hb dX8_ask_42 (by decide) (by rw [hs]; decide) ?_
  refine lv_aload_n hx hb dX8_ask_48 rfl (lv_at hl 1 rfl) ?_
  refine m_get (C := RX8) (T := TX8) (N := 12) (ci := 8) hx hb hts in_X8_ask_X8 hown hB m_0 h_0 rfl 9 (by decide) (hts (.fieldLink RX8 51 "PaperRoom" "asksThisTick" "[I") (by decide +kernel)) (fun _ h9 => h9) rfl dX8_ask_49 ?_
  refine lv_iload_n hx hb dX8_ask_52 rfl (lv_at hl 2 rfl) ?_
  refine n_iald hx hb hB m_29 h_29 b rfl (by omega) (by omega) dX8_ask_53 ?_
  refine lv_iconst (v := 2) hx hb dX8_ask_54 (by decide) ?_
  refine b_icmp_lt_t 61 hx hb dX8_ask_55 (by decide) (by rw [l2]; omega) ?_
  refine lv_aload_n hx hb dX8_ask_61 rfl (lv_at hl 1 rfl) ?_
  refine lv_iload_n hx hb dX8_ask_62 rfl (lv_at hl 3 rfl) ?_
  refine lv_iload_n hx hb dX8_ask_63 rfl (lv_at hl 4 rfl) ?_
  refine m_callVE (ci := 8) (As := [.int (nI k), .int tp]) (rest := []) (c_X_questionOn_full l D ty L ad g pn qn nw tr qf qr qp qt qa qc qv (nI k) tp m_0 m_28 h_0 h_28 hq0 hq1 hq2 hqn hq30 hno) ⟨hx, hb, hml, hown, hts⟩ (cwV 2 hts gX8_ask_X8_questionOn rfl rfl rfl (by decide +kernel) ⟨Nat.le_of_ble_eq_true rfl, Nat.le_of_ble_eq_true rfl⟩) hB m_0 h_0 rfl rfl hl.1 rfl (Nat.le_of_ble_eq_true rfl) dX8_ask_64 ⟨Nat.le_of_ble_eq_true rfl, Nat.le_of_ble_eq_true rfl⟩ (fun H locs hB => ?_)
  refine lv_istore (lv' := [(5, .int (-9)), (4, .ref (ad pp)), (0, .ref (ad 0)), (1, .int (nI b)), (2, .int (nI k)), (3, .int tp)]) hx hb dX8_ask_67 hl (by decide) rfl (fun ls hl => ?_)
  refine lv_aload_n hx hb dX8_ask_69 rfl (lv_at hl 2 rfl) ?_
  refine lv_iload hx hb dX8_ask_70 (lv_at hl 0 rfl) ?_
  refine m_callVE (ci := 8) (As := [.int (-9)]) (rest := []) (c_X_questionNumber_f l D ty L ad g pn qn nw tr qf (-9) m_0 m_28 h_0 h_28 (by decide)) ⟨hx, hb, hml, hown, hts⟩ (cwV 1 hts gX8_ask_X8_questionNumber rfl rfl rfl (by decide +kernel) ⟨Nat.le_of_ble_eq_true rfl, Nat.le_of_ble_eq_true rfl⟩) hB m_0 h_0 rfl rfl hl.1 rfl (Nat.le_of_ble_eq_true rfl) dX8_ask_72 ⟨Nat.le_of_ble_eq_true rfl, Nat.le_of_ble_eq_true rfl⟩ (fun H locs hB => ?_)
  refine lv_astoreN (lv' := [(6, .null), (5, .int (-9)), (4, .ref (ad pp)), (0, .ref (ad 0)), (1, .int (nI b)), (2, .int (nI k)), (3, .int tp)]) hx hb dX8_ask_75 hl (by decide) rfl (fun ls hl => ?_)
  refine lv_aloadN hx hb dX8_ask_77 (lv_at hl 0 rfl) ?_
  refine lv_ifnonnullN hx hb dX8_ask_79 ?_
  refine lv_bipush (v := (-3)) hx hb dX8_ask_82 (by decide) ?_
  exact m_iret hx hb hrt hlocks hB (Nat.le_refl _) (Nat.le_refl _) dX8_ask_84 ⟨rfl, rfl, rfl, rfl⟩
set_option maxHeartbeats 1000000 in
set_option maxRecDepth 100000 in
theorem c_X_ask0_join (l : Launch) (D : va_G) (ty : Nat → ClassId) (L : List Nat) (ad : Nat → Nat) (g : Nat → va_E) (pn qn : Nat) (nw : Int32) (tr : Int64) (pf : Nat → Option Nat) (ak : Nat → Int32) (fs fe : Nat → Int32) (pp pt vn : Nat) (wd : Int32) (lg : Int32) (qf : Nat → Option Nat) (qr : Nat → Nat) (qp qt qa qc qv : Nat → Int32) (k b f : Nat) (tp : Int32) (q : Nat) (m_0 : 0 ∈ L) (m_3 : 3 ∈ L) (m_4 : 4 ∈ L) (m_5 : 5 ∈ L) (m_6 : 6 ∈ L) (m_28 : 28 ∈ L) (m_29 : 29 ∈ L) (m_pp : pp ∈ L) (h_0 : g 0 = .inr (8, [.ref (ad 1), .ref (ad 3), .ref (ad 6), .int (nI pn), .ref (ad 7), .ref (ad 20), .ref (ad 22), .ref (ad 28), .int (nI qn), .ref (ad 29), .int nw, .long tr])) (h_3 : g 3 = .inr (4, [.ref (ad 4), .ref (ad 5)])) (h_4 : g 4 = .inl (ty 0, 12, .inl fs)) (h_5 : g 5 = .inl (ty 0, 12, .inl fe)) (h_6 : g 6 = .inl (ty 4, 8, .inr (.inr (.inr (.inr pf))))) (h_28 : g 28 = .inl (ty 5, 30, .inr (.inr (.inr (.inr qf))))) (h_29 : g 29 = .inl (ty 0, 6, .inl ak)) (h_pp : g pp = .inr (0, [.int (nI f), .ref (ad pt), .int (nI vn), .int wd, .int lg])) (hk : k < 8) (hpp : pf k = some (ad pp)) (hb6 : b < 6) (hf4 : f < 4) (hwd : wd = 0 ∨ wd = 1) (h30 : 30 ≤ pp) (htp : 0 ≤ tp.toInt ∧ tp.toInt < 10) (hs : (opn wd fs fe (b % 3 * 4 + f) nw && decide (lg.toInt ≤ nw.toInt)) = true) (hak : (ak b).toInt < 2) (hq0 : ∀ i, i < qn → qf i = some (ad (qr i))) (hq1 : ∀ i, i < qn → qr i ∈ L) (hq2 : ∀ i, i < qn → g (qr i) = .inr (3, [.int (qp i), .int (qt i), .int (qa i), .int (qc i), .int (qv i)])) (hqn : qn ≤ 30) (hq : q < qn) (hyes : (qp q = nI k ∧ qt q = tp)) (hno : ∀ i, i < q → ¬ (qp i = nI k ∧ qt i = tp)) (h31 : 30 ≤ qr q) : m_E l yX8_ask wsX8_ask 5 113 D ty [.ref (ad 0), .int (nI b), .int (nI k), .int tp] L ad g (some (.int (nI q))) (va_up (va_up g (qr q) (.inr (3, [.int (qp q), .int (qt q), .int (qa q ||| (1 <<< (nI b &&& 31))), .int (qc q), .int (qv q)]))) 29 (.inl (ty 0, 6, .inl (upd ak b (ak b + 1))))) := by
  intro sz
  refine Met.ofW (cc := cX8_ask) (maxL := 7) (ret := (some .int)) (by decide) rfl ?_
  intro p e s m args below meth c s₁ B hml hv
  have hx := B.exec
  have hb := B.bytes
  have hrt := B.returns
  have hts := atoms_spec (ws := wsX8_ask) B.pre
  have hown : s.vm.findClass RX8 = some m.cls := findClass_of_methodNamed B.named
  have hlocks := B.notSynchronized
  obtain ⟨rfl, hB⟩ := m_start hv
  generalize va_A (m_w L ad g) sz = A at hB ⊢
  generalize s.heap = H at hB ⊢
  generalize ([] : List Loc) = locs at hB ⊢
  have hl := lv_entry ([.ref (ad 0), .int (nI b), .int (nI k), .int tp]) (n := 7) (Nat.le_of_ble_eq_true rfl)
  rw [lg_entry_eq]
  generalize (lg_sl ([.ref (ad 0), .int (nI b), .int (nI k), .int tp]) ++ List.replicate (7 - (lg_sl ([.ref (ad 0), .int (nI b), .int (nI k), .int tp])).length) Slot.unset).toArray = ls at hl ⊢
  have hl : lv_has ls 7 [(0, .ref (ad 0)), (1, .int (nI b)), (2, .int (nI k)), (3, .int tp)] := hl
  have tI_b : (nI b).toInt = (b : Int) := nI_toInt (by omega)
  have ln : (nI 6).toInt = 6 := by decide
  have l10 : (10 : Int32).toInt = 10 := by decide
  have l2 : (2 : Int32).toInt = 2 := by decide
  refine lv_aload_n hx hb dX8_ask_0 rfl (lv_at hl 0 rfl) ?_
  refine lv_iload_n hx hb dX8_ask_1 rfl (lv_at hl 2 rfl) ?_
  refine m_callVE (ci := 8) (As := [.int (nI k)]) (rest := []) ((by have h9 := c_X_paperNumber_t l D ty L ad g pn qn nw tr pf k m_0 m_6 h_0 h_6 hk; rw [hpp] at h9; exact h9 : m_E l yX8_paperNumber wsX8_paperNumber 1 21 D ty [.ref (ad 0), .int (nI k)] L ad g (some (.ref (ad pp))) g)) ⟨hx, hb, hml, hown, hts⟩ (cwV 1 hts gX8_ask_X8_paperNumber rfl rfl rfl (by decide +kernel) ⟨Nat.le_of_ble_eq_true rfl, Nat.le_of_ble_eq_true rfl⟩) hB m_0 h_0 rfl rfl hl.1 rfl (Nat.le_of_ble_eq_true rfl) dX8_ask_2 ⟨Nat.le_of_ble_eq_true rfl, Nat.le_of_ble_eq_true rfl⟩ (fun H locs hB => ?_)
  refine lv_astore (lv' := [(4, .ref (ad pp)), (0, .ref (ad 0)), (1, .int (nI b)), (2, .int (nI k)), (3, .int tp)]) hx hb dX8_ask_5 hl (by decide) rfl (fun ls hl => ?_)
  refine lv_iload_n hx hb dX8_ask_7 rfl (lv_at hl 2 rfl) ?_
  refine lv_aload_n hx hb dX8_ask_8 rfl (lv_at hl 1 rfl) ?_
  refine m_get (C := RX8) (T := TX8) (N := 12) (ci := 8) hx hb hts in_X8_ask_X8 hown hB m_0 h_0 rfl 9 (by decide) (hts (.fieldLink RX8 51 "PaperRoom" "asksThisTick" "[I") (by decide +kernel)) (fun _ h9 => h9) rfl dX8_ask_9 ?_
  refine m_alen hx hb hB m_29 0 h_29 rfl (v := nI 6) rfl dX8_ask_12 ?_
  refine m_callSE (As := [.int (nI b), .int (nI 6)]) (rest := []) (c_isBelow_t l D ty L ad _ _ _ (by omega) (by omega)) ⟨hx, hb, hml, hown, hts⟩ (va_cwS 2 hts gX8_ask_X8_isBelow rfl rfl rfl (by decide +kernel) ⟨Nat.le_of_ble_eq_true rfl, Nat.le_of_ble_eq_true rfl⟩) hB rfl hl.1 rfl (Nat.le_of_ble_eq_true rfl) dX8_ask_13 ⟨Nat.le_of_ble_eq_true rfl, Nat.le_of_ble_eq_true rfl⟩ (fun H locs hB => ?_)
  refine b_if_eq_f 33 hx hb dX8_ask_16 (by decide) (by decide) ?_
  refine lv_aload hx hb dX8_ask_19 (lv_at hl 0 rfl) ?_
  refine lv_ifnull hx hb dX8_ask_21 ?_
  refine lv_iload_n hx hb dX8_ask_24 rfl (lv_at hl 4 rfl) ?_
  refine lv_bipush (v := 10) hx hb dX8_ask_25 (by decide) ?_
  refine m_callSE (As := [.int tp, .int 10]) (rest := []) (c_isBelow_t l D ty L ad _ _ _ (by omega) (by omega)) ⟨hx, hb, hml, hown, hts⟩ (va_cwS 2 hts gX8_ask_X8_isBelow rfl rfl rfl (by decide +kernel) ⟨Nat.le_of_ble_eq_true rfl, Nat.le_of_ble_eq_true rfl⟩) hB rfl hl.1 rfl (Nat.le_of_ble_eq_true rfl) dX8_ask_27 ⟨Nat.le_of_ble_eq_true rfl, Nat.le_of_ble_eq_true rfl⟩ (fun H locs hB => ?_)
  refine b_if_ne_t 35 hx hb dX8_ask_30 (by decide) (by decide) ?_
  refine lv_aload_n hx hb dX8_ask_35 rfl (lv_at hl 1 rfl) ?_
  refine lv_aload hx hb dX8_ask_36 (lv_at hl 0 rfl) ?_
  refine lv_iload_n hx hb dX8_ask_38 rfl (lv_at hl 2 rfl) ?_
  refine m_callVE (ci := 8) (As := [.ref (ad pp), .int (nI b)]) (rest := []) (c_X_isOpen0 l D ty L ad g pn qn nw tr fs fe pp pt vn wd lg b f m_0 m_3 m_4 m_5 m_pp h_0 h_3 h_4 h_5 h_pp hb6 hf4 hwd) ⟨hx, hb, hml, hown, hts⟩ (cwV 2 hts gX8_ask_X8_isOpen rfl rfl rfl (by decide +kernel) ⟨Nat.le_of_ble_eq_true rfl, Nat.le_of_ble_eq_true rfl⟩) hB m_0 h_0 rfl rfl hl.1 rfl (Nat.le_of_ble_eq_true rfl) dX8_ask_39 ⟨Nat.le_of_ble_eq_true rfl, Nat.le_of_ble_eq_true rfl⟩ (fun H locs hB => ?_)
  refine b_if_ne_t 48 hx hb dX8_ask_42 (by decide) (by rw [hs]; decide) ?_
  refine lv_aload_n hx hb dX8_ask_48 rfl (lv_at hl 1 rfl) ?_
  refine m_get (C := RX8) (T := TX8) (N := 12) (ci := 8) hx hb hts in_X8_ask_X8 hown hB m_0 h_0 rfl 9 (by decide) (hts (.fieldLink RX8 51 "PaperRoom" "asksThisTick" "[I") (by decide +kernel)) (fun _ h9 => h9) rfl dX8_ask_49 ?_
  refine lv_iload_n hx hb dX8_ask_52 rfl (lv_at hl 2 rfl) ?_
  refine n_iald hx hb hB m_29 h_29 b rfl (by omega) (by omega) dX8_ask_53 ?_
  refine lv_iconst (v := 2) hx hb dX8_ask_54 (by decide) ?_
  refine b_icmp_lt_t 61 hx hb dX8_ask_55 (by decide) (by rw [l2]; omega) ?_
  refine lv_aload_n hx hb dX8_ask_61 rfl (lv_at hl 1 rfl) ?_
  refine lv_iload_n hx hb dX8_ask_62 rfl (lv_at hl 3 rfl) ?_
  refine lv_iload_n hx hb dX8_ask_63 rfl (lv_at hl 4 rfl) ?_
  refine m_callVE (ci := 8) (As := [.int (nI k), .int tp]) (rest := []) (c_X_questionOn_t l D ty L ad g pn qn nw tr qf qr qp qt qa qc qv (nI k) tp q m_0 m_28 h_0 h_28 hq0 hq1 hq2 hqn hq hyes hno) ⟨hx, hb, hml, hown, hts⟩ (cwV 2 hts gX8_ask_X8_questionOn rfl rfl rfl (by decide +kernel) ⟨Nat.le_of_ble_eq_true rfl, Nat.le_of_ble_eq_true rfl⟩) hB m_0 h_0 rfl rfl hl.1 rfl (Nat.le_of_ble_eq_true rfl) dX8_ask_64 ⟨Nat.le_of_ble_eq_true rfl, Nat.le_of_ble_eq_true rfl⟩ (fun H locs hB => ?_)
  refine lv_istore (lv' := [(5, .int (nI q)), (4, .ref (ad pp)), (0, .ref (ad 0)), (1, .int (nI b)), (2, .int (nI k)), (3, .int tp)]) hx hb dX8_ask_67 hl (by decide) rfl (fun ls hl => ?_)
  refine lv_aload_n hx hb dX8_ask_69 rfl (lv_at hl 2 rfl) ?_
  refine lv_iload hx hb dX8_ask_70 (lv_at hl 0 rfl) ?_
  refine m_callVE (ci := 8) (As := [.int (nI q)]) (rest := []) ((by have h9 := c_X_questionNumber_t l D ty L ad g pn qn nw tr qf q m_0 m_28 h_0 h_28 (by omega); rw [hq0 q hq] at h9; exact h9 : m_E l yX8_questionNumber wsX8_questionNumber 1 21 D ty [.ref (ad 0), .int (nI q)] L ad g (some (.ref (ad (qr q)))) g)) ⟨hx, hb, hml, hown, hts⟩ (cwV 1 hts gX8_ask_X8_questionNumber rfl rfl rfl (by decide +kernel) ⟨Nat.le_of_ble_eq_true rfl, Nat.le_of_ble_eq_true rfl⟩) hB m_0 h_0 rfl rfl hl.1 rfl (Nat.le_of_ble_eq_true rfl) dX8_ask_72 ⟨Nat.le_of_ble_eq_true rfl, Nat.le_of_ble_eq_true rfl⟩ (fun H locs hB => ?_)
  refine lv_astore (lv' := [(6, .ref (ad (qr q))), (5, .int (nI q)), (4, .ref (ad pp)), (0, .ref (ad 0)), (1, .int (nI b)), (2, .int (nI k)), (3, .int tp)]) hx hb dX8_ask_75 hl (by decide) rfl (fun ls hl => ?_)
  refine lv_aload hx hb dX8_ask_77 (lv_at hl 0 rfl) ?_
  refine lv_ifnonnull (tgt := 85) hx hb dX8_ask_79 (by decide) ?_
  refine lv_aload hx hb dX8_ask_85 (lv_at hl 0 rfl) ?_
  refine lv_iload_n hx hb dX8_ask_87 rfl (lv_at hl 4 rfl) ?_
  refine m_callVZ (ci := 3) (As := [.int (nI b)]) (rest := []) (c_Question_join l D ty L ad g (qr q) (qp q) (qt q) (qa q) (qc q) (qv q) (nI b) (hq1 q hq) (hq2 q hq)) ⟨hx, hb, hml, hown, hts⟩ (cwV 1 hts gX8_ask_X3_join rfl rfl rfl (by decide +kernel) ⟨Nat.le_of_ble_eq_true rfl, Nat.le_of_ble_eq_true rfl⟩) hB (hq1 q hq) (hq2 q hq) rfl rfl hl.1 rfl (Nat.le_of_ble_eq_true rfl) dX8_ask_88 ⟨Nat.le_of_ble_eq_true rfl, Nat.le_of_ble_eq_true rfl⟩ (fun H locs hB => ?_)
  replace hB : m_B D ty A s L ad (va_up g (qr q) (.inr (3, [.int (qp q), .int (qt q), .int (qa q ||| (1 <<< (nI b &&& 31))), .int (qc q), .int (qv q)]))) H locs := hB
  refine lv_aload_n hx hb dX8_ask_91 rfl (lv_at hl 3 rfl) ?_
  refine m_get (C := RX8) (T := TX8) (N := 12) (ci := 8) hx hb hts in_X8_ask_X8 hown hB m_0 ((va_up_ne _ _ (by omega)).trans h_0) rfl 9 (by decide) (hts (.fieldLink RX8 51 "PaperRoom" "asksThisTick" "[I") (by decide +kernel)) (fun _ h9 => h9) rfl dX8_ask_92 ?_
  refine lv_iload_n hx hb dX8_ask_95 rfl (lv_at hl 4 rfl) ?_
  refine lv_dup2_11 hx hb dX8_ask_96 rfl rfl ?_
  refine n_iald hx hb hB m_29 ((va_up_ne _ _ (by omega)).trans h_29) b rfl (by omega) (by omega) dX8_ask_97 ?_
  refine lv_iconst (v := 1) hx hb dX8_ask_98 (by decide) ?_
  refine lv_iadd hx hb dX8_ask_99 ?_
  refine n_iast hx hb hB m_29 ((va_up_ne _ _ (by omega)).trans h_29) b rfl (by omega) (by omega) dX8_ask_100 (fun H locs hB => ?_)
  replace hB : m_B D ty A s L ad (va_up (va_up g (qr q) (.inr (3, [.int (qp q), .int (qt q), .int (qa q ||| (1 <<< (nI b &&& 31))), .int (qc q), .int (qv q)]))) 29 (.inl (ty 0, 6, .inl (upd ak b ((ak b) + 1))))) H locs := hB
  refine lv_iload hx hb dX8_ask_101 (lv_at hl 1 rfl) ?_
  exact m_iret hx hb hrt hlocks hB (Nat.le_refl _) (Nat.le_refl _) dX8_ask_103 ⟨rfl, rfl, rfl, rfl⟩
set_option maxHeartbeats 1000000 in
set_option maxRecDepth 100000 in
theorem c_X_ask0_new (l : Launch) (D : va_G) (ty : Nat → ClassId) (L : List Nat) (ad : Nat → Nat) (g : Nat → va_E) (pn qn : Nat) (nw : Int32) (tr : Int64) (pf : Nat → Option Nat) (ak : Nat → Int32) (fs fe : Nat → Int32) (pp pt vn : Nat) (wd : Int32) (lg : Int32) (qf : Nat → Option Nat) (qr : Nat → Nat) (qp qt qa qc qv : Nat → Int32) (k b f : Nat) (tp : Int32) (nq : Nat) (hL0 : ∀ r, r < 30 → r ∈ L) (m_pp : pp ∈ L) (h_0 : g 0 = .inr (8, [.ref (ad 1), .ref (ad 3), .ref (ad 6), .int (nI pn), .ref (ad 7), .ref (ad 20), .ref (ad 22), .ref (ad 28), .int (nI qn), .ref (ad 29), .int nw, .long tr])) (h_3 : g 3 = .inr (4, [.ref (ad 4), .ref (ad 5)])) (h_4 : g 4 = .inl (ty 0, 12, .inl fs)) (h_5 : g 5 = .inl (ty 0, 12, .inl fe)) (h_6 : g 6 = .inl (ty 4, 8, .inr (.inr (.inr (.inr pf))))) (h_28 : g 28 = .inl (ty 5, 30, .inr (.inr (.inr (.inr qf))))) (h_29 : g 29 = .inl (ty 0, 6, .inl ak)) (h_pp : g pp = .inr (0, [.int (nI f), .ref (ad pt), .int (nI vn), .int wd, .int lg])) (hk : k < 8) (hpp : pf k = some (ad pp)) (hb6 : b < 6) (hf4 : f < 4) (hwd : wd = 0 ∨ wd = 1) (h30 : 30 ≤ pp) (htp : 0 ≤ tp.toInt ∧ tp.toInt < 10) (hs : (opn wd fs fe (b % 3 * 4 + f) nw && decide (lg.toInt ≤ nw.toInt)) = true) (hak : (ak b).toInt < 2) (hq0 : ∀ i, i < qn → qf i = some (ad (qr i))) (hq1 : ∀ i, i < qn → qr i ∈ L) (hq2 : ∀ i, i < qn → g (qr i) = .inr (3, [.int (qp i), .int (qt i), .int (qa i), .int (qc i), .int (qv i)])) (hqn : qn ≤ 30) (hq30 : qn < 30) (hno : ∀ i, i < qn → ¬ (qp i = nI k ∧ qt i = tp)) (n_nq : nq ∉ L) (hb_nq : 30 ≤ nq) : m_C l yX8_ask wsX8_ask 5 113 1 5 D ty [.ref (ad 0), .int (nI b), .int (nI k), .int tp] L ad g (fun v1 L1 ad1 g1 => v1 = some (.int (nI qn)) ∧ L1 = (L ++ [nq]) ∧ (∀ x ∈ L, ad x = ad1 x) ∧ (∀ x ∈ L, x ≠ 28 → x ≠ 0 → x ≠ 29 → g1 x = g x) ∧ g1 nq = .inr (3, [.int (nI k), .int tp, .int ((0 : Int32) ||| (1 <<< (nI b &&& 31))), .int 0, .int 0]) ∧ g1 28 = .inl (ty 5, 30, .inr (.inr (.inr (.inr (va_up qf qn (some (ad1 nq))))))) ∧ g1 0 = .inr (8, [.ref (ad1 1), .ref (ad1 3), .ref (ad1 6), .int (nI pn), .ref (ad1 7), .ref (ad1 20), .ref (ad1 22), .ref (ad1 28), .int (nI (qn + 1)), .ref (ad1 29), .int nw, .long tr]) ∧ g1 29 = .inl (ty 0, 6, .inl (upd ak b (ak b + 1)))) := by
  intro sz
  refine Met.ofW (cc := cX8_ask) (maxL := 7) (ret := (some .int)) (by decide) rfl ?_
  intro p e s m args below meth c s₁ B hml hv
  have hx := B.exec
  have hb := B.bytes
  have hrt := B.returns
  have hts := atoms_spec (ws := wsX8_ask) B.pre
  have hown : s.vm.findClass RX8 = some m.cls := findClass_of_methodNamed B.named
  have hlocks := B.notSynchronized
  obtain ⟨rfl, hB⟩ := m_start hv
  generalize va_A (m_w L ad g) sz = A at hB ⊢
  generalize s.heap = H at hB ⊢
  generalize ([] : List Loc) = locs at hB ⊢
  have hl := lv_entry ([.ref (ad 0), .int (nI b), .int (nI k), .int tp]) (n := 7) (Nat.le_of_ble_eq_true rfl)
  rw [lg_entry_eq]
  generalize (lg_sl ([.ref (ad 0), .int (nI b), .int (nI k), .int tp]) ++ List.replicate (7 - (lg_sl ([.ref (ad 0), .int (nI b), .int (nI k), .int tp])).length) Slot.unset).toArray = ls at hl ⊢
  have hl : lv_has ls 7 [(0, .ref (ad 0)), (1, .int (nI b)), (2, .int (nI k)), (3, .int tp)] := hl
  have tI_b : (nI b).toInt = (b : Int) := nI_toInt (by omega)
  have ln : (nI 6).toInt = 6 := by decide
  have l10 : (10 : Int32).toInt = 10 := by decide
  have l2 : (2 : Int32).toInt = 2 := by decide
  refine lv_aload_n hx hb dX8_ask_0 rfl (lv_at hl 0 rfl) ?_
  refine lv_iload_n hx hb dX8_ask_1 rfl (lv_at hl 2 rfl) ?_
  refine m_callVE (ci := 8) (As := [.int (nI k)]) (rest := []) ((by have h9 := c_X_paperNumber_t l D ty L ad g pn qn nw tr pf k (hL0 0 (by decide)) (hL0 6 (by decide)) h_0 h_6 hk; rw [hpp] at h9; exact h9 : m_E l yX8_paperNumber wsX8_paperNumber 1 21 D ty [.ref (ad 0), .int (nI k)] L ad g (some (.ref (ad pp))) g)) ⟨hx, hb, hml, hown, hts⟩ (cwV 1 hts gX8_ask_X8_paperNumber rfl rfl rfl (by decide +kernel) ⟨Nat.le_of_ble_eq_true rfl, Nat.le_of_ble_eq_true rfl⟩) hB (hL0 0 (by decide)) h_0 rfl rfl hl.1 rfl (Nat.le_of_ble_eq_true rfl) dX8_ask_2 ⟨Nat.le_of_ble_eq_true rfl, Nat.le_of_ble_eq_true rfl⟩ (fun H locs hB => ?_)
  refine lv_astore (lv' := [(4, .ref (ad pp)), (0, .ref (ad 0)), (1, .int (nI b)), (2, .int (nI k)), (3, .int tp)]) hx hb dX8_ask_5 hl (by decide) rfl (fun ls hl => ?_)
  refine lv_iload_n hx hb dX8_ask_7 rfl (lv_at hl 2 rfl) ?_
  refine lv_aload_n hx hb dX8_ask_8 rfl (lv_at hl 1 rfl) ?_
  refine m_get (C := RX8) (T := TX8) (N := 12) (ci := 8) hx hb hts in_X8_ask_X8 hown hB (hL0 0 (by decide)) h_0 rfl 9 (by decide) (hts (.fieldLink RX8 51 "PaperRoom" "asksThisTick" "[I") (by decide +kernel)) (fun _ h9 => h9) rfl dX8_ask_9 ?_
  refine m_alen hx hb hB (hL0 29 (by decide)) 0 h_29 rfl (v := nI 6) rfl dX8_ask_12 ?_
  refine m_callSE (As := [.int (nI b), .int (nI 6)]) (rest := []) (c_isBelow_t l D ty L ad _ _ _ (by omega) (by omega)) ⟨hx, hb, hml, hown, hts⟩ (va_cwS 2 hts gX8_ask_X8_isBelow rfl rfl rfl (by decide +kernel) ⟨Nat.le_of_ble_eq_true rfl, Nat.le_of_ble_eq_true rfl⟩) hB rfl hl.1 rfl (Nat.le_of_ble_eq_true rfl) dX8_ask_13 ⟨Nat.le_of_ble_eq_true rfl, Nat.le_of_ble_eq_true rfl⟩ (fun H locs hB => ?_)
  refine b_if_eq_f 33 hx hb dX8_ask_16 (by decide) (by decide) ?_
  refine lv_aload hx hb dX8_ask_19 (lv_at hl 0 rfl) ?_
  refine lv_ifnull hx hb dX8_ask_21 ?_
  refine lv_iload_n hx hb dX8_ask_24 rfl (lv_at hl 4 rfl) ?_
  refine lv_bipush (v := 10) hx hb dX8_ask_25 (by decide) ?_
  refine m_callSE (As := [.int tp, .int 10]) (rest := []) (c_isBelow_t l D ty L ad _ _ _ (by omega) (by omega)) ⟨hx, hb, hml, hown, hts⟩ (va_cwS 2 hts gX8_ask_X8_isBelow rfl rfl rfl (by decide +kernel) ⟨Nat.le_of_ble_eq_true rfl, Nat.le_of_ble_eq_true rfl⟩) hB rfl hl.1 rfl (Nat.le_of_ble_eq_true rfl) dX8_ask_27 ⟨Nat.le_of_ble_eq_true rfl, Nat.le_of_ble_eq_true rfl⟩ (fun H locs hB => ?_)
  refine b_if_ne_t 35 hx hb dX8_ask_30 (by decide) (by decide) ?_
  refine lv_aload_n hx hb dX8_ask_35 rfl (lv_at hl 1 rfl) ?_
  refine lv_aload hx hb dX8_ask_36 (lv_at hl 0 rfl) ?_
  refine lv_iload_n hx hb dX8_ask_38 rfl (lv_at hl 2 rfl) ?_
  refine m_callVE (ci := 8) (As := [.ref (ad pp), .int (nI b)]) (rest := []) (c_X_isOpen0 l D ty L ad g pn qn nw tr fs fe pp pt vn wd lg b f (hL0 0 (by decide)) (hL0 3 (by decide)) (hL0 4 (by decide)) (hL0 5 (by decide)) m_pp h_0 h_3 h_4 h_5 h_pp hb6 hf4 hwd) ⟨hx, hb, hml, hown, hts⟩ (cwV 2 hts gX8_ask_X8_isOpen rfl rfl rfl (by decide +kernel) ⟨Nat.le_of_ble_eq_true rfl, Nat.le_of_ble_eq_true rfl⟩) hB (hL0 0 (by decide)) h_0 rfl rfl hl.1 rfl (Nat.le_of_ble_eq_true rfl) dX8_ask_39 ⟨Nat.le_of_ble_eq_true rfl, Nat.le_of_ble_eq_true rfl⟩ (fun H locs hB => ?_)
  refine b_if_ne_t 48 hx hb dX8_ask_42 (by decide) (by rw [hs]; decide) ?_
  refine lv_aload_n hx hb dX8_ask_48 rfl (lv_at hl 1 rfl) ?_
  refine m_get (C := RX8) (T := TX8) (N := 12) (ci := 8) hx hb hts in_X8_ask_X8 hown hB (hL0 0 (by decide)) h_0 rfl 9 (by decide) (hts (.fieldLink RX8 51 "PaperRoom" "asksThisTick" "[I") (by decide +kernel)) (fun _ h9 => h9) rfl dX8_ask_49 ?_
  refine lv_iload_n hx hb dX8_ask_52 rfl (lv_at hl 2 rfl) ?_
  refine n_iald hx hb hB (hL0 29 (by decide)) h_29 b rfl (by omega) (by omega) dX8_ask_53 ?_
  refine lv_iconst (v := 2) hx hb dX8_ask_54 (by decide) ?_
  refine b_icmp_lt_t 61 hx hb dX8_ask_55 (by decide) (by rw [l2]; omega) ?_
  refine lv_aload_n hx hb dX8_ask_61 rfl (lv_at hl 1 rfl) ?_
  refine lv_iload_n hx hb dX8_ask_62 rfl (lv_at hl 3 rfl) ?_
  refine lv_iload_n hx hb dX8_ask_63 rfl (lv_at hl 4 rfl) ?_
  refine m_callV (ci := 8) (As := [.int (nI k), .int tp]) (rest := []) (c_X_questionOn_new l D ty L ad g pn qn nw tr qf qr qp qt qa qc qv (nI k) tp nq hL0 h_0 h_28 hq0 hq1 hq2 hqn hq30 n_nq hb_nq hno) ⟨hx, hb, hml, hown, hts⟩ (cwV 2 hts gX8_ask_X8_questionOn rfl rfl rfl (by decide +kernel) ⟨Nat.le_of_ble_eq_true rfl, Nat.le_of_ble_eq_true rfl⟩) hB (hL0 0 (by decide)) h_0 rfl rfl hl.1 rfl (Nat.le_of_ble_eq_true rfl) dX8_ask_64 ⟨Nat.le_of_ble_eq_true rfl, Nat.le_of_ble_eq_true rfl⟩ (fun v164 L164 ad_164 g164 H locs hp164 hB => ?_)
  obtain ⟨q1_164, q2_164, had_164, hfr_164, hf164_0, hf164_1, hf164_2⟩ := hp164
  subst q2_164
  have e164_0 : ad 0 = ad_164 0 := had_164 0 (hL0 0 (by decide))
  have e164_1 : ad 1 = ad_164 1 := had_164 1 (hL0 1 (by decide))
  have e164_20 : ad 20 = ad_164 20 := had_164 20 (hL0 20 (by decide))
  have e164_22 : ad 22 = ad_164 22 := had_164 22 (hL0 22 (by decide))
  have e164_28 : ad 28 = ad_164 28 := had_164 28 (hL0 28 (by decide))
  have e164_29 : ad 29 = ad_164 29 := had_164 29 (hL0 29 (by decide))
  have e164_3 : ad 3 = ad_164 3 := had_164 3 (hL0 3 (by decide))
  have e164_4 : ad 4 = ad_164 4 := had_164 4 (hL0 4 (by decide))
  have e164_5 : ad 5 = ad_164 5 := had_164 5 (hL0 5 (by decide))
  have e164_6 : ad 6 = ad_164 6 := had_164 6 (hL0 6 (by decide))
  have e164_7 : ad 7 = ad_164 7 := had_164 7 (hL0 7 (by decide))
  have e164_pp : ad pp = ad_164 pp := had_164 pp m_pp
  replace hl : lv_has ls 7 [(4, .ref (ad_164 pp)), (0, .ref (ad_164 0)), (1, .int (nI b)), (2, .int (nI k)), (3, .int tp)] := by rw [← e164_0, ← e164_pp]; exact hl
  have fa164_0 : g 0 = .inr (8, [.ref (ad_164 1), .ref (ad_164 3), .ref (ad_164 6), .int (nI pn), .ref (ad_164 7), .ref (ad_164 20), .ref (ad_164 22), .ref (ad_164 28), .int (nI qn), .ref (ad_164 29), .int nw, .long tr]) := by rw [← e164_1, ← e164_20, ← e164_22, ← e164_28, ← e164_29, ← e164_3, ← e164_6, ← e164_7]; exact h_0
  have fa164_3 : g 3 = .inr (4, [.ref (ad_164 4), .ref (ad_164 5)]) := by rw [← e164_4, ← e164_5]; exact h_3
  refine W.eq (g2 := F0 m 67 ls [.int (nI qn)]) (by rw [q1_164]; rfl) ?_
  refine lv_istore (lv' := [(5, .int (nI qn)), (4, .ref (ad_164 pp)), (0, .ref (ad_164 0)), (1, .int (nI b)), (2, .int (nI k)), (3, .int tp)]) hx hb dX8_ask_67 hl (by decide) rfl (fun ls hl => ?_)
  refine lv_aload_n hx hb dX8_ask_69 rfl (lv_at hl 2 rfl) ?_
  refine lv_iload hx hb dX8_ask_70 (lv_at hl 0 rfl) ?_
  refine m_callVE (ci := 8) (As := [.int (nI qn)]) (rest := []) ((by have h9 := c_X_questionNumber_t l D ty (L ++ [nq]) ad_164 g164 pn (qn + 1) nw tr (va_up qf qn (some (ad_164 nq))) qn (List.mem_append_left _ (hL0 0 (by decide))) (List.mem_append_left _ (hL0 28 (by decide))) hf164_2 hf164_1 (by omega); rw [va_up_self] at h9; exact h9 : m_E l yX8_questionNumber wsX8_questionNumber 1 21 D ty [.ref (ad_164 0), .int (nI qn)] (L ++ [nq]) ad_164 g164 (some (.ref (ad_164 nq))) g164)) ⟨hx, hb, hml, hown, hts⟩ (cwV 1 hts gX8_ask_X8_questionNumber rfl rfl rfl (by decide +kernel) ⟨Nat.le_of_ble_eq_true rfl, Nat.le_of_ble_eq_true rfl⟩) hB (List.mem_append_left _ (hL0 0 (by decide))) hf164_2 rfl rfl hl.1 rfl (Nat.le_of_ble_eq_true rfl) dX8_ask_72 ⟨Nat.le_of_ble_eq_true rfl, Nat.le_of_ble_eq_true rfl⟩ (fun H locs hB => ?_)
  refine lv_astore (lv' := [(6, .ref (ad_164 nq)), (5, .int (nI qn)), (4, .ref (ad_164 pp)), (0, .ref (ad_164 0)), (1, .int (nI b)), (2, .int (nI k)), (3, .int tp)]) hx hb dX8_ask_75 hl (by decide) rfl (fun ls hl => ?_)
  refine lv_aload hx hb dX8_ask_77 (lv_at hl 0 rfl) ?_
  refine lv_ifnonnull (tgt := 85) hx hb dX8_ask_79 (by decide) ?_
  refine lv_aload hx hb dX8_ask_85 (lv_at hl 0 rfl) ?_
  refine lv_iload_n hx hb dX8_ask_87 rfl (lv_at hl 4 rfl) ?_
  refine m_callVZ (ci := 3) (As := [.int (nI b)]) (rest := []) (c_Question_join l D ty (L ++ [nq]) ad_164 g164 nq (nI k) tp 0 0 0 (nI b) (List.mem_append_right _ List.mem_cons_self) hf164_0) ⟨hx, hb, hml, hown, hts⟩ (cwV 1 hts gX8_ask_X3_join rfl rfl rfl (by decide +kernel) ⟨Nat.le_of_ble_eq_true rfl, Nat.le_of_ble_eq_true rfl⟩) hB (List.mem_append_right _ List.mem_cons_self) hf164_0 rfl rfl hl.1 rfl (Nat.le_of_ble_eq_true rfl) dX8_ask_88 ⟨Nat.le_of_ble_eq_true rfl, Nat.le_of_ble_eq_true rfl⟩ (fun H locs hB => ?_)
  replace hB : m_B D ty A s (L ++ [nq]) ad_164 (va_up g164 nq (.inr (3, [.int (nI k), .int tp, .int ((0 : Int32) ||| (1 <<< (nI b &&& 31))), .int 0, .int 0]))) H locs := hB
  refine lv_aload_n hx hb dX8_ask_91 rfl (lv_at hl 3 rfl) ?_
  refine m_get (C := RX8) (T := TX8) (N := 12) (ci := 8) hx hb hts in_X8_ask_X8 hown hB (List.mem_append_left _ (hL0 0 (by decide))) ((va_up_ne _ _ (by omega)).trans hf164_2) rfl 9 (by decide) (hts (.fieldLink RX8 51 "PaperRoom" "asksThisTick" "[I") (by decide +kernel)) (fun _ h9 => h9) rfl dX8_ask_92 ?_
  refine lv_iload_n hx hb dX8_ask_95 rfl (lv_at hl 4 rfl) ?_
  refine lv_dup2_11 hx hb dX8_ask_96 rfl rfl ?_
  refine n_iald hx hb hB (List.mem_append_left _ (hL0 29 (by decide))) ((va_up_ne _ _ (by omega)).trans ((hfr_164 29 (hL0 29 (by decide)) (by decide) (by decide)).trans h_29)) b rfl (by omega) (by omega) dX8_ask_97 ?_
  refine lv_iconst (v := 1) hx hb dX8_ask_98 (by decide) ?_
  refine lv_iadd hx hb dX8_ask_99 ?_
  refine n_iast hx hb hB (List.mem_append_left _ (hL0 29 (by decide))) ((va_up_ne _ _ (by omega)).trans ((hfr_164 29 (hL0 29 (by decide)) (by decide) (by decide)).trans h_29)) b rfl (by omega) (by omega) dX8_ask_100 (fun H locs hB => ?_)
  replace hB : m_B D ty A s (L ++ [nq]) ad_164 (va_up (va_up g164 nq (.inr (3, [.int (nI k), .int tp, .int ((0 : Int32) ||| (1 <<< (nI b &&& 31))), .int 0, .int 0]))) 29 (.inl (ty 0, 6, .inl (upd ak b ((ak b) + 1))))) H locs := hB
  refine lv_iload hx hb dX8_ask_101 (lv_at hl 1 rfl) ?_
  exact m_iret hx hb hrt hlocks hB (Nat.le_refl _) (Nat.le_refl _) dX8_ask_103 ⟨rfl, rfl, (fun x hx => had_164 x hx), (fun x hx hn_28 hn_0 hn_29 => ((va_up_ne _ _ hn_29).trans ((va_up_ne _ _ (fun e9 => n_nq (by rw [← e9]; exact hx))).trans ((hfr_164 x hx hn_28 hn_0).trans rfl)))), ((va_up_ne _ _ (by omega)).trans (va_up_self _ _ _)), ((va_up_ne _ _ (by decide)).trans ((va_up_ne _ _ (by omega)).trans hf164_1)), ((va_up_ne _ _ (by decide)).trans ((va_up_ne _ _ (by omega)).trans hf164_2)), (va_up_self _ _ _)⟩
set_option maxHeartbeats 1000000 in
set_option maxRecDepth 100000 in
theorem c_X_ask1_t (l : Launch) (D : va_G) (ty : Nat → ClassId) (L : List Nat) (ad : Nat → Nat) (g : Nat → va_E) (pn qn : Nat) (nw : Int32) (tr : Int64) (pf : Nat → Option Nat) (ak : Nat → Int32) (fs fe : Nat → Int32) (pp pt vn : Nat) (wd : Int32) (qf : Nat → Option Nat) (qr : Nat → Nat) (qp qt qa qc qv : Nat → Int32) (k b f : Nat) (tp : Int32) (m_0 : 0 ∈ L) (m_3 : 3 ∈ L) (m_4 : 4 ∈ L) (m_5 : 5 ∈ L) (m_6 : 6 ∈ L) (m_28 : 28 ∈ L) (m_29 : 29 ∈ L) (m_pp : pp ∈ L) (h_0 : g 0 = .inr (8, [.ref (ad 1), .ref (ad 3), .ref (ad 6), .int (nI pn), .ref (ad 7), .ref (ad 20), .ref (ad 22), .ref (ad 28), .int (nI qn), .ref (ad 29), .int nw, .long tr])) (h_3 : g 3 = .inr (4, [.ref (ad 4), .ref (ad 5)])) (h_4 : g 4 = .inl (ty 0, 12, .inl fs)) (h_5 : g 5 = .inl (ty 0, 12, .inl fe)) (h_6 : g 6 = .inl (ty 4, 8, .inr (.inr (.inr (.inr pf))))) (h_28 : g 28 = .inl (ty 5, 30, .inr (.inr (.inr (.inr qf))))) (h_29 : g 29 = .inl (ty 0, 6, .inl ak)) (h_pp : g pp = .inr (1, [.int (nI f), .ref (ad pt), .int (nI vn), .int wd])) (hk : k < 8) (hpp : pf k = some (ad pp)) (hb6 : b < 6) (hf4 : f < 4) (hwd : wd = 0 ∨ wd = 1) (h30 : 30 ≤ pp) (htp : ¬ (0 ≤ tp.toInt ∧ tp.toInt < 10)) : m_E l yX8_ask wsX8_ask 5 113 D ty [.ref (ad 0), .int (nI b), .int (nI k), .int tp] L ad g (some (.int (-1))) g := by
  intro sz
  refine Met.ofW (cc := cX8_ask) (maxL := 7) (ret := (some .int)) (by decide) rfl ?_
  intro p e s m args below meth c s₁ B hml hv
  have hx := B.exec
  have hb := B.bytes
  have hrt := B.returns
  have hts := atoms_spec (ws := wsX8_ask) B.pre
  have hown : s.vm.findClass RX8 = some m.cls := findClass_of_methodNamed B.named
  have hlocks := B.notSynchronized
  obtain ⟨rfl, hB⟩ := m_start hv
  generalize va_A (m_w L ad g) sz = A at hB ⊢
  generalize s.heap = H at hB ⊢
  generalize ([] : List Loc) = locs at hB ⊢
  have hl := lv_entry ([.ref (ad 0), .int (nI b), .int (nI k), .int tp]) (n := 7) (Nat.le_of_ble_eq_true rfl)
  rw [lg_entry_eq]
  generalize (lg_sl ([.ref (ad 0), .int (nI b), .int (nI k), .int tp]) ++ List.replicate (7 - (lg_sl ([.ref (ad 0), .int (nI b), .int (nI k), .int tp])).length) Slot.unset).toArray = ls at hl ⊢
  have hl : lv_has ls 7 [(0, .ref (ad 0)), (1, .int (nI b)), (2, .int (nI k)), (3, .int tp)] := hl
  have tI_b : (nI b).toInt = (b : Int) := nI_toInt (by omega)
  have ln : (nI 6).toInt = 6 := by decide
  have l10 : (10 : Int32).toInt = 10 := by decide
  have l2 : (2 : Int32).toInt = 2 := by decide
  refine lv_aload_n hx hb dX8_ask_0 rfl (lv_at hl 0 rfl) ?_
  refine lv_iload_n hx hb dX8_ask_1 rfl (lv_at hl 2 rfl) ?_
  refine m_callVE (ci := 8) (As := [.int (nI k)]) (rest := []) ((by have h9 := c_X_paperNumber_t l D ty L ad g pn qn nw tr pf k m_0 m_6 h_0 h_6 hk; rw [hpp] at h9; exact h9 : m_E l yX8_paperNumber wsX8_paperNumber 1 21 D ty [.ref (ad 0), .int (nI k)] L ad g (some (.ref (ad pp))) g)) ⟨hx, hb, hml, hown, hts⟩ (cwV 1 hts gX8_ask_X8_paperNumber rfl rfl rfl (by decide +kernel) ⟨Nat.le_of_ble_eq_true rfl, Nat.le_of_ble_eq_true rfl⟩) hB m_0 h_0 rfl rfl hl.1 rfl (Nat.le_of_ble_eq_true rfl) dX8_ask_2 ⟨Nat.le_of_ble_eq_true rfl, Nat.le_of_ble_eq_true rfl⟩ (fun H locs hB => ?_)
  refine lv_astore (lv' := [(4, .ref (ad pp)), (0, .ref (ad 0)), (1, .int (nI b)), (2, .int (nI k)), (3, .int tp)]) hx hb dX8_ask_5 hl (by decide) rfl (fun ls hl => ?_)
  refine lv_iload_n hx hb dX8_ask_7 rfl (lv_at hl 2 rfl) ?_
  refine lv_aload_n hx hb dX8_ask_8 rfl (lv_at hl 1 rfl) ?_
  refine m_get (C := RX8) (T := TX8) (N := 12) (ci := 8) hx hb hts in_X8_ask_X8 hown hB m_0 h_0 rfl 9 (by decide) (hts (.fieldLink RX8 51 "PaperRoom" "asksThisTick" "[I") (by decide +kernel)) (fun _ h9 => h9) rfl dX8_ask_9 ?_
  refine m_alen hx hb hB m_29 0 h_29 rfl (v := nI 6) rfl dX8_ask_12 ?_
  refine m_callSE (As := [.int (nI b), .int (nI 6)]) (rest := []) (c_isBelow_t l D ty L ad _ _ _ (by omega) (by omega)) ⟨hx, hb, hml, hown, hts⟩ (va_cwS 2 hts gX8_ask_X8_isBelow rfl rfl rfl (by decide +kernel) ⟨Nat.le_of_ble_eq_true rfl, Nat.le_of_ble_eq_true rfl⟩) hB rfl hl.1 rfl (Nat.le_of_ble_eq_true rfl) dX8_ask_13 ⟨Nat.le_of_ble_eq_true rfl, Nat.le_of_ble_eq_true rfl⟩ (fun H locs hB => ?_)
  refine b_if_eq_f 33 hx hb dX8_ask_16 (by decide) (by decide) ?_
  refine lv_aload hx hb dX8_ask_19 (lv_at hl 0 rfl) ?_
  refine lv_ifnull hx hb dX8_ask_21 ?_
  refine lv_iload_n hx hb dX8_ask_24 rfl (lv_at hl 4 rfl) ?_
  refine lv_bipush (v := 10) hx hb dX8_ask_25 (by decide) ?_
  refine m_callSE (As := [.int tp, .int 10]) (rest := []) (c_isBelow_f l D ty L ad _ _ _ (by omega)) ⟨hx, hb, hml, hown, hts⟩ (va_cwS 2 hts gX8_ask_X8_isBelow rfl rfl rfl (by decide +kernel) ⟨Nat.le_of_ble_eq_true rfl, Nat.le_of_ble_eq_true rfl⟩) hB rfl hl.1 rfl (Nat.le_of_ble_eq_true rfl) dX8_ask_27 ⟨Nat.le_of_ble_eq_true rfl, Nat.le_of_ble_eq_true rfl⟩ (fun H locs hB => ?_)
  refine b_if_ne_f 35 hx hb dX8_ask_30 (by decide) (by decide) ?_
  refine lv_iconst (v := (-1)) hx hb dX8_ask_33 (by decide) ?_
  exact m_iret hx hb hrt hlocks hB (Nat.le_refl _) (Nat.le_refl _) dX8_ask_34 ⟨rfl, rfl, rfl, rfl⟩
set_option maxHeartbeats 1000000 in
set_option maxRecDepth 100000 in
theorem c_X_ask1_no (l : Launch) (D : va_G) (ty : Nat → ClassId) (L : List Nat) (ad : Nat → Nat) (g : Nat → va_E) (pn qn : Nat) (nw : Int32) (tr : Int64) (pf : Nat → Option Nat) (ak : Nat → Int32) (fs fe : Nat → Int32) (pp pt vn : Nat) (wd : Int32) (qf : Nat → Option Nat) (qr : Nat → Nat) (qp qt qa qc qv : Nat → Int32) (k b f : Nat) (tp : Int32) (m_0 : 0 ∈ L) (m_3 : 3 ∈ L) (m_4 : 4 ∈ L) (m_5 : 5 ∈ L) (m_6 : 6 ∈ L) (m_28 : 28 ∈ L) (m_29 : 29 ∈ L) (m_pp : pp ∈ L) (h_0 : g 0 = .inr (8, [.ref (ad 1), .ref (ad 3), .ref (ad 6), .int (nI pn), .ref (ad 7), .ref (ad 20), .ref (ad 22), .ref (ad 28), .int (nI qn), .ref (ad 29), .int nw, .long tr])) (h_3 : g 3 = .inr (4, [.ref (ad 4), .ref (ad 5)])) (h_4 : g 4 = .inl (ty 0, 12, .inl fs)) (h_5 : g 5 = .inl (ty 0, 12, .inl fe)) (h_6 : g 6 = .inl (ty 4, 8, .inr (.inr (.inr (.inr pf))))) (h_28 : g 28 = .inl (ty 5, 30, .inr (.inr (.inr (.inr qf))))) (h_29 : g 29 = .inl (ty 0, 6, .inl ak)) (h_pp : g pp = .inr (1, [.int (nI f), .ref (ad pt), .int (nI vn), .int wd])) (hk : k < 8) (hpp : pf k = some (ad pp)) (hb6 : b < 6) (hf4 : f < 4) (hwd : wd = 0 ∨ wd = 1) (h30 : 30 ≤ pp) (htp : 0 ≤ tp.toInt ∧ tp.toInt < 10) (hs : (opn wd fs fe (b % 3 * 4 + f) nw) = false) : m_E l yX8_ask wsX8_ask 5 113 D ty [.ref (ad 0), .int (nI b), .int (nI k), .int tp] L ad g (some (.int (-4))) g := by
  intro sz
  refine Met.ofW (cc := cX8_ask) (maxL := 7) (ret := (some .int)) (by decide) rfl ?_
  intro p e s m args below meth c s₁ B hml hv
  have hx := B.exec
  have hb := B.bytes
  have hrt := B.returns
  have hts := atoms_spec (ws := wsX8_ask) B.pre
  have hown : s.vm.findClass RX8 = some m.cls := findClass_of_methodNamed B.named
  have hlocks := B.notSynchronized
  obtain ⟨rfl, hB⟩ := m_start hv
  generalize va_A (m_w L ad g) sz = A at hB ⊢
  generalize s.heap = H at hB ⊢
  generalize ([] : List Loc) = locs at hB ⊢
  have hl := lv_entry ([.ref (ad 0), .int (nI b), .int (nI k), .int tp]) (n := 7) (Nat.le_of_ble_eq_true rfl)
  rw [lg_entry_eq]
  generalize (lg_sl ([.ref (ad 0), .int (nI b), .int (nI k), .int tp]) ++ List.replicate (7 - (lg_sl ([.ref (ad 0), .int (nI b), .int (nI k), .int tp])).length) Slot.unset).toArray = ls at hl ⊢
  have hl : lv_has ls 7 [(0, .ref (ad 0)), (1, .int (nI b)), (2, .int (nI k)), (3, .int tp)] := hl
  have tI_b : (nI b).toInt = (b : Int) := nI_toInt (by omega)
  have ln : (nI 6).toInt = 6 := by decide
  have l10 : (10 : Int32).toInt = 10 := by decide
  have l2 : (2 : Int32).toInt = 2 := by decide
  refine lv_aload_n hx hb dX8_ask_0 rfl (lv_at hl 0 rfl) ?_
  refine lv_iload_n hx hb dX8_ask_1 rfl (lv_at hl 2 rfl) ?_
  refine m_callVE (ci := 8) (As := [.int (nI k)]) (rest := []) ((by have h9 := c_X_paperNumber_t l D ty L ad g pn qn nw tr pf k m_0 m_6 h_0 h_6 hk; rw [hpp] at h9; exact h9 : m_E l yX8_paperNumber wsX8_paperNumber 1 21 D ty [.ref (ad 0), .int (nI k)] L ad g (some (.ref (ad pp))) g)) ⟨hx, hb, hml, hown, hts⟩ (cwV 1 hts gX8_ask_X8_paperNumber rfl rfl rfl (by decide +kernel) ⟨Nat.le_of_ble_eq_true rfl, Nat.le_of_ble_eq_true rfl⟩) hB m_0 h_0 rfl rfl hl.1 rfl (Nat.le_of_ble_eq_true rfl) dX8_ask_2 ⟨Nat.le_of_ble_eq_true rfl, Nat.le_of_ble_eq_true rfl⟩ (fun H locs hB => ?_)
  refine lv_astore (lv' := [(4, .ref (ad pp)), (0, .ref (ad 0)), (1, .int (nI b)), (2, .int (nI k)), (3, .int tp)]) hx hb dX8_ask_5 hl (by decide) rfl (fun ls hl => ?_)
  refine lv_iload_n hx hb dX8_ask_7 rfl (lv_at hl 2 rfl) ?_
  refine lv_aload_n hx hb dX8_ask_8 rfl (lv_at hl 1 rfl) ?_
  refine m_get (C := RX8) (T := TX8) (N := 12) (ci := 8) hx hb hts in_X8_ask_X8 hown hB m_0 h_0 rfl 9 (by decide) (hts (.fieldLink RX8 51 "PaperRoom" "asksThisTick" "[I") (by decide +kernel)) (fun _ h9 => h9) rfl dX8_ask_9 ?_
  refine m_alen hx hb hB m_29 0 h_29 rfl (v := nI 6) rfl dX8_ask_12 ?_
  refine m_callSE (As := [.int (nI b), .int (nI 6)]) (rest := []) (c_isBelow_t l D ty L ad _ _ _ (by omega) (by omega)) ⟨hx, hb, hml, hown, hts⟩ (va_cwS 2 hts gX8_ask_X8_isBelow rfl rfl rfl (by decide +kernel) ⟨Nat.le_of_ble_eq_true rfl, Nat.le_of_ble_eq_true rfl⟩) hB rfl hl.1 rfl (Nat.le_of_ble_eq_true rfl) dX8_ask_13 ⟨Nat.le_of_ble_eq_true rfl, Nat.le_of_ble_eq_true rfl⟩ (fun H locs hB => ?_)
  refine b_if_eq_f 33 hx hb dX8_ask_16 (by decide) (by decide) ?_
  refine lv_aload hx hb dX8_ask_19 (lv_at hl 0 rfl) ?_
  refine lv_ifnull hx hb dX8_ask_21 ?_
  refine lv_iload_n hx hb dX8_ask_24 rfl (lv_at hl 4 rfl) ?_
  refine lv_bipush (v := 10) hx hb dX8_ask_25 (by decide) ?_
  refine m_callSE (As := [.int tp, .int 10]) (rest := []) (c_isBelow_t l D ty L ad _ _ _ (by omega) (by omega)) ⟨hx, hb, hml, hown, hts⟩ (va_cwS 2 hts gX8_ask_X8_isBelow rfl rfl rfl (by decide +kernel) ⟨Nat.le_of_ble_eq_true rfl, Nat.le_of_ble_eq_true rfl⟩) hB rfl hl.1 rfl (Nat.le_of_ble_eq_true rfl) dX8_ask_27 ⟨Nat.le_of_ble_eq_true rfl, Nat.le_of_ble_eq_true rfl⟩ (fun H locs hB => ?_)
  refine b_if_ne_t 35 hx hb dX8_ask_30 (by decide) (by decide) ?_
  refine lv_aload_n hx hb dX8_ask_35 rfl (lv_at hl 1 rfl) ?_
  refine lv_aload hx hb dX8_ask_36 (lv_at hl 0 rfl) ?_
  refine lv_iload_n hx hb dX8_ask_38 rfl (lv_at hl 2 rfl) ?_
  refine m_callVE (ci := 8) (As := [.ref (ad pp), .int (nI b)]) (rest := []) (c_X_isOpen1 l D ty L ad g pn qn nw tr fs fe pp pt vn wd b f m_0 m_3 m_4 m_5 m_pp h_0 h_3 h_4 h_5 h_pp hb6 hf4 hwd) ⟨hx, hb, hml, hown, hts⟩ (cwV 2 hts gX8_ask_X8_isOpen rfl rfl rfl (by decide +kernel) ⟨Nat.le_of_ble_eq_true rfl, Nat.le_of_ble_eq_true rfl⟩) hB m_0 h_0 rfl rfl hl.1 rfl (Nat.le_of_ble_eq_true rfl) dX8_ask_39 ⟨Nat.le_of_ble_eq_true rfl, Nat.le_of_ble_eq_true rfl⟩ (fun H locs hB => ?_)
  refine b_if_ne_f 48 hx hb dX8_ask_42 (by decide) (by rw [hs]; decide) ?_
  refine lv_bipush (v := (-4)) hx hb dX8_ask_45 (by decide) ?_
  exact m_iret hx hb hrt hlocks hB (Nat.le_refl _) (Nat.le_refl _) dX8_ask_47 ⟨rfl, rfl, rfl, rfl⟩
set_option maxHeartbeats 1000000 in
set_option maxRecDepth 100000 in
theorem c_X_ask1_state (l : Launch) (D : va_G) (ty : Nat → ClassId) (L : List Nat) (ad : Nat → Nat) (g : Nat → va_E) (pn qn : Nat) (nw : Int32) (tr : Int64) (pf : Nat → Option Nat) (ak : Nat → Int32) (fs fe : Nat → Int32) (pp pt vn : Nat) (wd : Int32) (qf : Nat → Option Nat) (qr : Nat → Nat) (qp qt qa qc qv : Nat → Int32) (k b f : Nat) (tp : Int32) (m_0 : 0 ∈ L) (m_3 : 3 ∈ L) (m_4 : 4 ∈ L) (m_5 : 5 ∈ L) (m_6 : 6 ∈ L) (m_28 : 28 ∈ L) (m_29 : 29 ∈ L) (m_pp : pp ∈ L) (h_0 : g 0 = .inr (8, [.ref (ad 1), .ref (ad 3), .ref (ad 6), .int (nI pn), .ref (ad 7), .ref (ad 20), .ref (ad 22), .ref (ad 28), .int (nI qn), .ref (ad 29), .int nw, .long tr])) (h_3 : g 3 = .inr (4, [.ref (ad 4), .ref (ad 5)])) (h_4 : g 4 = .inl (ty 0, 12, .inl fs)) (h_5 : g 5 = .inl (ty 0, 12, .inl fe)) (h_6 : g 6 = .inl (ty 4, 8, .inr (.inr (.inr (.inr pf))))) (h_28 : g 28 = .inl (ty 5, 30, .inr (.inr (.inr (.inr qf))))) (h_29 : g 29 = .inl (ty 0, 6, .inl ak)) (h_pp : g pp = .inr (1, [.int (nI f), .ref (ad pt), .int (nI vn), .int wd])) (hk : k < 8) (hpp : pf k = some (ad pp)) (hb6 : b < 6) (hf4 : f < 4) (hwd : wd = 0 ∨ wd = 1) (h30 : 30 ≤ pp) (htp : 0 ≤ tp.toInt ∧ tp.toInt < 10) (hs : (opn wd fs fe (b % 3 * 4 + f) nw) = true) (hak : 2 ≤ (ak b).toInt) : m_E l yX8_ask wsX8_ask 5 113 D ty [.ref (ad 0), .int (nI b), .int (nI k), .int tp] L ad g (some (.int (-2))) g := by
  intro sz
  refine Met.ofW (cc := cX8_ask) (maxL := 7) (ret := (some .int)) (by decide) rfl ?_
  intro p e s m args below meth c s₁ B hml hv
  have hx := B.exec
  have hb := B.bytes
  have hrt := B.returns
  have hts := atoms_spec (ws := wsX8_ask) B.pre
  have hown : s.vm.findClass RX8 = some m.cls := findClass_of_methodNamed B.named
  have hlocks := B.notSynchronized
  obtain ⟨rfl, hB⟩ := m_start hv
  generalize va_A (m_w L ad g) sz = A at hB ⊢
  generalize s.heap = H at hB ⊢
  generalize ([] : List Loc) = locs at hB ⊢
  have hl := lv_entry ([.ref (ad 0), .int (nI b), .int (nI k), .int tp]) (n := 7) (Nat.le_of_ble_eq_true rfl)
  rw [lg_entry_eq]
  generalize (lg_sl ([.ref (ad 0), .int (nI b), .int (nI k), .int tp]) ++ List.replicate (7 - (lg_sl ([.ref (ad 0), .int (nI b), .int (nI k), .int tp])).length) Slot.unset).toArray = ls at hl ⊢
  have hl : lv_has ls 7 [(0, .ref (ad 0)), (1, .int (nI b)), (2, .int (nI k)), (3, .int tp)] := hl
  have tI_b : (nI b).toInt = (b : Int) := nI_toInt (by omega)
  have ln : (nI 6).toInt = 6 := by decide
  have l10 : (10 : Int32).toInt = 10 := by decide
  have l2 : (2 : Int32).toInt = 2 := by decide
  refine lv_aload_n hx hb dX8_ask_0 rfl (lv_at hl 0 rfl) ?_
  refine lv_iload_n hx hb dX8_ask_1 rfl (lv_at hl 2 rfl) ?_
  refine m_callVE (ci := 8) (As := [.int (nI k)]) (rest := []) ((by have h9 := c_X_paperNumber_t l D ty L ad g pn qn nw tr pf k m_0 m_6 h_0 h_6 hk; rw [hpp] at h9; exact h9 : m_E l yX8_paperNumber wsX8_paperNumber 1 21 D ty [.ref (ad 0), .int (nI k)] L ad g (some (.ref (ad pp))) g)) ⟨hx, hb, hml, hown, hts⟩ (cwV 1 hts gX8_ask_X8_paperNumber rfl rfl rfl (by decide +kernel) ⟨Nat.le_of_ble_eq_true rfl, Nat.le_of_ble_eq_true rfl⟩) hB m_0 h_0 rfl rfl hl.1 rfl (Nat.le_of_ble_eq_true rfl) dX8_ask_2 ⟨Nat.le_of_ble_eq_true rfl, Nat.le_of_ble_eq_true rfl⟩ (fun H locs hB => ?_)
  refine lv_astore (lv' := [(4, .ref (ad pp)), (0, .ref (ad 0)), (1, .int (nI b)), (2, .int (nI k)), (3, .int tp)]) hx hb dX8_ask_5 hl (by decide) rfl (fun ls hl => ?_)
  refine lv_iload_n hx hb dX8_ask_7 rfl (lv_at hl 2 rfl) ?_
  refine lv_aload_n hx hb dX8_ask_8 rfl (lv_at hl 1 rfl) ?_
  refine m_get (C := RX8) (T := TX8) (N := 12) (ci := 8) hx hb hts in_X8_ask_X8 hown hB m_0 h_0 rfl 9 (by decide) (hts (.fieldLink RX8 51 "PaperRoom" "asksThisTick" "[I") (by decide +kernel)) (fun _ h9 => h9) rfl dX8_ask_9 ?_
  refine m_alen hx hb hB m_29 0 h_29 rfl (v := nI 6) rfl dX8_ask_12 ?_
  refine m_callSE (As := [.int (nI b), .int (nI 6)]) (rest := []) (c_isBelow_t l D ty L ad _ _ _ (by omega) (by omega)) ⟨hx, hb, hml, hown, hts⟩ (va_cwS 2 hts gX8_ask_X8_isBelow rfl rfl rfl (by decide +kernel) ⟨Nat.le_of_ble_eq_true rfl, Nat.le_of_ble_eq_true rfl⟩) hB rfl hl.1 rfl (Nat.le_of_ble_eq_true rfl) dX8_ask_13 ⟨Nat.le_of_ble_eq_true rfl, Nat.le_of_ble_eq_true rfl⟩ (fun H locs hB => ?_)
  refine b_if_eq_f 33 hx hb dX8_ask_16 (by decide) (by decide) ?_
  refine lv_aload hx hb dX8_ask_19 (lv_at hl 0 rfl) ?_
  refine lv_ifnull hx hb dX8_ask_21 ?_
  refine lv_iload_n hx hb dX8_ask_24 rfl (lv_at hl 4 rfl) ?_
  refine lv_bipush (v := 10) hx hb dX8_ask_25 (by decide) ?_
  refine m_callSE (As := [.int tp, .int 10]) (rest := []) (c_isBelow_t l D ty L ad _ _ _ (by omega) (by omega)) ⟨hx, hb, hml, hown, hts⟩ (va_cwS 2 hts gX8_ask_X8_isBelow rfl rfl rfl (by decide +kernel) ⟨Nat.le_of_ble_eq_true rfl, Nat.le_of_ble_eq_true rfl⟩) hB rfl hl.1 rfl (Nat.le_of_ble_eq_true rfl) dX8_ask_27 ⟨Nat.le_of_ble_eq_true rfl, Nat.le_of_ble_eq_true rfl⟩ (fun H locs hB => ?_)
  refine b_if_ne_t 35 hx hb dX8_ask_30 (by decide) (by decide) ?_
  refine lv_aload_n hx hb dX8_ask_35 rfl (lv_at hl 1 rfl) ?_
  refine lv_aload hx hb dX8_ask_36 (lv_at hl 0 rfl) ?_
  refine lv_iload_n hx hb dX8_ask_38 rfl (lv_at hl 2 rfl) ?_
  refine m_callVE (ci := 8) (As := [.ref (ad pp), .int (nI b)]) (rest := []) (c_X_isOpen1 l D ty L ad g pn qn nw tr fs fe pp pt vn wd b f m_0 m_3 m_4 m_5 m_pp h_0 h_3 h_4 h_5 h_pp hb6 hf4 hwd) ⟨hx, hb, hml, hown, hts⟩ (cwV 2 hts gX8_ask_X8_isOpen rfl rfl rfl (by decide +kernel) ⟨Nat.le_of_ble_eq_true rfl, Nat.le_of_ble_eq_true rfl⟩) hB m_0 h_0 rfl rfl hl.1 rfl (Nat.le_of_ble_eq_true rfl) dX8_ask_39 ⟨Nat.le_of_ble_eq_true rfl, Nat.le_of_ble_eq_true rfl⟩ (fun H locs hB => ?_)
  refine b_if_ne_t 48 hx hb dX8_ask_42 (by decide) (by rw [hs]; decide) ?_
  refine lv_aload_n hx hb dX8_ask_48 rfl (lv_at hl 1 rfl) ?_
  refine m_get (C := RX8) (T := TX8) (N := 12) (ci := 8) hx hb hts in_X8_ask_X8 hown hB m_0 h_0 rfl 9 (by decide) (hts (.fieldLink RX8 51 "PaperRoom" "asksThisTick" "[I") (by decide +kernel)) (fun _ h9 => h9) rfl dX8_ask_49 ?_
  refine lv_iload_n hx hb dX8_ask_52 rfl (lv_at hl 2 rfl) ?_
  refine n_iald hx hb hB m_29 h_29 b rfl (by omega) (by omega) dX8_ask_53 ?_
  refine lv_iconst (v := 2) hx hb dX8_ask_54 (by decide) ?_
  refine b_icmp_lt_f 61 hx hb dX8_ask_55 (by decide) (by rw [l2]; omega) ?_
  refine lv_bipush (v := (-2)) hx hb dX8_ask_58 (by decide) ?_
  exact m_iret hx hb hrt hlocks hB (Nat.le_refl _) (Nat.le_refl _) dX8_ask_60 ⟨rfl, rfl, rfl, rfl⟩
set_option maxHeartbeats 1000000 in
set_option maxRecDepth 100000 in
theorem c_X_ask1_full (l : Launch) (D : va_G) (ty : Nat → ClassId) (L : List Nat) (ad : Nat → Nat) (g : Nat → va_E) (pn qn : Nat) (nw : Int32) (tr : Int64) (pf : Nat → Option Nat) (ak : Nat → Int32) (fs fe : Nat → Int32) (pp pt vn : Nat) (wd : Int32) (qf : Nat → Option Nat) (qr : Nat → Nat) (qp qt qa qc qv : Nat → Int32) (k b f : Nat) (tp : Int32) (m_0 : 0 ∈ L) (m_3 : 3 ∈ L) (m_4 : 4 ∈ L) (m_5 : 5 ∈ L) (m_6 : 6 ∈ L) (m_28 : 28 ∈ L) (m_29 : 29 ∈ L) (m_pp : pp ∈ L) (h_0 : g 0 = .inr (8, [.ref (ad 1), .ref (ad 3), .ref (ad 6), .int (nI pn), .ref (ad 7), .ref (ad 20), .ref (ad 22), .ref (ad 28), .int (nI qn), .ref (ad 29), .int nw, .long tr])) (h_3 : g 3 = .inr (4, [.ref (ad 4), .ref (ad 5)])) (h_4 : g 4 = .inl (ty 0, 12, .inl fs)) (h_5 : g 5 = .inl (ty 0, 12, .inl fe)) (h_6 : g 6 = .inl (ty 4, 8, .inr (.inr (.inr (.inr pf))))) (h_28 : g 28 = .inl (ty 5, 30, .inr (.inr (.inr (.inr qf))))) (h_29 : g 29 = .inl (ty 0, 6, .inl ak)) (h_pp : g pp = .inr (1, [.int (nI f), .ref (ad pt), .int (nI vn), .int wd])) (hk : k < 8) (hpp : pf k = some (ad pp)) (hb6 : b < 6) (hf4 : f < 4) (hwd : wd = 0 ∨ wd = 1) (h30 : 30 ≤ pp) (htp : 0 ≤ tp.toInt ∧ tp.toInt < 10) (hs : (opn wd fs fe (b % 3 * 4 + f) nw) = true) (hak : (ak b).toInt < 2) (hq0 : ∀ i, i < qn → qf i = some (ad (qr i))) (hq1 : ∀ i, i < qn → qr i ∈ L) (hq2 : ∀ i, i < qn → g (qr i) = .inr (3, [.int (qp i), .int (qt i), .int (qa i), .int (qc i), .int (qv i)])) (hqn : qn ≤ 30) (hq30 : qn = 30) (hno : ∀ i, i < qn → ¬ (qp i = nI k ∧ qt i = tp)) : m_E l yX8_ask wsX8_ask 5 113 D ty [.ref (ad 0), .int (nI b), .int (nI k), .int tp] L ad g (some (.int (-3))) g := by
  intro sz
  refine Met.ofW (cc := cX8_ask) (maxL := 7) (ret := (some .int)) (by decide) rfl ?_
  intro p e s m args below meth c s₁ B hml hv
  have hx := B.exec
  have hb := B.bytes
  have hrt := B.returns
  have hts := atoms_spec (ws := wsX8_ask) B.pre
  have hown : s.vm.findClass RX8 = some m.cls := findClass_of_methodNamed B.named
  have hlocks := B.notSynchronized
  obtain ⟨rfl, hB⟩ := m_start hv
  generalize va_A (m_w L ad g) sz = A at hB ⊢
  generalize s.heap = H at hB ⊢
  generalize ([] : List Loc) = locs at hB ⊢
  have hl := lv_entry ([.ref (ad 0), .int (nI b), .int (nI k), .int tp]) (n := 7) (Nat.le_of_ble_eq_true rfl)
  rw [lg_entry_eq]
  generalize (lg_sl ([.ref (ad 0), .int (nI b), .int (nI k), .int tp]) ++ List.replicate (7 - (lg_sl ([.ref (ad 0), .int (nI b), .int (nI k), .int tp])).length) Slot.unset).toArray = ls at hl ⊢
  have hl : lv_has ls 7 [(0, .ref (ad 0)), (1, .int (nI b)), (2, .int (nI k)), (3, .int tp)] := hl
  have tI_b : (nI b).toInt = (b : Int) := nI_toInt (by omega)
  have ln : (nI 6).toInt = 6 := by decide
  have l10 : (10 : Int32).toInt = 10 := by decide
  have l2 : (2 : Int32).toInt = 2 := by decide
  refine lv_aload_n hx hb dX8_ask_0 rfl (lv_at hl 0 rfl) ?_
  refine lv_iload_n hx hb dX8_ask_1 rfl (lv_at hl 2 rfl) ?_
  refine m_callVE (ci := 8) (As := [.int (nI k)]) (rest := []) ((by have h9 := c_X_paperNumber_t l D ty L ad g pn qn nw tr pf k m_0 m_6 h_0 h_6 hk; rw [hpp] at h9; exact h9 : m_E l yX8_paperNumber wsX8_paperNumber 1 21 D ty [.ref (ad 0), .int (nI k)] L ad g (some (.ref (ad pp))) g)) ⟨hx, hb, hml, hown, hts⟩ (cwV 1 hts gX8_ask_X8_paperNumber rfl rfl rfl (by decide +kernel) ⟨Nat.le_of_ble_eq_true rfl, Nat.le_of_ble_eq_true rfl⟩) hB m_0 h_0 rfl rfl hl.1 rfl (Nat.le_of_ble_eq_true rfl) dX8_ask_2 ⟨Nat.le_of_ble_eq_true rfl, Nat.le_of_ble_eq_true rfl⟩ (fun H locs hB => ?_)
  refine lv_astore (lv' := [(4, .ref (ad pp)), (0, .ref (ad 0)), (1, .int (nI b)), (2, .int (nI k)), (3, .int tp)]) hx hb dX8_ask_5 hl (by decide) rfl (fun ls hl => ?_)
  refine lv_iload_n hx hb dX8_ask_7 rfl (lv_at hl 2 rfl) ?_
  refine lv_aload_n hx hb dX8_ask_8 rfl (lv_at hl 1 rfl) ?_
  refine m_get (C := RX8) (T := TX8) (N := 12) (ci := 8) hx hb hts in_X8_ask_X8 hown hB m_0 h_0 rfl 9 (by decide) (hts (.fieldLink RX8 51 "PaperRoom" "asksThisTick" "[I") (by decide +kernel)) (fun _ h9 => h9) rfl dX8_ask_9 ?_
  refine m_alen hx hb hB m_29 0 h_29 rfl (v := nI 6) rfl dX8_ask_12 ?_
  refine m_callSE (As := [.int (nI b), .int (nI 6)]) (rest := []) (c_isBelow_t l D ty L ad _ _ _ (by omega) (by omega)) ⟨hx, hb, hml, hown, hts⟩ (va_cwS 2 hts gX8_ask_X8_isBelow rfl rfl rfl (by decide +kernel) ⟨Nat.le_of_ble_eq_true rfl, Nat.le_of_ble_eq_true rfl⟩) hB rfl hl.1 rfl (Nat.le_of_ble_eq_true rfl) dX8_ask_13 ⟨Nat.le_of_ble_eq_true rfl, Nat.le_of_ble_eq_true rfl⟩ (fun H locs hB => ?_)
  refine b_if_eq_f 33 hx hb dX8_ask_16 (by decide) (by decide) ?_
  refine lv_aload hx hb dX8_ask_19 (lv_at hl 0 rfl) ?_
  refine lv_ifnull hx hb dX8_ask_21 ?_
  refine lv_iload_n hx hb dX8_ask_24 rfl (lv_at hl 4 rfl) ?_
  refine lv_bipush (v := 10) hx hb dX8_ask_25 (by decide) ?_
  refine m_callSE (As := [.int tp, .int 10]) (rest := []) (c_isBelow_t l D ty L ad _ _ _ (by omega) (by omega)) ⟨hx, hb, hml, hown, hts⟩ (va_cwS 2 hts gX8_ask_X8_isBelow rfl rfl rfl (by decide +kernel) ⟨Nat.le_of_ble_eq_true rfl, Nat.le_of_ble_eq_true rfl⟩) hB rfl hl.1 rfl (Nat.le_of_ble_eq_true rfl) dX8_ask_27 ⟨Nat.le_of_ble_eq_true rfl, Nat.le_of_ble_eq_true rfl⟩ (fun H locs hB => ?_)
  refine b_if_ne_t 35 hx hb dX8_ask_30 (by decide) (by decide) ?_
  refine lv_aload_n hx hb dX8_ask_35 rfl (lv_at hl 1 rfl) ?_
  refine lv_aload hx hb dX8_ask_36 (lv_at hl 0 rfl) ?_
  refine lv_iload_n hx hb dX8_ask_38 rfl (lv_at hl 2 rfl) ?_
  refine m_callVE (ci := 8) (As := [.ref (ad pp), .int (nI b)]) (rest := []) (c_X_isOpen1 l D ty L ad g pn qn nw tr fs fe pp pt vn wd b f m_0 m_3 m_4 m_5 m_pp h_0 h_3 h_4 h_5 h_pp hb6 hf4 hwd) ⟨hx, hb, hml, hown, hts⟩ (cwV 2 hts gX8_ask_X8_isOpen rfl rfl rfl (by decide +kernel) ⟨Nat.le_of_ble_eq_true rfl, Nat.le_of_ble_eq_true rfl⟩) hB m_0 h_0 rfl rfl hl.1 rfl (Nat.le_of_ble_eq_true rfl) dX8_ask_39 ⟨Nat.le_of_ble_eq_true rfl, Nat.le_of_ble_eq_true rfl⟩ (fun H locs hB => ?_)
  refine b_if_ne_t 48 hx hb dX8_ask_42 (by decide) (by rw [hs]; decide) ?_
  refine lv_aload_n hx hb dX8_ask_48 rfl (lv_at hl 1 rfl) ?_
  refine m_get (C := RX8) (T := TX8) (N := 12) (ci := 8) hx hb hts in_X8_ask_X8 hown hB m_0 h_0 rfl 9 (by decide) (hts (.fieldLink RX8 51 "PaperRoom" "asksThisTick" "[I") (by decide +kernel)) (fun _ h9 => h9) rfl dX8_ask_49 ?_
  refine lv_iload_n hx hb dX8_ask_52 rfl (lv_at hl 2 rfl) ?_
  refine n_iald hx hb hB m_29 h_29 b rfl (by omega) (by omega) dX8_ask_53 ?_
  refine lv_iconst (v := 2) hx hb dX8_ask_54 (by decide) ?_
  refine b_icmp_lt_t 61 hx hb dX8_ask_55 (by decide) (by rw [l2]; omega) ?_
  refine lv_aload_n hx hb dX8_ask_61 rfl (lv_at hl 1 rfl) ?_
  refine lv_iload_n hx hb dX8_ask_62 rfl (lv_at hl 3 rfl) ?_
  refine lv_iload_n hx hb dX8_ask_63 rfl (lv_at hl 4 rfl) ?_
  refine m_callVE (ci := 8) (As := [.int (nI k), .int tp]) (rest := []) (c_X_questionOn_full l D ty L ad g pn qn nw tr qf qr qp qt qa qc qv (nI k) tp m_0 m_28 h_0 h_28 hq0 hq1 hq2 hqn hq30 hno) ⟨hx, hb, hml, hown, hts⟩ (cwV 2 hts gX8_ask_X8_questionOn rfl rfl rfl (by decide +kernel) ⟨Nat.le_of_ble_eq_true rfl, Nat.le_of_ble_eq_true rfl⟩) hB m_0 h_0 rfl rfl hl.1 rfl (Nat.le_of_ble_eq_true rfl) dX8_ask_64 ⟨Nat.le_of_ble_eq_true rfl, Nat.le_of_ble_eq_true rfl⟩ (fun H locs hB => ?_)
  refine lv_istore (lv' := [(5, .int (-9)), (4, .ref (ad pp)), (0, .ref (ad 0)), (1, .int (nI b)), (2, .int (nI k)), (3, .int tp)]) hx hb dX8_ask_67 hl (by decide) rfl (fun ls hl => ?_)
  refine lv_aload_n hx hb dX8_ask_69 rfl (lv_at hl 2 rfl) ?_
  refine lv_iload hx hb dX8_ask_70 (lv_at hl 0 rfl) ?_
  refine m_callVE (ci := 8) (As := [.int (-9)]) (rest := []) (c_X_questionNumber_f l D ty L ad g pn qn nw tr qf (-9) m_0 m_28 h_0 h_28 (by decide)) ⟨hx, hb, hml, hown, hts⟩ (cwV 1 hts gX8_ask_X8_questionNumber rfl rfl rfl (by decide +kernel) ⟨Nat.le_of_ble_eq_true rfl, Nat.le_of_ble_eq_true rfl⟩) hB m_0 h_0 rfl rfl hl.1 rfl (Nat.le_of_ble_eq_true rfl) dX8_ask_72 ⟨Nat.le_of_ble_eq_true rfl, Nat.le_of_ble_eq_true rfl⟩ (fun H locs hB => ?_)
  refine lv_astoreN (lv' := [(6, .null), (5, .int (-9)), (4, .ref (ad pp)), (0, .ref (ad 0)), (1, .int (nI b)), (2, .int (nI k)), (3, .int tp)]) hx hb dX8_ask_75 hl (by decide) rfl (fun ls hl => ?_)
  refine lv_aloadN hx hb dX8_ask_77 (lv_at hl 0 rfl) ?_
  refine lv_ifnonnullN hx hb dX8_ask_79 ?_
  refine lv_bipush (v := (-3)) hx hb dX8_ask_82 (by decide) ?_
  exact m_iret hx hb hrt hlocks hB (Nat.le_refl _) (Nat.le_refl _) dX8_ask_84 ⟨rfl, rfl, rfl, rfl⟩
set_option maxHeartbeats 1000000 in
set_option maxRecDepth 100000 in
theorem c_X_ask1_join (l : Launch) (D : va_G) (ty : Nat → ClassId) (L : List Nat) (ad : Nat → Nat) (g : Nat → va_E) (pn qn : Nat) (nw : Int32) (tr : Int64) (pf : Nat → Option Nat) (ak : Nat → Int32) (fs fe : Nat → Int32) (pp pt vn : Nat) (wd : Int32) (qf : Nat → Option Nat) (qr : Nat → Nat) (qp qt qa qc qv : Nat → Int32) (k b f : Nat) (tp : Int32) (q : Nat) (m_0 : 0 ∈ L) (m_3 : 3 ∈ L) (m_4 : 4 ∈ L) (m_5 : 5 ∈ L) (m_6 : 6 ∈ L) (m_28 : 28 ∈ L) (m_29 : 29 ∈ L) (m_pp : pp ∈ L) (h_0 : g 0 = .inr (8, [.ref (ad 1), .ref (ad 3), .ref (ad 6), .int (nI pn), .ref (ad 7), .ref (ad 20), .ref (ad 22), .ref (ad 28), .int (nI qn), .ref (ad 29), .int nw, .long tr])) (h_3 : g 3 = .inr (4, [.ref (ad 4), .ref (ad 5)])) (h_4 : g 4 = .inl (ty 0, 12, .inl fs)) (h_5 : g 5 = .inl (ty 0, 12, .inl fe)) (h_6 : g 6 = .inl (ty 4, 8, .inr (.inr (.inr (.inr pf))))) (h_28 : g 28 = .inl (ty 5, 30, .inr (.inr (.inr (.inr qf))))) (h_29 : g 29 = .inl (ty 0, 6, .inl ak)) (h_pp : g pp = .inr (1, [.int (nI f), .ref (ad pt), .int (nI vn), .int wd])) (hk : k < 8) (hpp : pf k = some (ad pp)) (hb6 : b < 6) (hf4 : f < 4) (hwd : wd = 0 ∨ wd = 1) (h30 : 30 ≤ pp) (htp : 0 ≤ tp.toInt ∧ tp.toInt < 10) (hs : (opn wd fs fe (b % 3 * 4 + f) nw) = true) (hak : (ak b).toInt < 2) (hq0 : ∀ i, i < qn → qf i = some (ad (qr i))) (hq1 : ∀ i, i < qn → qr i ∈ L) (hq2 : ∀ i, i < qn → g (qr i) = .inr (3, [.int (qp i), .int (qt i), .int (qa i), .int (qc i), .int (qv i)])) (hqn : qn ≤ 30) (hq : q < qn) (hyes : (qp q = nI k ∧ qt q = tp)) (hno : ∀ i, i < q → ¬ (qp i = nI k ∧ qt i = tp)) (h31 : 30 ≤ qr q) : m_E l yX8_ask wsX8_ask 5 113 D ty [.ref (ad 0), .int (nI b), .int (nI k), .int tp] L ad g (some (.int (nI q))) (va_up (va_up g (qr q) (.inr (3, [.int (qp q), .int (qt q), .int (qa q ||| (1 <<< (nI b &&& 31))), .int (qc q), .int (qv q)]))) 29 (.inl (ty 0, 6, .inl (upd ak b (ak b + 1))))) := by
  intro sz
  refine Met.ofW (cc := cX8_ask) (maxL := 7) (ret := (some .int)) (by decide) rfl ?_
  intro p e s m args below meth c s₁ B hml hv
  have hx := B.exec
  have hb := B.bytes
  have hrt := B.returns
  have hts := atoms_spec (ws := wsX8_ask) B.pre
  have hown : s.vm.findClass RX8 = some m.cls := findClass_of_methodNamed B.named
  have hlocks := B.notSynchronized
  obtain ⟨rfl, hB⟩ := m_start hv
  generalize va_A (m_w L ad g) sz = A at hB ⊢
  generalize s.heap = H at hB ⊢
  generalize ([] : List Loc) = locs at hB ⊢
  have hl := lv_entry ([.ref (ad 0), .int (nI b), .int (nI k), .int tp]) (n := 7) (Nat.le_of_ble_eq_true rfl)
  rw [lg_entry_eq]
  generalize (lg_sl ([.ref (ad 0), .int (nI b), .int (nI k), .int tp]) ++ List.replicate (7 - (lg_sl ([.ref (ad 0), .int (nI b), .int (nI k), .int tp])).length) Slot.unset).toArray = ls at hl ⊢
  have hl : lv_has ls 7 [(0, .ref (ad 0)), (1, .int (nI b)), (2, .int (nI k)), (3, .int tp)] := hl
  have tI_b : (nI b).toInt = (b : Int) := nI_toInt (by omega)
  have ln : (nI 6).toInt = 6 := by decide
  have l10 : (10 : Int32).toInt = 10 := by decide
  have l2 : (2 : Int32).toInt = 2 := by decide
  refine lv_aload_n hx hb dX8_ask_0 rfl (lv_at hl 0 rfl) ?_
  refine lv_iload_n hx hb dX8_ask_1 rfl (lv_at hl 2 rfl) ?_
  refine m_callVE (ci := 8) (As := [.int (nI k)]) (rest := []) ((by have h9 := c_X_paperNumber_t l D ty L ad g pn qn nw tr pf k m_0 m_6 h_0 h_6 hk; rw [hpp] at h9; exact h9 : m_E l yX8_paperNumber wsX8_paperNumber 1 21 D ty [.ref (ad 0), .int (nI k)] L ad g (some (.ref (ad pp))) g)) ⟨hx, hb, hml, hown, hts⟩ (cwV 1 hts gX8_ask_X8_paperNumber rfl rfl rfl (by decide +kernel) ⟨Nat.le_of_ble_eq_true rfl, Nat.le_of_ble_eq_true rfl⟩) hB m_0 h_0 rfl rfl hl.1 rfl (Nat.le_of_ble_eq_true rfl) dX8_ask_2 ⟨Nat.le_of_ble_eq_true rfl, Nat.le_of_ble_eq_true rfl⟩ (fun H locs hB => ?_)
  refine lv_astore (lv' := [(4, .ref (ad pp)), (0, .ref (ad 0)), (1, .int (nI b)), (2, .int (nI k)), (3, .int tp)]) hx hb dX8_ask_5 hl (by decide) rfl (fun ls hl => ?_)
  refine lv_iload_n hx hb dX8_ask_7 rfl (lv_at hl 2 rfl) ?_
  refine lv_aload_n hx hb dX8_ask_8 rfl (lv_at hl 1 rfl) ?_
  refine m_get (C := RX8) (T := TX8) (N := 12) (ci := 8) hx hb hts in_X8_ask_X8 hown hB m_0 h_0 rfl 9 (by decide) (hts (.fieldLink RX8 51 "PaperRoom" "asksThisTick" "[I") (by decide +kernel)) (fun _ h9 => h9) rfl dX8_ask_9 ?_
  refine m_alen hx hb hB m_29 0 h_29 rfl (v := nI 6) rfl dX8_ask_12 ?_
  refine m_callSE (As := [.int (nI b), .int (nI 6)]) (rest := []) (c_isBelow_t l D ty L ad _ _ _ (by omega) (by omega)) ⟨hx, hb, hml, hown, hts⟩ (va_cwS 2 hts gX8_ask_X8_isBelow rfl rfl rfl (by decide +kernel) ⟨Nat.le_of_ble_eq_true rfl, Nat.le_of_ble_eq_true rfl⟩) hB rfl hl.1 rfl (Nat.le_of_ble_eq_true rfl) dX8_ask_13 ⟨Nat.le_of_ble_eq_true rfl, Nat.le_of_ble_eq_true rfl⟩ (fun H locs hB => ?_)
  refine b_if_eq_f 33 hx hb dX8_ask_16 (by decide) (by decide) ?_
  refine lv_aload hx hb dX8_ask_19 (lv_at hl 0 rfl) ?_
  refine lv_ifnull hx hb dX8_ask_21 ?_
  refine lv_iload_n hx hb dX8_ask_24 rfl (lv_at hl 4 rfl) ?_
  refine lv_bipush (v := 10) hx hb dX8_ask_25 (by decide) ?_
  refine m_callSE (As := [.int tp, .int 10]) (rest := []) (c_isBelow_t l D ty L ad _ _ _ (by omega) (by omega)) ⟨hx, hb, hml, hown, hts⟩ (va_cwS 2 hts gX8_ask_X8_isBelow rfl rfl rfl (by decide +kernel) ⟨Nat.le_of_ble_eq_true rfl, Nat.le_of_ble_eq_true rfl⟩) hB rfl hl.1 rfl (Nat.le_of_ble_eq_true rfl) dX8_ask_27 ⟨Nat.le_of_ble_eq_true rfl, Nat.le_of_ble_eq_true rfl⟩ (fun H locs hB => ?_)
  refine b_if_ne_t 35 hx hb dX8_ask_30 (by decide) (by decide) ?_
  refine lv_aload_n hx hb dX8_ask_35 rfl (lv_at hl 1 rfl) ?_
  refine lv_aload hx hb dX8_ask_36 (lv_at hl 0 rfl) ?_
  refine lv_iload_n hx hb dX8_ask_38 rfl (lv_at hl 2 rfl) ?_
  refine m_callVE (ci := 8) (As := [.ref (ad pp), .int (nI b)]) (rest := []) (c_X_isOpen1 l D ty L ad g pn qn nw tr fs fe pp pt vn wd b f m_0 m_3 m_4 m_5 m_pp h_0 h_3 h_4 h_5 h_pp hb6 hf4 hwd) ⟨hx, hb, hml, hown, hts⟩ (cwV 2 hts gX8_ask_X8_isOpen rfl rfl rfl (by decide +kernel) ⟨Nat.le_of_ble_eq_true rfl, Nat.le_of_ble_eq_true rfl⟩) hB m_0 h_0 rfl rfl hl.1 rfl (Nat.le_of_ble_eq_true rfl) dX8_ask_39 ⟨Nat.le_of_ble_eq_true rfl, Nat.le_of_ble_eq_true rfl⟩ (fun H locs hB => ?_)
  refine b_if_ne_t 48 hx hb dX8_ask_42 (by decide) (by rw [hs]; decide) ?_
  refine lv_aload_n hx hb dX8_ask_48 rfl (lv_at hl 1 rfl) ?_
  refine m_get (C := RX8) (T := TX8) (N := 12) (ci := 8) hx hb hts in_X8_ask_X8 hown hB m_0 h_0 rfl 9 (by decide) (hts (.fieldLink RX8 51 "PaperRoom" "asksThisTick" "[I") (by decide +kernel)) (fun _ h9 => h9) rfl dX8_ask_49 ?_
  refine lv_iload_n hx hb dX8_ask_52 rfl (lv_at hl 2 rfl) ?_
  refine n_iald hx hb hB m_29 h_29 b rfl (by omega) (by omega) dX8_ask_53 ?_
  refine lv_iconst (v := 2) hx hb dX8_ask_54 (by decide) ?_
  refine b_icmp_lt_t 61 hx hb dX8_ask_55 (by decide) (by rw [l2]; omega) ?_
  refine lv_aload_n hx hb dX8_ask_61 rfl (lv_at hl 1 rfl) ?_
  refine lv_iload_n hx hb dX8_ask_62 rfl (lv_at hl 3 rfl) ?_
  refine lv_iload_n hx hb dX8_ask_63 rfl (lv_at hl 4 rfl) ?_
  refine m_callVE (ci := 8) (As := [.int (nI k), .int tp]) (rest := []) (c_X_questionOn_t l D ty L ad g pn qn nw tr qf qr qp qt qa qc qv (nI k) tp q m_0 m_28 h_0 h_28 hq0 hq1 hq2 hqn hq hyes hno) ⟨hx, hb, hml, hown, hts⟩ (cwV 2 hts gX8_ask_X8_questionOn rfl rfl rfl (by decide +kernel) ⟨Nat.le_of_ble_eq_true rfl, Nat.le_of_ble_eq_true rfl⟩) hB m_0 h_0 rfl rfl hl.1 rfl (Nat.le_of_ble_eq_true rfl) dX8_ask_64 ⟨Nat.le_of_ble_eq_true rfl, Nat.le_of_ble_eq_true rfl⟩ (fun H locs hB => ?_)
  refine lv_istore (lv' := [(5, .int (nI q)), (4, .ref (ad pp)), (0, .ref (ad 0)), (1, .int (nI b)), (2, .int (nI k)), (3, .int tp)]) hx hb dX8_ask_67 hl (by decide) rfl (fun ls hl => ?_)
  refine lv_aload_n hx hb dX8_ask_69 rfl (lv_at hl 2 rfl) ?_
  refine lv_iload hx hb dX8_ask_70 (lv_at hl 0 rfl) ?_
  refine m_callVE (ci := 8) (As := [.int (nI q)]) (rest := []) ((by have h9 := c_X_questionNumber_t l D ty L ad g pn qn nw tr qf q m_0 m_28 h_0 h_28 (by omega); rw [hq0 q hq] at h9; exact h9 : m_E l yX8_questionNumber wsX8_questionNumber 1 21 D ty [.ref (ad 0), .int (nI q)] L ad g (some (.ref (ad (qr q)))) g)) ⟨hx, hb, hml, hown, hts⟩ (cwV 1 hts gX8_ask_X8_questionNumber rfl rfl rfl (by decide +kernel) ⟨Nat.le_of_ble_eq_true rfl, Nat.le_of_ble_eq_true rfl⟩) hB m_0 h_0 rfl rfl hl.1 rfl (Nat.le_of_ble_eq_true rfl) dX8_ask_72 ⟨Nat.le_of_ble_eq_true rfl, Nat.le_of_ble_eq_true rfl⟩ (fun H locs hB => ?_)
  refine lv_astore (lv' := [(6, .ref (ad (qr q))), (5, .int (nI q)), (4, .ref (ad pp)), (0, .ref (ad 0)), (1, .int (nI b)), (2, .int (nI k)), (3, .int tp)]) hx hb dX8_ask_75 hl (by decide) rfl (fun ls hl => ?_)
  refine lv_aload hx hb dX8_ask_77 (lv_at hl 0 rfl) ?_
  refine lv_ifnonnull (tgt := 85) hx hb dX8_ask_79 (by decide) ?_
  refine lv_aload hx hb dX8_ask_85 (lv_at hl 0 rfl) ?_
  refine lv_iload_n hx hb dX8_ask_87 rfl (lv_at hl 4 rfl) ?_
  refine m_callVZ (ci := 3) (As := [.int (nI b)]) (rest := []) (c_Question_join l D ty L ad g (qr q) (qp q) (qt q) (qa q) (qc q) (qv q) (nI b) (hq1 q hq) (hq2 q hq)) ⟨hx, hb, hml, hown, hts⟩ (cwV 1 hts gX8_ask_X3_join rfl rfl rfl (by decide +kernel) ⟨Nat.le_of_ble_eq_true rfl, Nat.le_of_ble_eq_true rfl⟩) hB (hq1 q hq) (hq2 q hq) rfl rfl hl.1 rfl (Nat.le_of_ble_eq_true rfl) dX8_ask_88 ⟨Nat.le_of_ble_eq_true rfl, Nat.le_of_ble_eq_true rfl⟩ (fun H locs hB => ?_)
  replace hB : m_B D ty A s L ad (va_up g (qr q) (.inr (3, [.int (qp q), .int (qt q), .int (qa q ||| (1 <<< (nI b &&& 31))), .int (qc q), .int (qv q)]))) H locs := hB
  refine lv_aload_n hx hb dX8_ask_91 rfl (lv_at hl 3 rfl) ?_
  refine m_get (C := RX8) (T := TX8) (N := 12) (ci := 8) hx hb hts in_X8_ask_X8 hown hB m_0 ((va_up_ne _ _ (by omega)).trans h_0) rfl 9 (by decide) (hts (.fieldLink RX8 51 "PaperRoom" "asksThisTick" "[I") (by decide +kernel)) (fun _ h9 => h9) rfl dX8_ask_92 ?_
  refine lv_iload_n hx hb dX8_ask_95 rfl (lv_at hl 4 rfl) ?_
  refine lv_dup2_11 hx hb dX8_ask_96 rfl rfl ?_
  refine n_iald hx hb hB m_29 ((va_up_ne _ _ (by omega)).trans h_29) b rfl (by omega) (by omega) dX8_ask_97 ?_
  refine lv_iconst (v := 1) hx hb dX8_ask_98 (by decide) ?_
  refine lv_iadd hx hb dX8_ask_99 ?_
  refine n_iast hx hb hB m_29 ((va_up_ne _ _ (by omega)).trans h_29) b rfl (by omega) (by omega) dX8_ask_100 (fun H locs hB => ?_)
  replace hB : m_B D ty A s L ad (va_up (va_up g (qr q) (.inr (3, [.int (qp q), .int (qt q), .int (qa q ||| (1 <<< (nI b &&& 31))), .int (qc q), .int (qv q)]))) 29 (.inl (ty 0, 6, .inl (upd ak b ((ak b) + 1))))) H locs := hB
  refine lv_iload hx hb dX8_ask_101 (lv_at hl 1 rfl) ?_
  exact m_iret hx hb hrt hlocks hB (Nat.le_refl _) (Nat.le_refl _) dX8_ask_103 ⟨rfl, rfl, rfl, rfl⟩
set_option maxHeartbeats 1000000 in
set_option maxRecDepth 100000 in
theorem c_X_ask1_new (l : Launch) (D : va_G) (ty : Nat → ClassId) (L : List Nat) (ad : Nat → Nat) (g : Nat → va_E) (pn qn : Nat) (nw : Int32) (tr : Int64) (pf : Nat → Option Nat) (ak : Nat → Int32) (fs fe : Nat → Int32) (pp pt vn : Nat) (wd : Int32) (qf : Nat → Option Nat) (qr : Nat → Nat) (qp qt qa qc qv : Nat → Int32) (k b f : Nat) (tp : Int32) (nq : Nat) (hL0 : ∀ r, r < 30 → r ∈ L) (m_pp : pp ∈ L) (h_0 : g 0 = .inr (8, [.ref (ad 1), .ref (ad 3), .ref (ad 6), .int (nI pn), .ref (ad 7), .ref (ad 20), .ref (ad 22), .ref (ad 28), .int (nI qn), .ref (ad 29), .int nw, .long tr])) (h_3 : g 3 = .inr (4, [.ref (ad 4), .ref (ad 5)])) (h_4 : g 4 = .inl (ty 0, 12, .inl fs)) (h_5 : g 5 = .inl (ty 0, 12, .inl fe)) (h_6 : g 6 = .inl (ty 4, 8, .inr (.inr (.inr (.inr pf))))) (h_28 : g 28 = .inl (ty 5, 30, .inr (.inr (.inr (.inr qf))))) (h_29 : g 29 = .inl (ty 0, 6, .inl ak)) (h_pp : g pp = .inr (1, [.int (nI f), .ref (ad pt), .int (nI vn), .int wd])) (hk : k < 8) (hpp : pf k = some (ad pp)) (hb6 : b < 6) (hf4 : f < 4) (hwd : wd = 0 ∨ wd = 1) (h30 : 30 ≤ pp) (htp : 0 ≤ tp.toInt ∧ tp.toInt < 10) (hs : (opn wd fs fe (b % 3 * 4 + f) nw) = true) (hak : (ak b).toInt < 2) (hq0 : ∀ i, i < qn → qf i = some (ad (qr i))) (hq1 : ∀ i, i < qn → qr i ∈ L) (hq2 : ∀ i, i < qn → g (qr i) = .inr (3, [.int (qp i), .int (qt i), .int (qa i), .int (qc i), .int (qv i)])) (hqn : qn ≤ 30) (hq30 : qn < 30) (hno : ∀ i, i < qn → ¬ (qp i = nI k ∧ qt i = tp)) (n_nq : nq ∉ L) (hb_nq : 30 ≤ nq) : m_C l yX8_ask wsX8_ask 5 113 1 5 D ty [.ref (ad 0), .int (nI b), .int (nI k), .int tp] L ad g (fun v1 L1 ad1 g1 => v1 = some (.int (nI qn)) ∧ L1 = (L ++ [nq]) ∧ (∀ x ∈ L, ad x = ad1 x) ∧ (∀ x ∈ L, x ≠ 28 → x ≠ 0 → x ≠ 29 → g1 x = g x) ∧ g1 nq = .inr (3, [.int (nI k), .int tp, .int ((0 : Int32) ||| (1 <<< (nI b &&& 31))), .int 0, .int 0]) ∧ g1 28 = .inl (ty 5, 30, .inr (.inr (.inr (.inr (va_up qf qn (some (ad1 nq))))))) ∧ g1 0 = .inr (8, [.ref (ad1 1), .ref (ad1 3), .ref (ad1 6), .int (nI pn), .ref (ad1 7), .ref (ad1 20), .ref (ad1 22), .ref (ad1 28), .int (nI (qn + 1)), .ref (ad1 29), .int nw, .long tr]) ∧ g1 29 = .inl (ty 0, 6, .inl (upd ak b (ak b + 1)))) := by
  intro sz
  refine Met.ofW (cc := cX8_ask) (maxL := 7) (ret := (some .int)) (by decide) rfl ?_
  intro p e s m args below meth c s₁ B hml hv
  have hx := B.exec
  have hb := B.bytes
  have hrt := B.returns
  have hts := atoms_spec (ws := wsX8_ask) B.pre
  have hown : s.vm.findClass RX8 = some m.cls := findClass_of_methodNamed B.named
  have hlocks := B.notSynchronized
  obtain ⟨rfl, hB⟩ := m_start hv
  generalize va_A (m_w L ad g) sz = A at hB ⊢
  generalize s.heap = H at hB ⊢
  generalize ([] : List Loc) = locs at hB ⊢
  have hl := lv_entry ([.ref (ad 0), .int (nI b), .int (nI k), .int tp]) (n := 7) (Nat.le_of_ble_eq_true rfl)
  rw [lg_entry_eq]
  generalize (lg_sl ([.ref (ad 0), .int (nI b), .int (nI k), .int tp]) ++ List.replicate (7 - (lg_sl ([.ref (ad 0), .int (nI b), .int (nI k), .int tp])).length) Slot.unset).toArray = ls at hl ⊢
  have hl : lv_has ls 7 [(0, .ref (ad 0)), (1, .int (nI b)), (2, .int (nI k)), (3, .int tp)] := hl
  have tI_b : (nI b).toInt = (b : Int) := nI_toInt (by omega)
  have ln : (nI 6).toInt = 6 := by decide
  have l10 : (10 : Int32).toInt = 10 := by decide
  have l2 : (2 : Int32).toInt = 2 := by decide
  refine lv_aload_n hx hb dX8_ask_0 rfl (lv_at hl 0 rfl) ?_
  refine lv_iload_n hx hb dX8_ask_1 rfl (lv_at hl 2 rfl) ?_
  refine m_callVE (ci := 8) (As := [.int (nI k)]) (rest := []) ((by have h9 := c_X_paperNumber_t l D ty L ad g pn qn nw tr pf k (hL0 0 (by decide)) (hL0 6 (by decide)) h_0 h_6 hk; rw [hpp] at h9; exact h9 : m_E l yX8_paperNumber wsX8_paperNumber 1 21 D ty [.ref (ad 0), .int (nI k)] L ad g (some (.ref (ad pp))) g)) ⟨hx, hb, hml, hown, hts⟩ (cwV 1 hts gX8_ask_X8_paperNumber rfl rfl rfl (by decide +kernel) ⟨Nat.le_of_ble_eq_true rfl, Nat.le_of_ble_eq_true rfl⟩) hB (hL0 0 (by decide)) h_0 rfl rfl hl.1 rfl (Nat.le_of_ble_eq_true rfl) dX8_ask_2 ⟨Nat.le_of_ble_eq_true rfl, Nat.le_of_ble_eq_true rfl⟩ (fun H locs hB => ?_)
  refine lv_astore (lv' := [(4, .ref (ad pp)), (0, .ref (ad 0)), (1, .int (nI b)), (2, .int (nI k)), (3, .int tp)]) hx hb dX8_ask_5 hl (by decide) rfl (fun ls hl => ?_)
  refine lv_iload_n hx hb dX8_ask_7 rfl (lv_at hl 2 rfl) ?_
  refine lv_aload_n hx hb dX8_ask_8 rfl (lv_at hl 1 rfl) ?_
  refine m_get (C := RX8) (T := TX8) (N := 12) (ci := 8) hx hb hts in_X8_ask_X8 hown hB (hL0 0 (by decide)) h_0 rfl 9 (by decide) (hts (.fieldLink RX8 51 "PaperRoom" "asksThisTick" "[I") (by decide +kernel)) (fun _ h9 => h9) rfl dX8_ask_9 ?_
  refine m_alen hx hb hB (hL0 29 (by decide)) 0 h_29 rfl (v := nI 6) rfl dX8_ask_12 ?_
  refine m_callSE (As := [.int (nI b), .int (nI 6)]) (rest := []) (c_isBelow_t l D ty L ad _ _ _ (by omega) (by omega)) ⟨hx, hb, hml, hown, hts⟩ (va_cwS 2 hts gX8_ask_X8_isBelow rfl rfl rfl (by decide +kernel) ⟨Nat.le_of_ble_eq_true rfl, Nat.le_of_ble_eq_true rfl⟩) hB rfl hl.1 rfl (Nat.le_of_ble_eq_true rfl) dX8_ask_13 ⟨Nat.le_of_ble_eq_true rfl, Nat.le_of_ble_eq_true rfl⟩ (fun H locs hB => ?_)
  refine b_if_eq_f 33 hx hb dX8_ask_16 (by decide) (by decide) ?_
  refine lv_aload hx hb dX8_ask_19 (lv_at hl 0 rfl) ?_
  refine lv_ifnull hx hb dX8_ask_21 ?_
  refine lv_iload_n hx hb dX8_ask_24 rfl (lv_at hl 4 rfl) ?_
  refine lv_bipush (v := 10) hx hb dX8_ask_25 (by decide) ?_
  refine m_callSE (As := [.int tp, .int 10]) (rest := []) (c_isBelow_t l D ty L ad _ _ _ (by omega) (by omega)) ⟨hx, hb, hml, hown, hts⟩ (va_cwS 2 hts gX8_ask_X8_isBelow rfl rfl rfl (by decide +kernel) ⟨Nat.le_of_ble_eq_true rfl, Nat.le_of_ble_eq_true rfl⟩) hB rfl hl.1 rfl (Nat.le_of_ble_eq_true rfl) dX8_ask_27 ⟨Nat.le_of_ble_eq_true rfl, Nat.le_of_ble_eq_true rfl⟩ (fun H locs hB => ?_)
  refine b_if_ne_t 35 hx hb dX8_ask_30 (by decide) (by decide) ?_
  refine lv_aload_n hx hb dX8_ask_35 rfl (lv_at hl 1 rfl) ?_
  refine lv_aload hx hb dX8_ask_36 (lv_at hl 0 rfl) ?_
  refine lv_iload_n hx hb dX8_ask_38 rfl (lv_at hl 2 rfl) ?_
  refine m_callVE (ci := 8) (As := [.ref (ad pp), .int (nI b)]) (rest := []) (c_X_isOpen1 l D ty L ad g pn qn nw tr fs fe pp pt vn wd b f (hL0 0 (by decide)) (hL0 3 (by decide)) (hL0 4 (by decide)) (hL0 5 (by decide)) m_pp h_0 h_3 h_4 h_5 h_pp hb6 hf4 hwd) ⟨hx, hb, hml, hown, hts⟩ (cwV 2 hts gX8_ask_X8_isOpen rfl rfl rfl (by decide +kernel) ⟨Nat.le_of_ble_eq_true rfl, Nat.le_of_ble_eq_true rfl⟩) hB (hL0 0 (by decide)) h_0 rfl rfl hl.1 rfl (Nat.le_of_ble_eq_true rfl) dX8_ask_39 ⟨Nat.le_of_ble_eq_true rfl, Nat.le_of_ble_eq_true rfl⟩ (fun H locs hB => ?_)
  refine b_if_ne_t 48 hx hb dX8_ask_42 (by decide) (by rw [hs]; decide) ?_
  refine lv_aload_n hx hb dX8_ask_48 rfl (lv_at hl 1 rfl) ?_
  refine m_get (C := RX8) (T := TX8) (N := 12) (ci := 8) hx hb hts in_X8_ask_X8 hown hB (hL0 0 (by decide)) h_0 rfl 9 (by decide) (hts (.fieldLink RX8 51 "PaperRoom" "asksThisTick" "[I") (by decide +kernel)) (fun _ h9 => h9) rfl dX8_ask_49 ?_
  refine lv_iload_n hx hb dX8_ask_52 rfl (lv_at hl 2 rfl) ?_
  refine n_iald hx hb hB (hL0 29 (by decide)) h_29 b rfl (by omega) (by omega) dX8_ask_53 ?_
  refine lv_iconst (v := 2) hx hb dX8_ask_54 (by decide) ?_
  refine b_icmp_lt_t 61 hx hb dX8_ask_55 (by decide) (by rw [l2]; omega) ?_
  refine lv_aload_n hx hb dX8_ask_61 rfl (lv_at hl 1 rfl) ?_
  refine lv_iload_n hx hb dX8_ask_62 rfl (lv_at hl 3 rfl) ?_
  refine lv_iload_n hx hb dX8_ask_63 rfl (lv_at hl 4 rfl) ?_
  refine m_callV (ci := 8) (As := [.int (nI k), .int tp]) (rest := []) (c_X_questionOn_new l D ty L ad g pn qn nw tr qf qr qp qt qa qc qv (nI k) tp nq hL0 h_0 h_28 hq0 hq1 hq2 hqn hq30 n_nq hb_nq hno) ⟨hx, hb, hml, hown, hts⟩ (cwV 2 hts gX8_ask_X8_questionOn rfl rfl rfl (by decide +kernel) ⟨Nat.le_of_ble_eq_true rfl, Nat.le_of_ble_eq_true rfl⟩) hB (hL0 0 (by decide)) h_0 rfl rfl hl.1 rfl (Nat.le_of_ble_eq_true rfl) dX8_ask_64 ⟨Nat.le_of_ble_eq_true rfl, Nat.le_of_ble_eq_true rfl⟩ (fun v164 L164 ad_164 g164 H locs hp164 hB => ?_)
  obtain ⟨q1_164, q2_164, had_164, hfr_164, hf164_0, hf164_1, hf164_2⟩ := hp164
  subst q2_164
  have e164_0 : ad 0 = ad_164 0 := had_164 0 (hL0 0 (by decide))
  have e164_1 : ad 1 = ad_164 1 := had_164 1 (hL0 1 (by decide))
  have e164_20 : ad 20 = ad_164 20 := had_164 20 (hL0 20 (by decide))
  have e164_22 : ad 22 = ad_164 22 := had_164 22 (hL0 22 (by decide))
  have e164_28 : ad 28 = ad_164 28 := had_164 28 (hL0 28 (by decide))
  have e164_29 : ad 29 = ad_164 29 := had_164 29 (hL0 29 (by decide))
  have e164_3 : ad 3 = ad_164 3 := had_164 3 (hL0 3 (by decide))
  have e164_4 : ad 4 = ad_164 4 := had_164 4 (hL0 4 (by decide))
  have e164_5 : ad 5 = ad_164 5 := had_164 5 (hL0 5 (by decide))
  have e164_6 : ad 6 = ad_164 6 := had_164 6 (hL0 6 (by decide))
  have e164_7 : ad 7 = ad_164 7 := had_164 7 (hL0 7 (by decide))
  have e164_pp : ad pp = ad_164 pp := had_164 pp m_pp
  replace hl : lv_has ls 7 [(4, .ref (ad_164 pp)), (0, .ref (ad_164 0)), (1, .int (nI b)), (2, .int (nI k)), (3, .int tp)] := by rw [← e164_0, ← e164_pp]; exact hl
  have fa164_0 : g 0 = .inr (8, [.ref (ad_164 1), .ref (ad_164 3), .ref (ad_164 6), .int (nI pn), .ref (ad_164 7), .ref (ad_164 20), .ref (ad_164 22), .ref (ad_164 28), .int (nI qn), .ref (ad_164 29), .int nw, .long tr]) := by rw [← e164_1, ← e164_20, ← e164_22, ← e164_28, ← e164_29, ← e164_3, ← e164_6, ← e164_7]; exact h_0
  have fa164_3 : g 3 = .inr (4, [.ref (ad_164 4), .ref (ad_164 5)]) := by rw [← e164_4, ← e164_5]; exact h_3
  refine W.eq (g2 := F0 m 67 ls [.int (nI qn)]) (by rw [q1_164]; rfl) ?_
  refine lv_istore (lv' := [(5, .int (nI qn)), (4, .ref (ad_164 pp)), (0, .ref (ad_164 0)), (1, .int (nI b)), (2, .int (nI k)), (3, .int tp)]) hx hb dX8_ask_67 hl (by decide) rfl (fun ls hl => ?_)
  refine lv_aload_n hx hb dX8_ask_69 rfl (lv_at hl 2 rfl) ?_
  refine lv_iload hx hb dX8_ask_70 (lv_at hl 0 rfl) ?_
  refine m_callVE (ci := 8) (As := [.int (nI qn)]) (rest := []) ((by have h9 := c_X_questionNumber_t l D ty (L ++ [nq]) ad_164 g164 pn (qn + 1) nw tr (va_up qf qn (some (ad_164 nq))) qn (List.mem_append_left _ (hL0 0 (by decide))) (List.mem_append_left _ (hL0 28 (by decide))) hf164_2 hf164_1 (by omega); rw [va_up_self] at h9; exact h9 : m_E l yX8_questionNumber wsX8_questionNumber 1 21 D ty [.ref (ad_164 0), .int (nI qn)] (L ++ [nq]) ad_164 g164 (some (.ref (ad_164 nq))) g164)) ⟨hx, hb, hml, hown, hts⟩ (cwV 1 hts gX8_ask_X8_questionNumber rfl rfl rfl (by decide +kernel) ⟨Nat.le_of_ble_eq_true rfl, Nat.le_of_ble_eq_true rfl⟩) hB (List.mem_append_left _ (hL0 0 (by decide))) hf164_2 rfl rfl hl.1 rfl (Nat.le_of_ble_eq_true rfl) dX8_ask_72 ⟨Nat.le_of_ble_eq_true rfl, Nat.le_of_ble_eq_true rfl⟩ (fun H locs hB => ?_)
  refine lv_astore (lv' := [(6, .ref (ad_164 nq)), (5, .int (nI qn)), (4, .ref (ad_164 pp)), (0, .ref (ad_164 0)), (1, .int (nI b)), (2, .int (nI k)), (3, .int tp)]) hx hb dX8_ask_75 hl (by decide) rfl (fun ls hl => ?_)
  refine lv_aload hx hb dX8_ask_77 (lv_at hl 0 rfl) ?_
  refine lv_ifnonnull (tgt := 85) hx hb dX8_ask_79 (by decide) ?_
  refine lv_aload hx hb dX8_ask_85 (lv_at hl 0 rfl) ?_
  refine lv_iload_n hx hb dX8_ask_87 rfl (lv_at hl 4 rfl) ?_
  refine m_callVZ (ci := 3) (As := [.int (nI b)]) (rest := []) (c_Question_join l D ty (L ++ [nq]) ad_164 g164 nq (nI k) tp 0 0 0 (nI b) (List.mem_append_right _ List.mem_cons_self) hf164_0) ⟨hx, hb, hml, hown, hts⟩ (cwV 1 hts gX8_ask_X3_join rfl rfl rfl (by decide +kernel) ⟨Nat.le_of_ble_eq_true rfl, Nat.le_of_ble_eq_true rfl⟩) hB (List.mem_append_right _ List.mem_cons_self) hf164_0 rfl rfl hl.1 rfl (Nat.le_of_ble_eq_true rfl) dX8_ask_88 ⟨Nat.le_of_ble_eq_true rfl, Nat.le_of_ble_eq_true rfl⟩ (fun H locs hB => ?_)
  replace hB : m_B D ty A s (L ++ [nq]) ad_164 (va_up g164 nq (.inr (3, [.int (nI k), .int tp, .int ((0 : Int32) ||| (1 <<< (nI b &&& 31))), .int 0, .int 0]))) H locs := hB
  refine lv_aload_n hx hb dX8_ask_91 rfl (lv_at hl 3 rfl) ?_
  refine m_get (C := RX8) (T := TX8) (N := 12) (ci := 8) hx hb hts in_X8_ask_X8 hown hB (List.mem_append_left _ (hL0 0 (by decide))) ((va_up_ne _ _ (by omega)).trans hf164_2) rfl 9 (by decide) (hts (.fieldLink RX8 51 "PaperRoom" "asksThisTick" "[I") (by decide +kernel)) (fun _ h9 => h9) rfl dX8_ask_92 ?_
  refine lv_iload_n hx hb dX8_ask_95 rfl (lv_at hl 4 rfl) ?_
  refine lv_dup2_11 hx hb dX8_ask_96 rfl rfl ?_
  refine n_iald hx hb hB (List.mem_append_left _ (hL0 29 (by decide))) ((va_up_ne _ _ (by omega)).trans ((hfr_164 29 (hL0 29 (by decide)) (by decide) (by decide)).trans h_29)) b rfl (by omega) (by omega) dX8_ask_97 ?_
  refine lv_iconst (v := 1) hx hb dX8_ask_98 (by decide) ?_
  refine lv_iadd hx hb dX8_ask_99 ?_
  refine n_iast hx hb hB (List.mem_append_left _ (hL0 29 (by decide))) ((va_up_ne _ _ (by omega)).trans ((hfr_164 29 (hL0 29 (by decide)) (by decide) (by decide)).trans h_29)) b rfl (by omega) (by omega) dX8_ask_100 (fun H locs hB => ?_)
  replace hB : m_B D ty A s (L ++ [nq]) ad_164 (va_up (va_up g164 nq (.inr (3, [.int (nI k), .int tp, .int ((0 : Int32) ||| (1 <<< (nI b &&& 31))), .int 0, .int 0]))) 29 (.inl (ty 0, 6, .inl (upd ak b ((ak b) + 1))))) H locs := hB
  refine lv_iload hx hb dX8_ask_101 (lv_at hl 1 rfl) ?_
  exact m_iret hx hb hrt hlocks hB (Nat.le_refl _) (Nat.le_refl _) dX8_ask_103 ⟨rfl, rfl, (fun x hx => had_164 x hx), (fun x hx hn_28 hn_0 hn_29 => ((va_up_ne _ _ hn_29).trans ((va_up_ne _ _ (fun e9 => n_nq (by rw [← e9]; exact hx))).trans ((hfr_164 x hx hn_28 hn_0).trans rfl)))), ((va_up_ne _ _ (by omega)).trans (va_up_self _ _ _)), ((va_up_ne _ _ (by decide)).trans ((va_up_ne _ _ (by omega)).trans hf164_1)), ((va_up_ne _ _ (by decide)).trans ((va_up_ne _ _ (by omega)).trans hf164_2)), (va_up_self _ _ _)⟩
set_option maxHeartbeats 1000000 in
set_option maxRecDepth 100000 in
theorem c_X_ask2_t (l : Launch) (D : va_G) (ty : Nat → ClassId) (L : List Nat) (ad : Nat → Nat) (g : Nat → va_E) (pn qn : Nat) (nw : Int32) (tr : Int64) (pf : Nat → Option Nat) (ak : Nat → Int32) (fs fe : Nat → Int32) (pp pt vn : Nat) (wd : Int32) (qf : Nat → Option Nat) (qr : Nat → Nat) (qp qt qa qc qv : Nat → Int32) (k b f : Nat) (tp : Int32) (m_0 : 0 ∈ L) (m_3 : 3 ∈ L) (m_4 : 4 ∈ L) (m_5 : 5 ∈ L) (m_6 : 6 ∈ L) (m_28 : 28 ∈ L) (m_29 : 29 ∈ L) (m_pp : pp ∈ L) (h_0 : g 0 = .inr (8, [.ref (ad 1), .ref (ad 3), .ref (ad 6), .int (nI pn), .ref (ad 7), .ref (ad 20), .ref (ad 22), .ref (ad 28), .int (nI qn), .ref (ad 29), .int nw, .long tr])) (h_3 : g 3 = .inr (4, [.ref (ad 4), .ref (ad 5)])) (h_4 : g 4 = .inl (ty 0, 12, .inl fs)) (h_5 : g 5 = .inl (ty 0, 12, .inl fe)) (h_6 : g 6 = .inl (ty 4, 8, .inr (.inr (.inr (.inr pf))))) (h_28 : g 28 = .inl (ty 5, 30, .inr (.inr (.inr (.inr qf))))) (h_29 : g 29 = .inl (ty 0, 6, .inl ak)) (h_pp : g pp = .inr (2, [.int (nI f), .ref (ad pt), .int (nI vn), .int wd])) (hk : k < 8) (hpp : pf k = some (ad pp)) (hb6 : b < 6) (hf4 : f < 4) (hwd : wd = 0 ∨ wd = 1) (h30 : 30 ≤ pp) (htp : ¬ (0 ≤ tp.toInt ∧ tp.toInt < 10)) : m_E l yX8_ask wsX8_ask 5 113 D ty [.ref (ad 0), .int (nI b), .int (nI k), .int tp] L ad g (some (.int (-1))) g := by
  intro sz
  refine Met.ofW (cc := cX8_ask) (maxL := 7) (ret := (some .int)) (by decide) rfl ?_
  intro p e s m args below meth c s₁ B hml hv
  have hx := B.exec
  have hb := B.bytes
  have hrt := B.returns
  have hts := atoms_spec (ws := wsX8_ask) B.pre
  have hown : s.vm.findClass RX8 = some m.cls := findClass_of_methodNamed B.named
  have hlocks := B.notSynchronized
  obtain ⟨rfl, hB⟩ := m_start hv
  generalize va_A (m_w L ad g) sz = A at hB ⊢
  generalize s.heap = H at hB ⊢
  generalize ([] : List Loc) = locs at hB ⊢
  have hl := lv_entry ([.ref (ad 0), .int (nI b), .int (nI k), .int tp]) (n := 7) (Nat.le_of_ble_eq_true rfl)
  rw [lg_entry_eq]
  generalize (lg_sl ([.ref (ad 0), .int (nI b), .int (nI k), .int tp]) ++ List.replicate (7 - (lg_sl ([.ref (ad 0), .int (nI b), .int (nI k), .int tp])).length) Slot.unset).toArray = ls at hl ⊢
  have hl : lv_has ls 7 [(0, .ref (ad 0)), (1, .int (nI b)), (2, .int (nI k)), (3, .int tp)] := hl
  have tI_b : (nI b).toInt = (b : Int) := nI_toInt (by omega)
  have ln : (nI 6).toInt = 6 := by decide
  have l10 : (10 : Int32).toInt = 10 := by decide
  have l2 : (2 : Int32).toInt = 2 := by decide
  refine lv_aload_n hx hb dX8_ask_0 rfl (lv_at hl 0 rfl) ?_
  refine lv_iload_n hx hb dX8_ask_1 rfl (lv_at hl 2 rfl) ?_
  refine m_callVE (ci := 8) (As := [.int (nI k)]) (rest := []) ((by have h9 := c_X_paperNumber_t l D ty L ad g pn qn nw tr pf k m_0 m_6 h_0 h_6 hk; rw [hpp] at h9; exact h9 : m_E l yX8_paperNumber wsX8_paperNumber 1 21 D ty [.ref (ad 0), .int (nI k)] L ad g (some (.ref (ad pp))) g)) ⟨hx, hb, hml, hown, hts⟩ (cwV 1 hts gX8_ask_X8_paperNumber rfl rfl rfl (by decide +kernel) ⟨Nat.le_of_ble_eq_true rfl, Nat.le_of_ble_eq_true rfl⟩) hB m_0 h_0 rfl rfl hl.1 rfl (Nat.le_of_ble_eq_true rfl) dX8_ask_2 ⟨Nat.le_of_ble_eq_true rfl, Nat.le_of_ble_eq_true rfl⟩ (fun H locs hB => ?_)
  refine lv_astore (lv' := [(4, .ref (ad pp)), (0, .ref (ad 0)), (1, .int (nI b)), (2, .int (nI k)), (3, .int tp)]) hx hb dX8_ask_5 hl (by decide) rfl (fun ls hl => ?_)
  refine lv_iload_n hx hb dX8_ask_7 rfl (lv_at hl 2 rfl) ?_
  refine lv_aload_n hx hb dX8_ask_8 rfl (lv_at hl 1 rfl) ?_
  refine m_get (C := RX8) (T := TX8) (N := 12) (ci := 8) hx hb hts in_X8_ask_X8 hown hB m_0 h_0 rfl 9 (by decide) (hts (.fieldLink RX8 51 "PaperRoom" "asksThisTick" "[I") (by decide +kernel)) (fun _ h9 => h9) rfl dX8_ask_9 ?_
  refine m_alen hx hb hB m_29 0 h_29 rfl (v := nI 6) rfl dX8_ask_12 ?_
  refine m_callSE (As := [.int (nI b), .int (nI 6)]) (rest := []) (c_isBelow_t l D ty L ad _ _ _ (by omega) (by omega)) ⟨hx, hb, hml, hown, hts⟩ (va_cwS 2 hts gX8_ask_X8_isBelow rfl rfl rfl (by decide +kernel) ⟨Nat.le_of_ble_eq_true rfl, Nat.le_of_ble_eq_true rfl⟩) hB rfl hl.1 rfl (Nat.le_of_ble_eq_true rfl) dX8_ask_13 ⟨Nat.le_of_ble_eq_true rfl, Nat.le_of_ble_eq_true rfl⟩ (fun H locs hB => ?_)
  refine b_if_eq_f 33 hx hb dX8_ask_16 (by decide) (by decide) ?_
  refine lv_aload hx hb dX8_ask_19 (lv_at hl 0 rfl) ?_
  refine lv_ifnull hx hb dX8_ask_21 ?_
  refine lv_iload_n hx hb dX8_ask_24 rfl (lv_at hl 4 rfl) ?_
  refine lv_bipush (v := 10) hx hb dX8_ask_25 (by decide) ?_
  refine m_callSE (As := [.int tp, .int 10]) (rest := []) (c_isBelow_f l D ty L ad _ _ _ (by omega)) ⟨hx, hb, hml, hown, hts⟩ (va_cwS 2 hts gX8_ask_X8_isBelow rfl rfl rfl (by decide +kernel) ⟨Nat.le_of_ble_eq_true rfl, Nat.le_of_ble_eq_true rfl⟩) hB rfl hl.1 rfl (Nat.le_of_ble_eq_true rfl) dX8_ask_27 ⟨Nat.le_of_ble_eq_true rfl, Nat.le_of_ble_eq_true rfl⟩ (fun H locs hB => ?_)
  refine b_if_ne_f 35 hx hb dX8_ask_30 (by decide) (by decide) ?_
  refine lv_iconst (v := (-1)) hx hb dX8_ask_33 (by decide) ?_
  exact m_iret hx hb hrt hlocks hB (Nat.le_refl _) (Nat.le_refl _) dX8_ask_34 ⟨rfl, rfl, rfl, rfl⟩
set_option maxHeartbeats 1000000 in
set_option maxRecDepth 100000 in
theorem c_X_ask2_no (l : Launch) (D : va_G) (ty : Nat → ClassId) (L : List Nat) (ad : Nat → Nat) (g : Nat → va_E) (pn qn : Nat) (nw : Int32) (tr : Int64) (pf : Nat → Option Nat) (ak : Nat → Int32) (fs fe : Nat → Int32) (pp pt vn : Nat) (wd : Int32) (qf : Nat → Option Nat) (qr : Nat → Nat) (qp qt qa qc qv : Nat → Int32) (k b f : Nat) (tp : Int32) (m_0 : 0 ∈ L) (m_3 : 3 ∈ L) (m_4 : 4 ∈ L) (m_5 : 5 ∈ L) (m_6 : 6 ∈ L) (m_28 : 28 ∈ L) (m_29 : 29 ∈ L) (m_pp : pp ∈ L) (h_0 : g 0 = .inr (8, [.ref (ad 1), .ref (ad 3), .ref (ad 6), .int (nI pn), .ref (ad 7), .ref (ad 20), .ref (ad 22), .ref (ad 28), .int (nI qn), .ref (ad 29), .int nw, .long tr])) (h_3 : g 3 = .inr (4, [.ref (ad 4), .ref (ad 5)])) (h_4 : g 4 = .inl (ty 0, 12, .inl fs)) (h_5 : g 5 = .inl (ty 0, 12, .inl fe)) (h_6 : g 6 = .inl (ty 4, 8, .inr (.inr (.inr (.inr pf))))) (h_28 : g 28 = .inl (ty 5, 30, .inr (.inr (.inr (.inr qf))))) (h_29 : g 29 = .inl (ty 0, 6, .inl ak)) (h_pp : g pp = .inr (2, [.int (nI f), .ref (ad pt), .int (nI vn), .int wd])) (hk : k < 8) (hpp : pf k = some (ad pp)) (hb6 : b < 6) (hf4 : f < 4) (hwd : wd = 0 ∨ wd = 1) (h30 : 30 ≤ pp) (htp : 0 ≤ tp.toInt ∧ tp.toInt < 10) (hs : (opn wd fs fe (b % 3 * 4 + f) nw) = false) : m_E l yX8_ask wsX8_ask 5 113 D ty [.ref (ad 0), .int (nI b), .int (nI k), .int tp] L ad g (some (.int (-4))) g := by
  intro sz
  refine Met.ofW (cc := cX8_ask) (maxL := 7) (ret := (some .int)) (by decide) rfl ?_
  intro p e s m args below meth c s₁ B hml hv
  have hx := B.exec
  have hb := B.bytes
  have hrt := B.returns
  have hts := atoms_spec (ws := wsX8_ask) B.pre
  have hown : s.vm.findClass RX8 = some m.cls := findClass_of_methodNamed B.named
  have hlocks := B.notSynchronized
  obtain ⟨rfl, hB⟩ := m_start hv
  generalize va_A (m_w L ad g) sz = A at hB ⊢
  generalize s.heap = H at hB ⊢
  generalize ([] : List Loc) = locs at hB ⊢
  have hl := lv_entry ([.ref (ad 0), .int (nI b), .int (nI k), .int tp]) (n := 7) (Nat.le_of_ble_eq_true rfl)
  rw [lg_entry_eq]
  generalize (lg_sl ([.ref (ad 0), .int (nI b), .int (nI k), .int tp]) ++ List.replicate (7 - (lg_sl ([.ref (ad 0), .int (nI b), .int (nI k), .int tp])).length) Slot.unset).toArray = ls at hl ⊢
  have hl : lv_has ls 7 [(0, .ref (ad 0)), (1, .int (nI b)), (2, .int (nI k)), (3, .int tp)] := hl
  have tI_b : (nI b).toInt = (b : Int) := nI_toInt (by omega)
  have ln : (nI 6).toInt = 6 := by decide
  have l10 : (10 : Int32).toInt = 10 := by decide
  have l2 : (2 : Int32).toInt = 2 := by decide
  refine lv_aload_n hx hb dX8_ask_0 rfl (lv_at hl 0 rfl) ?_
  refine lv_iload_n hx hb dX8_ask_1 rfl (lv_at hl 2 rfl) ?_
  refine m_callVE (ci := 8) (As := [.int (nI k)]) (rest := []) ((by have h9 := c_X_paperNumber_t l D ty L ad g pn qn nw tr pf k m_0 m_6 h_0 h_6 hk; rw [hpp] at h9; exact h9 : m_E l yX8_paperNumber wsX8_paperNumber 1 21 D ty [.ref (ad 0), .int (nI k)] L ad g (some (.ref (ad pp))) g)) ⟨hx, hb, hml, hown, hts⟩ (cwV 1 hts gX8_ask_X8_paperNumber rfl rfl rfl (by decide +kernel) ⟨Nat.le_of_ble_eq_true rfl, Nat.le_of_ble_eq_true rfl⟩) hB m_0 h_0 rfl rfl hl.1 rfl (Nat.le_of_ble_eq_true rfl) dX8_ask_2 ⟨Nat.le_of_ble_eq_true rfl, Nat.le_of_ble_eq_true rfl⟩ (fun H locs hB => ?_)
  refine lv_astore (lv' := [(4, .ref (ad pp)), (0, .ref (ad 0)), (1, .int (nI b)), (2, .int (nI k)), (3, .int tp)]) hx hb dX8_ask_5 hl (by decide) rfl (fun ls hl => ?_)
  refine lv_iload_n hx hb dX8_ask_7 rfl (lv_at hl 2 rfl) ?_
  refine lv_aload_n hx hb dX8_ask_8 rfl (lv_at hl 1 rfl) ?_
  refine m_get (C := RX8) (T := TX8) (N := 12) (ci := 8) hx hb hts in_X8_ask_X8 hown hB m_0 h_0 rfl 9 (by decide) (hts (.fieldLink RX8 51 "PaperRoom" "asksThisTick" "[I") (by decide +kernel)) (fun _ h9 => h9) rfl dX8_ask_9 ?_
  refine m_alen hx hb hB m_29 0 h_29 rfl (v := nI 6) rfl dX8_ask_12 ?_
  refine m_callSE (As := [.int (nI b), .int (nI 6)]) (rest := []) (c_isBelow_t l D ty L ad _ _ _ (by omega) (by omega)) ⟨hx, hb, hml, hown, hts⟩ (va_cwS 2 hts gX8_ask_X8_isBelow rfl rfl rfl (by decide +kernel) ⟨Nat.le_of_ble_eq_true rfl, Nat.le_of_ble_eq_true rfl⟩) hB rfl hl.1 rfl (Nat.le_of_ble_eq_true rfl) dX8_ask_13 ⟨Nat.le_of_ble_eq_true rfl, Nat.le_of_ble_eq_true rfl⟩ (fun H locs hB => ?_)
  refine b_if_eq_f 33 hx hb dX8_ask_16 (by decide) (by decide) ?_
  refine lv_aload hx hb dX8_ask_19 (lv_at hl 0 rfl) ?_
  refine lv_ifnull hx hb dX8_ask_21 ?_
  refine lv_iload_n hx hb dX8_ask_24 rfl (lv_at hl 4 rfl) ?_
  refine lv_bipush (v := 10) hx hb dX8_ask_25 (by decide) ?_
  refine m_callSE (As := [.int tp, .int 10]) (rest := []) (c_isBelow_t l D ty L ad _ _ _ (by omega) (by omega)) ⟨hx, hb, hml, hown, hts⟩ (va_cwS 2 hts gX8_ask_X8_isBelow rfl rfl rfl (by decide +kernel) ⟨Nat.le_of_ble_eq_true rfl, Nat.le_of_ble_eq_true rfl⟩) hB rfl hl.1 rfl (Nat.le_of_ble_eq_true rfl) dX8_ask_27 ⟨Nat.le_of_ble_eq_true rfl, Nat.le_of_ble_eq_true rfl⟩ (fun H locs hB => ?_)
  refine b_if_ne_t 35 hx hb dX8_ask_30 (by decide) (by decide) ?_
  refine lv_aload_n hx hb dX8_ask_35 rfl (lv_at hl 1 rfl) ?_
  refine lv_aload hx hb dX8_ask_36 (lv_at hl 0 rfl) ?_
  refine lv_iload_n hx hb dX8_ask_38 rfl (lv_at hl 2 rfl) ?_
  refine m_callVE (ci := 8) (As := [.ref (ad pp), .int (nI b)]) (rest := []) (c_X_isOpen2 l D ty L ad g pn qn nw tr fs fe pp pt vn wd b f m_0 m_3 m_4 m_5 m_pp h_0 h_3 h_4 h_5 h_pp hb6 hf4 hwd) ⟨hx, hb, hml, hown, hts⟩ (cwV 2 hts gX8_ask_X8_isOpen rfl rfl rfl (by decide +kernel) ⟨Nat.le_of_ble_eq_true rfl, Nat.le_of_ble_eq_true rfl⟩) hB m_0 h_0 rfl rfl hl.1 rfl (Nat.le_of_ble_eq_true rfl) dX8_ask_39 ⟨Nat.le_of_ble_eq_true rfl, Nat.le_of_ble_eq_true rfl⟩ (fun H locs hB => ?_)
  refine b_if_ne_f 48 hx hb dX8_ask_42 (by decide) (by rw [hs]; decide) ?_
  refine lv_bipush (v := (-4)) hx hb dX8_ask_45 (by decide) ?_
  exact m_iret hx hb hrt hlocks hB (Nat.le_refl _) (Nat.le_refl _) dX8_ask_47 ⟨rfl, rfl, rfl, rfl⟩
set_option maxHeartbeats 1000000 in
set_option maxRecDepth 100000 in
theorem c_X_ask2_state (l : Launch) (D : va_G) (ty : Nat → ClassId) (L : List Nat) (ad : Nat → Nat) (g : Nat → va_E) (pn qn : Nat) (nw : Int32) (tr : Int64) (pf : Nat → Option Nat) (ak : Nat → Int32) (fs fe : Nat → Int32) (pp pt vn : Nat) (wd : Int32) (qf : Nat → Option Nat) (qr : Nat → Nat) (qp qt qa qc qv : Nat → Int32) (k b f : Nat) (tp : Int32) (m_0 : 0 ∈ L) (m_3 : 3 ∈ L) (m_4 : 4 ∈ L) (m_5 : 5 ∈ L) (m_6 : 6 ∈ L) (m_28 : 28 ∈ L) (m_29 : 29 ∈ L) (m_pp : pp ∈ L) (h_0 : g 0 = .inr (8, [.ref (ad 1), .ref (ad 3), .ref (ad 6), .int (nI pn), .ref (ad 7), .ref (ad 20), .ref (ad 22), .ref (ad 28), .int (nI qn), .ref (ad 29), .int nw, .long tr])) (h_3 : g 3 = .inr (4, [.ref (ad 4), .ref (ad 5)])) (h_4 : g 4 = .inl (ty 0, 12, .inl fs)) (h_5 : g 5 = .inl (ty 0, 12, .inl fe)) (h_6 : g 6 = .inl (ty 4, 8, .inr (.inr (.inr (.inr pf))))) (h_28 : g 28 = .inl (ty 5, 30, .inr (.inr (.inr (.inr qf))))) (h_29 : g 29 = .inl (ty 0, 6, .inl ak)) (h_pp : g pp = .inr (2, [.int (nI f), .ref (ad pt), .int (nI vn), .int wd])) (hk : k < 8) (hpp : pf k = some (ad pp)) (hb6 : b < 6) (hf4 : f < 4) (hwd : wd = 0 ∨ wd = 1) (h30 : 30 ≤ pp) (htp : 0 ≤ tp.toInt ∧ tp.toInt < 10) (hs : (opn wd fs fe (b % 3 * 4 + f) nw) = true) (hak : 2 ≤ (ak b).toInt) : m_E l yX8_ask wsX8_ask 5 113 D ty [.ref (ad 0), .int (nI b), .int (nI k), .int tp] L ad g (some (.int (-2))) g := by
  intro sz
  refine Met.ofW (cc := cX8_ask) (maxL := 7) (ret := (some .int)) (by decide) rfl ?_
  intro p e s m args below meth c s₁ B hml hv
  have hx := B.exec
  have hb := B.bytes
  have hrt := B.returns
  have hts := atoms_spec (ws := wsX8_ask) B.pre
  have hown : s.vm.findClass RX8 = some m.cls := findClass_of_methodNamed B.named
  have hlocks := B.notSynchronized
  obtain ⟨rfl, hB⟩ := m_start hv
  generalize va_A (m_w L ad g) sz = A at hB ⊢
  generalize s.heap = H at hB ⊢
  generalize ([] : List Loc) = locs at hB ⊢
  have hl := lv_entry ([.ref (ad 0), .int (nI b), .int (nI k), .int tp]) (n := 7) (Nat.le_of_ble_eq_true rfl)
  rw [lg_entry_eq]
  generalize (lg_sl ([.ref (ad 0), .int (nI b), .int (nI k), .int tp]) ++ List.replicate (7 - (lg_sl ([.ref (ad 0), .int (nI b), .int (nI k), .int tp])).length) Slot.unset).toArray = ls at hl ⊢
  have hl : lv_has ls 7 [(0, .ref (ad 0)), (1, .int (nI b)), (2, .int (nI k)), (3, .int tp)] := hl
  have tI_b : (nI b).toInt = (b : Int) := nI_toInt (by omega)
  have ln : (nI 6).toInt = 6 := by decide
  have l10 : (10 : Int32).toInt = 10 := by decide
  have l2 : (2 : Int32).toInt = 2 := by decide
  refine lv_aload_n hx hb dX8_ask_0 rfl (lv_at hl 0 rfl) ?_
  refine lv_iload_n hx hb dX8_ask_1 rfl (lv_at hl 2 rfl) ?_
  refine m_callVE (ci := 8) (As := [.int (nI k)]) (rest := []) ((by have h9 := c_X_paperNumber_t l D ty L ad g pn qn nw tr pf k m_0 m_6 h_0 h_6 hk; rw [hpp] at h9; exact h9 : m_E l yX8_paperNumber wsX8_paperNumber 1 21 D ty [.ref (ad 0), .int (nI k)] L ad g (some (.ref (ad pp))) g)) ⟨hx, hb, hml, hown, hts⟩ (cwV 1 hts gX8_ask_X8_paperNumber rfl rfl rfl (by decide +kernel) ⟨Nat.le_of_ble_eq_true rfl, Nat.le_of_ble_eq_true rfl⟩) hB m_0 h_0 rfl rfl hl.1 rfl (Nat.le_of_ble_eq_true rfl) dX8_ask_2 ⟨Nat.le_of_ble_eq_true rfl, Nat.le_of_ble_eq_true rfl⟩ (fun H locs hB => ?_)
  refine lv_astore (lv' := [(4, .ref (ad pp)), (0, .ref (ad 0)), (1, .int (nI b)), (2, .int (nI k)), (3, .int tp)]) hx hb dX8_ask_5 hl (by decide) rfl (fun ls hl => ?_)
  refine lv_iload_n hx hb dX8_ask_7 rfl (lv_at hl 2 rfl) ?_
  refine lv_aload_n hx hb dX8_ask_8 rfl (lv_at hl 1 rfl) ?_
  refine m_get (C := RX8) (T := TX8) (N := 12) (ci := 8) hx hb hts in_X8_ask_X8 hown hB m_0 h_0 rfl 9 (by decide) (hts (.fieldLink RX8 51 "PaperRoom" "asksThisTick" "[I") (by decide +kernel)) (fun _ h9 => h9) rfl dX8_ask_9 ?_
  refine m_alen hx hb hB m_29 0 h_29 rfl (v := nI 6) rfl dX8_ask_12 ?_
  refine m_callSE (As := [.int (nI b), .int (nI 6)]) (rest := []) (c_isBelow_t l D ty L ad _ _ _ (by omega) (by omega)) ⟨hx, hb, hml, hown, hts⟩ (va_cwS 2 hts gX8_ask_X8_isBelow rfl rfl rfl (by decide +kernel) ⟨Nat.le_of_ble_eq_true rfl, Nat.le_of_ble_eq_true rfl⟩) hB rfl hl.1 rfl (Nat.le_of_ble_eq_true rfl) dX8_ask_13 ⟨Nat.le_of_ble_eq_true rfl, Nat.le_of_ble_eq_true rfl⟩ (fun H locs hB => ?_)
  refine b_if_eq_f 33 hx hb dX8_ask_16 (by decide) (by decide) ?_
  refine lv_aload hx hb dX8_ask_19 (lv_at hl 0 rfl) ?_
  refine lv_ifnull hx hb dX8_ask_21 ?_
  refine lv_iload_n hx hb dX8_ask_24 rfl (lv_at hl 4 rfl) ?_
  refine lv_bipush (v := 10) hx hb dX8_ask_25 (by decide) ?_
  refine m_callSE (As := [.int tp, .int 10]) (rest := []) (c_isBelow_t l D ty L ad _ _ _ (by omega) (by omega)) ⟨hx, hb, hml, hown, hts⟩ (va_cwS 2 hts gX8_ask_X8_isBelow rfl rfl rfl (by decide +kernel) ⟨Nat.le_of_ble_eq_true rfl, Nat.le_of_ble_eq_true rfl⟩) hB rfl hl.1 rfl (Nat.le_of_ble_eq_true rfl) dX8_ask_27 ⟨Nat.le_of_ble_eq_true rfl, Nat.le_of_ble_eq_true rfl⟩ (fun H locs hB => ?_)
  refine b_if_ne_t 35 hx hb dX8_ask_30 (by decide) (by decide) ?_
  refine lv_aload_n hx hb dX8_ask_35 rfl (lv_at hl 1 rfl) ?_
  refine lv_aload hx hb dX8_ask_36 (lv_at hl 0 rfl) ?_
  refine lv_iload_n hx hb dX8_ask_38 rfl (lv_at hl 2 rfl) ?_
  refine m_callVE (ci := 8) (As := [.ref (ad pp), .int (nI b)]) (rest := []) (c_X_isOpen2 l D ty L ad g pn qn nw tr fs fe pp pt vn wd b f m_0 m_3 m_4 m_5 m_pp h_0 h_3 h_4 h_5 h_pp hb6 hf4 hwd) ⟨hx, hb, hml, hown, hts⟩ (cwV 2 hts gX8_ask_X8_isOpen rfl rfl rfl (by decide +kernel) ⟨Nat.le_of_ble_eq_true rfl, Nat.le_of_ble_eq_true rfl⟩) hB m_0 h_0 rfl rfl hl.1 rfl (Nat.le_of_ble_eq_true rfl) dX8_ask_39 ⟨Nat.le_of_ble_eq_true rfl, Nat.le_of_ble_eq_true rfl⟩ (fun H locs hB => ?_)
  refine b_if_ne_t 48 hx hb dX8_ask_42 (by decide) (by rw [hs]; decide) ?_
  refine lv_aload_n hx hb dX8_ask_48 rfl (lv_at hl 1 rfl) ?_
  refine m_get (C := RX8) (T := TX8) (N := 12) (ci := 8) hx hb hts in_X8_ask_X8 hown hB m_0 h_0 rfl 9 (by decide) (hts (.fieldLink RX8 51 "PaperRoom" "asksThisTick" "[I") (by decide +kernel)) (fun _ h9 => h9) rfl dX8_ask_49 ?_
  refine lv_iload_n hx hb dX8_ask_52 rfl (lv_at hl 2 rfl) ?_
  refine n_iald hx hb hB m_29 h_29 b rfl (by omega) (by omega) dX8_ask_53 ?_
  refine lv_iconst (v := 2) hx hb dX8_ask_54 (by decide) ?_
  refine b_icmp_lt_f 61 hx hb dX8_ask_55 (by decide) (by rw [l2]; omega) ?_
  refine lv_bipush (v := (-2)) hx hb dX8_ask_58 (by decide) ?_
  exact m_iret hx hb hrt hlocks hB (Nat.le_refl _) (Nat.le_refl _) dX8_ask_60 ⟨rfl, rfl, rfl, rfl⟩
set_option maxHeartbeats 1000000 in
set_option maxRecDepth 100000 in
theorem c_X_ask2_full (l : Launch) (D : va_G) (ty : Nat → ClassId) (L : List Nat) (ad : Nat → Nat) (g : Nat → va_E) (pn qn : Nat) (nw : Int32) (tr : Int64) (pf : Nat → Option Nat) (ak : Nat → Int32) (fs fe : Nat → Int32) (pp pt vn : Nat) (wd : Int32) (qf : Nat → Option Nat) (qr : Nat → Nat) (qp qt qa qc qv : Nat → Int32) (k b f : Nat) (tp : Int32) (m_0 : 0 ∈ L) (m_3 : 3 ∈ L) (m_4 : 4 ∈ L) (m_5 : 5 ∈ L) (m_6 : 6 ∈ L) (m_28 : 28 ∈ L) (m_29 : 29 ∈ L) (m_pp : pp ∈ L) (h_0 : g 0 = .inr (8, [.ref (ad 1), .ref (ad 3), .ref (ad 6), .int (nI pn), .ref (ad 7), .ref (ad 20), .ref (ad 22), .ref (ad 28), .int (nI qn), .ref (ad 29), .int nw, .long tr])) (h_3 : g 3 = .inr (4, [.ref (ad 4), .ref (ad 5)])) (h_4 : g 4 = .inl (ty 0, 12, .inl fs)) (h_5 : g 5 = .inl (ty 0, 12, .inl fe)) (h_6 : g 6 = .inl (ty 4, 8, .inr (.inr (.inr (.inr pf))))) (h_28 : g 28 = .inl (ty 5, 30, .inr (.inr (.inr (.inr qf))))) (h_29 : g 29 = .inl (ty 0, 6, .inl ak)) (h_pp : g pp = .inr (2, [.int (nI f), .ref (ad pt), .int (nI vn), .int wd])) (hk : k < 8) (hpp : pf k = some (ad pp)) (hb6 : b < 6) (hf4 : f < 4) (hwd : wd = 0 ∨ wd = 1) (h30 : 30 ≤ pp) (htp : 0 ≤ tp.toInt ∧ tp.toInt < 10) (hs : (opn wd fs fe (b % 3 * 4 + f) nw) = true) (hak : (ak b).toInt < 2) (hq0 : ∀ i, i < qn → qf i = some (ad (qr i))) (hq1 : ∀ i, i < qn → qr i ∈ L) (hq2 : ∀ i, i < qn → g (qr i) = .inr (3, [.int (qp i), .int (qt i), .int (qa i), .int (qc i), .int (qv i)])) (hqn : qn ≤ 30) (hq30 : qn = 30) (hno : ∀ i, i < qn → ¬ (qp i = nI k ∧ qt i = tp)) : m_E l yX8_ask wsX8_ask 5 113 D ty [.ref (ad 0), .int (nI b), .int (nI k), .int tp] L ad g (some (.int (-3))) g := by
  intro sz
  refine Met.ofW (cc := cX8_ask) (maxL := 7) (ret := (some .int)) (by decide) rfl ?_
  intro p e s m args below meth c s₁ B hml hv
  have hx := B.exec
  have hb := B.bytes
  have hrt := B.returns
  have hts := atoms_spec (ws := wsX8_ask) B.pre
  have hown : s.vm.findClass RX8 = some m.cls := findClass_of_methodNamed B.named
  have hlocks := B.notSynchronized
  obtain ⟨rfl, hB⟩ := m_start hv
  generalize va_A (m_w L ad g) sz = A at hB ⊢
  generalize s.heap = H at hB ⊢
  generalize ([] : List Loc) = locs at hB ⊢
  have hl := lv_entry ([.ref (ad 0), .int (nI b), .int (nI k), .int tp]) (n := 7) (Nat.le_of_ble_eq_true rfl)
  rw [lg_entry_eq]
  generalize (lg_sl ([.ref (ad 0), .int (nI b), .int (nI k), .int tp]) ++ List.replicate (7 - (lg_sl ([.ref (ad 0), .int (nI b), .int (nI k), .int tp])).length) Slot.unset).toArray = ls at hl ⊢
  have hl : lv_has ls 7 [(0, .ref (ad 0)), (1, .int (nI b)), (2, .int (nI k)), (3, .int tp)] := hl
  have tI_b : (nI b).toInt = (b : Int) := nI_toInt (by omega)
  have ln : (nI 6).toInt = 6 := by decide
  have l10 : (10 : Int32).toInt = 10 := by decide
  have l2 : (2 : Int32).toInt = 2 := by decide
  refine lv_aload_n hx hb dX8_ask_0 rfl (lv_at hl 0 rfl) ?_
  refine lv_iload_n hx hb dX8_ask_1 rfl (lv_at hl 2 rfl) ?_
  refine m_callVE (ci := 8) (As := [.int (nI k)]) (rest := []) ((by have h9 := c_X_paperNumber_t l D ty L ad g pn qn nw tr pf k m_0 m_6 h_0 h_6 hk; rw [hpp] at h9; exact h9 : m_E l yX8_paperNumber wsX8_paperNumber 1 21 D ty [.ref (ad 0), .int (nI k)] L ad g (some (.ref (ad pp))) g)) ⟨hx, hb, hml, hown, hts⟩ (cwV 1 hts gX8_ask_X8_paperNumber rfl rfl rfl (by decide +kernel) ⟨Nat.le_of_ble_eq_true rfl, Nat.le_of_ble_eq_true rfl⟩) hB m_0 h_0 rfl rfl hl.1 rfl (Nat.le_of_ble_eq_true rfl) dX8_ask_2 ⟨Nat.le_of_ble_eq_true rfl, Nat.le_of_ble_eq_true rfl⟩ (fun H locs hB => ?_)
  refine lv_astore (lv' := [(4, .ref (ad pp)), (0, .ref (ad 0)), (1, .int (nI b)), (2, .int (nI k)), (3, .int tp)]) hx hb dX8_ask_5 hl (by decide) rfl (fun ls hl => ?_)
  refine lv_iload_n hx hb dX8_ask_7 rfl (lv_at hl 2 rfl) ?_
  refine lv_aload_n hx hb dX8_ask_8 rfl (lv_at hl 1 rfl) ?_
  refine m_get (C := RX8) (T := TX8) (N := 12) (ci := 8) hx hb hts in_X8_ask_X8 hown hB m_0 h_0 rfl 9 (by decide) (hts (.fieldLink RX8 51 "PaperRoom" "asksThisTick" "[I") (by decide +kernel)) (fun _ h9 => h9) rfl dX8_ask_9 ?_
  refine m_alen hx hb hB m_29 0 h_29 rfl (v := nI 6) rfl dX8_ask_12 ?_
  refine m_callSE (As := [.int (nI b), .int (nI 6)]) (rest := []) (c_isBelow_t l D ty L ad _ _ _ (by omega) (by omega)) ⟨hx, hb, hml, hown, hts⟩ (va_cwS 2 hts gX8_ask_X8_isBelow rfl rfl rfl (by decide +kernel) ⟨Nat.le_of_ble_eq_true rfl, Nat.le_of_ble_eq_true rfl⟩) hB rfl hl.1 rfl (Nat.le_of_ble_eq_true rfl) dX8_ask_13 ⟨Nat.le_of_ble_eq_true rfl, Nat.le_of_ble_eq_true rfl⟩ (fun H locs hB => ?_)
  refine b_if_eq_f 33 hx hb dX8_ask_16 (by decide) (by decide) ?_
  refine lv_aload hx hb dX8_ask_19 (lv_at hl 0 rfl) ?_
  refine lv_ifnull hx hb dX8_ask_21 ?_
  refine lv_iload_n hx hb dX8_ask_24 rfl (lv_at hl 4 rfl) ?_
  refine lv_bipush (v := 10) hx hb dX8_ask_25 (by decide) ?_
  refine m_callSE (As := [.int tp, .int 10]) (rest := []) (c_isBelow_t l D ty L ad _ _ _ (by omega) (by omega)) ⟨hx, hb, hml, hown, hts⟩ (va_cwS 2 hts gX8_ask_X8_isBelow rfl rfl rfl (by decide +kernel) ⟨Nat.le_of_ble_eq_true rfl, Nat.le_of_ble_eq_true rfl⟩) hB rfl hl.1 rfl (Nat.le_of_ble_eq_true rfl) dX8_ask_27 ⟨Nat.le_of_ble_eq_true rfl, Nat.le_of_ble_eq_true rfl⟩ (fun H locs hB => ?_)
  refine b_if_ne_t 35 hx hb dX8_ask_30 (by decide) (by decide) ?_
  refine lv_aload_n hx hb dX8_ask_35 rfl (lv_at hl 1 rfl) ?_
  refine lv_aload hx hb dX8_ask_36 (lv_at hl 0 rfl) ?_
  refine lv_iload_n hx hb dX8_ask_38 rfl (lv_at hl 2 rfl) ?_
  refine m_callVE (ci := 8) (As := [.ref (ad pp), .int (nI b)]) (rest := []) (c_X_isOpen2 l D ty L ad g pn qn nw tr fs fe pp pt vn wd b f m_0 m_3 m_4 m_5 m_pp h_0 h_3 h_4 h_5 h_pp hb6 hf4 hwd) ⟨hx, hb, hml, hown, hts⟩ (cwV 2 hts gX8_ask_X8_isOpen rfl rfl rfl (by decide +kernel) ⟨Nat.le_of_ble_eq_true rfl, Nat.le_of_ble_eq_true rfl⟩) hB m_0 h_0 rfl rfl hl.1 rfl (Nat.le_of_ble_eq_true rfl) dX8_ask_39 ⟨Nat.le_of_ble_eq_true rfl, Nat.le_of_ble_eq_true rfl⟩ (fun H locs hB => ?_)
  refine b_if_ne_t 48 hx hb dX8_ask_42 (by decide) (by rw [hs]; decide) ?_
  refine lv_aload_n hx hb dX8_ask_48 rfl (lv_at hl 1 rfl) ?_
  refine m_get (C := RX8) (T := TX8) (N := 12) (ci := 8) hx hb hts in_X8_ask_X8 hown hB m_0 h_0 rfl 9 (by decide) (hts (.fieldLink RX8 51 "PaperRoom" "asksThisTick" "[I") (by decide +kernel)) (fun _ h9 => h9) rfl dX8_ask_49 ?_
  refine lv_iload_n hx hb dX8_ask_52 rfl (lv_at hl 2 rfl) ?_
  refine n_iald hx hb hB m_29 h_29 b rfl (by omega) (by omega) dX8_ask_53 ?_
  refine lv_iconst (v := 2) hx hb dX8_ask_54 (by decide) ?_
  refine b_icmp_lt_t 61 hx hb dX8_ask_55 (by decide) (by rw [l2]; omega) ?_
  refine lv_aload_n hx hb dX8_ask_61 rfl (lv_at hl 1 rfl) ?_
  refine lv_iload_n hx hb dX8_ask_62 rfl (lv_at hl 3 rfl) ?_
  refine lv_iload_n hx hb dX8_ask_63 rfl (lv_at hl 4 rfl) ?_
  refine m_callVE (ci := 8) (As := [.int (nI k), .int tp]) (rest := []) (c_X_questionOn_full l D ty L ad g pn qn nw tr qf qr qp qt qa qc qv (nI k) tp m_0 m_28 h_0 h_28 hq0 hq1 hq2 hqn hq30 hno) ⟨hx, hb, hml, hown, hts⟩ (cwV 2 hts gX8_ask_X8_questionOn rfl rfl rfl (by decide +kernel) ⟨Nat.le_of_ble_eq_true rfl, Nat.le_of_ble_eq_true rfl⟩) hB m_0 h_0 rfl rfl hl.1 rfl (Nat.le_of_ble_eq_true rfl) dX8_ask_64 ⟨Nat.le_of_ble_eq_true rfl, Nat.le_of_ble_eq_true rfl⟩ (fun H locs hB => ?_)
  refine lv_istore (lv' := [(5, .int (-9)), (4, .ref (ad pp)), (0, .ref (ad 0)), (1, .int (nI b)), (2, .int (nI k)), (3, .int tp)]) hx hb dX8_ask_67 hl (by decide) rfl (fun ls hl => ?_)
  refine lv_aload_n hx hb dX8_ask_69 rfl (lv_at hl 2 rfl) ?_
  refine lv_iload hx hb dX8_ask_70 (lv_at hl 0 rfl) ?_
  refine m_callVE (ci := 8) (As := [.int (-9)]) (rest := []) (c_X_questionNumber_f l D ty L ad g pn qn nw tr qf (-9) m_0 m_28 h_0 h_28 (by decide)) ⟨hx, hb, hml, hown, hts⟩ (cwV 1 hts gX8_ask_X8_questionNumber rfl rfl rfl (by decide +kernel) ⟨Nat.le_of_ble_eq_true rfl, Nat.le_of_ble_eq_true rfl⟩) hB m_0 h_0 rfl rfl hl.1 rfl (Nat.le_of_ble_eq_true rfl) dX8_ask_72 ⟨Nat.le_of_ble_eq_true rfl, Nat.le_of_ble_eq_true rfl⟩ (fun H locs hB => ?_)
  refine lv_astoreN (lv' := [(6, .null), (5, .int (-9)), (4, .ref (ad pp)), (0, .ref (ad 0)), (1, .int (nI b)), (2, .int (nI k)), (3, .int tp)]) hx hb dX8_ask_75 hl (by decide) rfl (fun ls hl => ?_)
  refine lv_aloadN hx hb dX8_ask_77 (lv_at hl 0 rfl) ?_
  refine lv_ifnonnullN hx hb dX8_ask_79 ?_
  refine lv_bipush (v := (-3)) hx hb dX8_ask_82 (by decide) ?_
  exact m_iret hx hb hrt hlocks hB (Nat.le_refl _) (Nat.le_refl _) dX8_ask_84 ⟨rfl, rfl, rfl, rfl⟩
set_option maxHeartbeats 1000000 in
set_option maxRecDepth 100000 in
theorem c_X_ask2_join (l : Launch) (D : va_G) (ty : Nat → ClassId) (L : List Nat) (ad : Nat → Nat) (g : Nat → va_E) (pn qn : Nat) (nw : Int32) (tr : Int64) (pf : Nat → Option Nat) (ak : Nat → Int32) (fs fe : Nat → Int32) (pp pt vn : Nat) (wd : Int32) (qf : Nat → Option Nat) (qr : Nat → Nat) (qp qt qa qc qv : Nat → Int32) (k b f : Nat) (tp : Int32) (q : Nat) (m_0 : 0 ∈ L) (m_3 : 3 ∈ L) (m_4 : 4 ∈ L) (m_5 : 5 ∈ L) (m_6 : 6 ∈ L) (m_28 : 28 ∈ L) (m_29 : 29 ∈ L) (m_pp : pp ∈ L) (h_0 : g 0 = .inr (8, [.ref (ad 1), .ref (ad 3), .ref (ad 6), .int (nI pn), .ref (ad 7), .ref (ad 20), .ref (ad 22), .ref (ad 28), .int (nI qn), .ref (ad 29), .int nw, .long tr])) (h_3 : g 3 = .inr (4, [.ref (ad 4), .ref (ad 5)])) (h_4 : g 4 = .inl (ty 0, 12, .inl fs)) (h_5 : g 5 = .inl (ty 0, 12, .inl fe)) (h_6 : g 6 = .inl (ty 4, 8, .inr (.inr (.inr (.inr pf))))) (h_28 : g 28 = .inl (ty 5, 30, .inr (.inr (.inr (.inr qf))))) (h_29 : g 29 = .inl (ty 0, 6, .inl ak)) (h_pp : g pp = .inr (2, [.int (nI f), .ref (ad pt), .int (nI vn), .int wd])) (hk : k < 8) (hpp : pf k = some (ad pp)) (hb6 : b < 6) (hf4 : f < 4) (hwd : wd = 0 ∨ wd = 1) (h30 : 30 ≤ pp) (htp : 0 ≤ tp.toInt ∧ tp.toInt < 10) (hs : (opn wd fs fe (b % 3 * 4 + f) nw) = true) (hak : (ak b).toInt < 2) (hq0 : ∀ i, i < qn → qf i = some (ad (qr i))) (hq1 : ∀ i, i < qn → qr i ∈ L) (hq2 : ∀ i, i < qn → g (qr i) = .inr (3, [.int (qp i), .int (qt i), .int (qa i), .int (qc i), .int (qv i)])) (hqn : qn ≤ 30) (hq : q < qn) (hyes : (qp q = nI k ∧ qt q = tp)) (hno : ∀ i, i < q → ¬ (qp i = nI k ∧ qt i = tp)) (h31 : 30 ≤ qr q) : m_E l yX8_ask wsX8_ask 5 113 D ty [.ref (ad 0), .int (nI b), .int (nI k), .int tp] L ad g (some (.int (nI q))) (va_up (va_up g (qr q) (.inr (3, [.int (qp q), .int (qt q), .int (qa q ||| (1 <<< (nI b &&& 31))), .int (qc q), .int (qv q)]))) 29 (.inl (ty 0, 6, .inl (upd ak b (ak b + 1))))) := by
  intro sz
  refine Met.ofW (cc := cX8_ask) (maxL := 7) (ret := (some .int)) (by decide) rfl ?_
  intro p e s m args below meth c s₁ B hml hv
  have hx := B.exec
  have hb := B.bytes
  have hrt := B.returns
  have hts := atoms_spec (ws := wsX8_ask) B.pre
  have hown : s.vm.findClass RX8 = some m.cls := findClass_of_methodNamed B.named
  have hlocks := B.notSynchronized
  obtain ⟨rfl, hB⟩ := m_start hv
  generalize va_A (m_w L ad g) sz = A at hB ⊢
  generalize s.heap = H at hB ⊢
  generalize ([] : List Loc) = locs at hB ⊢
  have hl := lv_entry ([.ref (ad 0), .int (nI b), .int (nI k), .int tp]) (n := 7) (Nat.le_of_ble_eq_true rfl)
  rw [lg_entry_eq]
  generalize (lg_sl ([.ref (ad 0), .int (nI b), .int (nI k), .int tp]) ++ List.replicate (7 - (lg_sl ([.ref (ad 0), .int (nI b), .int (nI k), .int tp])).length) Slot.unset).toArray = ls at hl ⊢
  have hl : lv_has ls 7 [(0, .ref (ad 0)), (1, .int (nI b)), (2, .int (nI k)), (3, .int tp)] := hl
  have tI_b : (nI b).toInt = (b : Int) := nI_toInt (by omega)
  have ln : (nI 6).toInt = 6 := by decide
  have l10 : (10 : Int32).toInt = 10 := by decide
  have l2 : (2 : Int32).toInt = 2 := by decide
  refine lv_aload_n hx hb dX8_ask_0 rfl (lv_at hl 0 rfl) ?_
  refine lv_iload_n hx hb dX8_ask_1 rfl (lv_at hl 2 rfl) ?_
  refine m_callVE (ci := 8) (As := [.int (nI k)]) (rest := []) ((by have h9 := c_X_paperNumber_t l D ty L ad g pn qn nw tr pf k m_0 m_6 h_0 h_6 hk; rw [hpp] at h9; exact h9 : m_E l yX8_paperNumber wsX8_paperNumber 1 21 D ty [.ref (ad 0), .int (nI k)] L ad g (some (.ref (ad pp))) g)) ⟨hx, hb, hml, hown, hts⟩ (cwV 1 hts gX8_ask_X8_paperNumber rfl rfl rfl (by decide +kernel) ⟨Nat.le_of_ble_eq_true rfl, Nat.le_of_ble_eq_true rfl⟩) hB m_0 h_0 rfl rfl hl.1 rfl (Nat.le_of_ble_eq_true rfl) dX8_ask_2 ⟨Nat.le_of_ble_eq_true rfl, Nat.le_of_ble_eq_true rfl⟩ (fun H locs hB => ?_)
  refine lv_astore (lv' := [(4, .ref (ad pp)), (0, .ref (ad 0)), (1, .int (nI b)), (2, .int (nI k)), (3, .int tp)]) hx hb dX8_ask_5 hl (by decide) rfl (fun ls hl => ?_)
  refine lv_iload_n hx hb dX8_ask_7 rfl (lv_at hl 2 rfl) ?_
  refine lv_aload_n hx hb dX8_ask_8 rfl (lv_at hl 1 rfl) ?_
  refine m_get (C := RX8) (T := TX8) (N := 12) (ci := 8) hx hb hts in_X8_ask_X8 hown hB m_0 h_0 rfl 9 (by decide) (hts (.fieldLink RX8 51 "PaperRoom" "asksThisTick" "[I") (by decide +kernel)) (fun _ h9 => h9) rfl dX8_ask_9 ?_
  refine m_alen hx hb hB m_29 0 h_29 rfl (v := nI 6) rfl dX8_ask_12 ?_
  refine m_callSE (As := [.int (nI b), .int (nI 6)]) (rest := []) (c_isBelow_t l D ty L ad _ _ _ (by omega) (by omega)) ⟨hx, hb, hml, hown, hts⟩ (va_cwS 2 hts gX8_ask_X8_isBelow rfl rfl rfl (by decide +kernel) ⟨Nat.le_of_ble_eq_true rfl, Nat.le_of_ble_eq_true rfl⟩) hB rfl hl.1 rfl (Nat.le_of_ble_eq_true rfl) dX8_ask_13 ⟨Nat.le_of_ble_eq_true rfl, Nat.le_of_ble_eq_true rfl⟩ (fun H locs hB => ?_)
  refine b_if_eq_f 33 hx hb dX8_ask_16 (by decide) (by decide) ?_
  refine lv_aload hx hb dX8_ask_19 (lv_at hl 0 rfl) ?_
  refine lv_ifnull hx hb dX8_ask_21 ?_
  refine lv_iload_n hx hb dX8_ask_24 rfl (lv_at hl 4 rfl) ?_
  refine lv_bipush (v := 10) hx hb dX8_ask_25 (by decide) ?_
  refine m_callSE (As := [.int tp, .int 10]) (rest := []) (c_isBelow_t l D ty L ad _ _ _ (by omega) (by omega)) ⟨hx, hb, hml, hown, hts⟩ (va_cwS 2 hts gX8_ask_X8_isBelow rfl rfl rfl (by decide +kernel) ⟨Nat.le_of_ble_eq_true rfl, Nat.le_of_ble_eq_true rfl⟩) hB rfl hl.1 rfl (Nat.le_of_ble_eq_true rfl) dX8_ask_27 ⟨Nat.le_of_ble_eq_true rfl, Nat.le_of_ble_eq_true rfl⟩ (fun H locs hB => ?_)
  refine b_if_ne_t 35 hx hb dX8_ask_30 (by decide) (by decide) ?_
  refine lv_aload_n hx hb dX8_ask_35 rfl (lv_at hl 1 rfl) ?_
  refine lv_aload hx hb dX8_ask_36 (lv_at hl 0 rfl) ?_
  refine lv_iload_n hx hb dX8_ask_38 rfl (lv_at hl 2 rfl) ?_
  refine m_callVE (ci := 8) (As := [.ref (ad pp), .int (nI b)]) (rest := []) (c_X_isOpen2 l D ty L ad g pn qn nw tr fs fe pp pt vn wd b f m_0 m_3 m_4 m_5 m_pp h_0 h_3 h_4 h_5 h_pp hb6 hf4 hwd) ⟨hx, hb, hml, hown, hts⟩ (cwV 2 hts gX8_ask_X8_isOpen rfl rfl rfl (by decide +kernel) ⟨Nat.le_of_ble_eq_true rfl, Nat.le_of_ble_eq_true rfl⟩) hB m_0 h_0 rfl rfl hl.1 rfl (Nat.le_of_ble_eq_true rfl) dX8_ask_39 ⟨Nat.le_of_ble_eq_true rfl, Nat.le_of_ble_eq_true rfl⟩ (fun H locs hB => ?_)
  refine b_if_ne_t 48 hx hb dX8_ask_42 (by decide) (by rw [hs]; decide) ?_
  refine lv_aload_n hx hb dX8_ask_48 rfl (lv_at hl 1 rfl) ?_
  refine m_get (C := RX8) (T := TX8) (N := 12) (ci := 8) hx hb hts in_X8_ask_X8 hown hB m_0 h_0 rfl 9 (by decide) (hts (.fieldLink RX8 51 "PaperRoom" "asksThisTick" "[I") (by decide +kernel)) (fun _ h9 => h9) rfl dX8_ask_49 ?_
  refine lv_iload_n hx hb dX8_ask_52 rfl (lv_at hl 2 rfl) ?_
  refine n_iald hx hb hB m_29 h_29 b rfl (by omega) (by omega) dX8_ask_53 ?_
  refine lv_iconst (v := 2) hx hb dX8_ask_54 (by decide) ?_
  refine b_icmp_lt_t 61 hx hb dX8_ask_55 (by decide) (by rw [l2]; omega) ?_
  refine lv_aload_n hx hb dX8_ask_61 rfl (lv_at hl 1 rfl) ?_
  refine lv_iload_n hx hb dX8_ask_62 rfl (lv_at hl 3 rfl) ?_
  refine lv_iload_n hx hb dX8_ask_63 rfl (lv_at hl 4 rfl) ?_
  refine m_callVE (ci := 8) (As := [.int (nI k), .int tp]) (rest := []) (c_X_questionOn_t l D ty L ad g pn qn nw tr qf qr qp qt qa qc qv (nI k) tp q m_0 m_28 h_0 h_28 hq0 hq1 hq2 hqn hq hyes hno) ⟨hx, hb, hml, hown, hts⟩ (cwV 2 hts gX8_ask_X8_questionOn rfl rfl rfl (by decide +kernel) ⟨Nat.le_of_ble_eq_true rfl, Nat.le_of_ble_eq_true rfl⟩) hB m_0 h_0 rfl rfl hl.1 rfl (Nat.le_of_ble_eq_true rfl) dX8_ask_64 ⟨Nat.le_of_ble_eq_true rfl, Nat.le_of_ble_eq_true rfl⟩ (fun H locs hB => ?_)
  refine lv_istore (lv' := [(5, .int (nI q)), (4, .ref (ad pp)), (0, .ref (ad 0)), (1, .int (nI b)), (2, .int (nI k)), (3, .int tp)]) hx hb dX8_ask_67 hl (by decide) rfl (fun ls hl => ?_)
  refine lv_aload_n hx hb dX8_ask_69 rfl (lv_at hl 2 rfl) ?_
  refine lv_iload hx hb dX8_ask_70 (lv_at hl 0 rfl) ?_
  refine m_callVE (ci := 8) (As := [.int (nI q)]) (rest := []) ((by have h9 := c_X_questionNumber_t l D ty L ad g pn qn nw tr qf q m_0 m_28 h_0 h_28 (by omega); rw [hq0 q hq] at h9; exact h9 : m_E l yX8_questionNumber wsX8_questionNumber 1 21 D ty [.ref (ad 0), .int (nI q)] L ad g (some (.ref (ad (qr q)))) g)) ⟨hx, hb, hml, hown, hts⟩ (cwV 1 hts gX8_ask_X8_questionNumber rfl rfl rfl (by decide +kernel) ⟨Nat.le_of_ble_eq_true rfl, Nat.le_of_ble_eq_true rfl⟩) hB m_0 h_0 rfl rfl hl.1 rfl (Nat.le_of_ble_eq_true rfl) dX8_ask_72 ⟨Nat.le_of_ble_eq_true rfl, Nat.le_of_ble_eq_true rfl⟩ (fun H locs hB => ?_)
  refine lv_astore (lv' := [(6, .ref (ad (qr q))), (5, .int (nI q)), (4, .ref (ad pp)), (0, .ref (ad 0)), (1, .int (nI b)), (2, .int (nI k)), (3, .int tp)]) hx hb dX8_ask_75 hl (by decide) rfl (fun ls hl => ?_)
  refine lv_aload hx hb dX8_ask_77 (lv_at hl 0 rfl) ?_
  refine lv_ifnonnull (tgt := 85) hx hb dX8_ask_79 (by decide) ?_
  refine lv_aload hx hb dX8_ask_85 (lv_at hl 0 rfl) ?_
  refine lv_iload_n hx hb dX8_ask_87 rfl (lv_at hl 4 rfl) ?_
  refine m_callVZ (ci := 3) (As := [.int (nI b)]) (rest := []) (c_Question_join l D ty L ad g (qr q) (qp q) (qt q) (qa q) (qc q) (qv q) (nI b) (hq1 q hq) (hq2 q hq)) ⟨hx, hb, hml, hown, hts⟩ (cwV 1 hts gX8_ask_X3_join rfl rfl rfl (by decide +kernel) ⟨Nat.le_of_ble_eq_true rfl, Nat.le_of_ble_eq_true rfl⟩) hB (hq1 q hq) (hq2 q hq) rfl rfl hl.1 rfl (Nat.le_of_ble_eq_true rfl) dX8_ask_88 ⟨Nat.le_of_ble_eq_true rfl, Nat.le_of_ble_eq_true rfl⟩ (fun H locs hB => ?_)
  replace hB : m_B D ty A s L ad (va_up g (qr q) (.inr (3, [.int (qp q), .int (qt q), .int (qa q ||| (1 <<< (nI b &&& 31))), .int (qc q), .int (qv q)]))) H locs := hB
  refine lv_aload_n hx hb dX8_ask_91 rfl (lv_at hl 3 rfl) ?_
  refine m_get (C := RX8) (T := TX8) (N := 12) (ci := 8) hx hb hts in_X8_ask_X8 hown hB m_0 ((va_up_ne _ _ (by omega)).trans h_0) rfl 9 (by decide) (hts (.fieldLink RX8 51 "PaperRoom" "asksThisTick" "[I") (by decide +kernel)) (fun _ h9 => h9) rfl dX8_ask_92 ?_
  refine lv_iload_n hx hb dX8_ask_95 rfl (lv_at hl 4 rfl) ?_
  refine lv_dup2_11 hx hb dX8_ask_96 rfl rfl ?_
  refine n_iald hx hb hB m_29 ((va_up_ne _ _ (by omega)).trans h_29) b rfl (by omega) (by omega) dX8_ask_97 ?_
  refine lv_iconst (v := 1) hx hb dX8_ask_98 (by decide) ?_
  refine lv_iadd hx hb dX8_ask_99 ?_
  refine n_iast hx hb hB m_29 ((va_up_ne _ _ (by omega)).trans h_29) b rfl (by omega) (by omega) dX8_ask_100 (fun H locs hB => ?_)
  replace hB : m_B D ty A s L ad (va_up (va_up g (qr q) (.inr (3, [.int (qp q), .int (qt q), .int (qa q ||| (1 <<< (nI b &&& 31))), .int (qc q), .int (qv q)]))) 29 (.inl (ty 0, 6, .inl (upd ak b ((ak b) + 1))))) H locs := hB
  refine lv_iload hx hb dX8_ask_101 (lv_at hl 1 rfl) ?_
  exact m_iret hx hb hrt hlocks hB (Nat.le_refl _) (Nat.le_refl _) dX8_ask_103 ⟨rfl, rfl, rfl, rfl⟩
set_option maxHeartbeats 1000000 in
set_option maxRecDepth 100000 in
theorem c_X_ask2_new (l : Launch) (D : va_G) (ty : Nat → ClassId) (L : List Nat) (ad : Nat → Nat) (g : Nat → va_E) (pn qn : Nat) (nw : Int32) (tr : Int64) (pf : Nat → Option Nat) (ak : Nat → Int32) (fs fe : Nat → Int32) (pp pt vn : Nat) (wd : Int32) (qf : Nat → Option Nat) (qr : Nat → Nat) (qp qt qa qc qv : Nat → Int32) (k b f : Nat) (tp : Int32) (nq : Nat) (hL0 : ∀ r, r < 30 → r ∈ L) (m_pp : pp ∈ L) (h_0 : g 0 = .inr (8, [.ref (ad 1), .ref (ad 3), .ref (ad 6), .int (nI pn), .ref (ad 7), .ref (ad 20), .ref (ad 22), .ref (ad 28), .int (nI qn), .ref (ad 29), .int nw, .long tr])) (h_3 : g 3 = .inr (4, [.ref (ad 4), .ref (ad 5)])) (h_4 : g 4 = .inl (ty 0, 12, .inl fs)) (h_5 : g 5 = .inl (ty 0, 12, .inl fe)) (h_6 : g 6 = .inl (ty 4, 8, .inr (.inr (.inr (.inr pf))))) (h_28 : g 28 = .inl (ty 5, 30, .inr (.inr (.inr (.inr qf))))) (h_29 : g 29 = .inl (ty 0, 6, .inl ak)) (h_pp : g pp = .inr (2, [.int (nI f), .ref (ad pt), .int (nI vn), .int wd])) (hk : k < 8) (hpp : pf k = some (ad pp)) (hb6 : b < 6) (hf4 : f < 4) (hwd : wd = 0 ∨ wd = 1) (h30 : 30 ≤ pp) (htp : 0 ≤ tp.toInt ∧ tp.toInt < 10) (hs : (opn wd fs fe (b % 3 * 4 + f) nw) = true) (hak : (ak b).toInt < 2) (hq0 : ∀ i, i < qn → qf i = some (ad (qr i))) (hq1 : ∀ i, i < qn → qr i ∈ L) (hq2 : ∀ i, i < qn → g (qr i) = .inr (3, [.int (qp i), .int (qt i), .int (qa i), .int (qc i), .int (qv i)])) (hqn : qn ≤ 30) (hq30 : qn < 30) (hno : ∀ i, i < qn → ¬ (qp i = nI k ∧ qt i = tp)) (n_nq : nq ∉ L) (hb_nq : 30 ≤ nq) : m_C l yX8_ask wsX8_ask 5 113 1 5 D ty [.ref (ad 0), .int (nI b), .int (nI k), .int tp] L ad g (fun v1 L1 ad1 g1 => v1 = some (.int (nI qn)) ∧ L1 = (L ++ [nq]) ∧ (∀ x ∈ L, ad x = ad1 x) ∧ (∀ x ∈ L, x ≠ 28 → x ≠ 0 → x ≠ 29 → g1 x = g x) ∧ g1 nq = .inr (3, [.int (nI k), .int tp, .int ((0 : Int32) ||| (1 <<< (nI b &&& 31))), .int 0, .int 0]) ∧ g1 28 = .inl (ty 5, 30, .inr (.inr (.inr (.inr (va_up qf qn (some (ad1 nq))))))) ∧ g1 0 = .inr (8, [.ref (ad1 1), .ref (ad1 3), .ref (ad1 6), .int (nI pn), .ref (ad1 7), .ref (ad1 20), .ref (ad1 22), .ref (ad1 28), .int (nI (qn + 1)), .ref (ad1 29), .int nw, .long tr]) ∧ g1 29 = .inl (ty 0, 6, .inl (upd ak b (ak b + 1)))) := by
  intro sz
  refine Met.ofW (cc := cX8_ask) (maxL := 7) (ret := (some .int)) (by decide) rfl ?_
  intro p e s m args below meth c s₁ B hml hv
  have hx := B.exec
  have hb := B.bytes
  have hrt := B.returns
  have hts := atoms_spec (ws := wsX8_ask) B.pre
  have hown : s.vm.findClass RX8 = some m.cls := findClass_of_methodNamed B.named
  have hlocks := B.notSynchronized
  obtain ⟨rfl, hB⟩ := m_start hv
  generalize va_A (m_w L ad g) sz = A at hB ⊢
  generalize s.heap = H at hB ⊢
  generalize ([] : List Loc) = locs at hB ⊢
  have hl := lv_entry ([.ref (ad 0), .int (nI b), .int (nI k), .int tp]) (n := 7) (Nat.le_of_ble_eq_true rfl)
  rw [lg_entry_eq]
  generalize (lg_sl ([.ref (ad 0), .int (nI b), .int (nI k), .int tp]) ++ List.replicate (7 - (lg_sl ([.ref (ad 0), .int (nI b), .int (nI k), .int tp])).length) Slot.unset).toArray = ls at hl ⊢
  have hl : lv_has ls 7 [(0, .ref (ad 0)), (1, .int (nI b)), (2, .int (nI k)), (3, .int tp)] := hl
  have tI_b : (nI b).toInt = (b : Int) := nI_toInt (by omega)
  have ln : (nI 6).toInt = 6 := by decide
  have l10 : (10 : Int32).toInt = 10 := by decide
  have l2 : (2 : Int32).toInt = 2 := by decide
  refine lv_aload_n hx hb dX8_ask_0 rfl (lv_at hl 0 rfl) ?_
  refine lv_iload_n hx hb dX8_ask_1 rfl (lv_at hl 2 rfl) ?_
  refine m_callVE (ci := 8) (As := [.int (nI k)]) (rest := []) ((by have h9 := c_X_paperNumber_t l D ty L ad g pn qn nw tr pf k (hL0 0 (by decide)) (hL0 6 (by decide)) h_0 h_6 hk; rw [hpp] at h9; exact h9 : m_E l yX8_paperNumber wsX8_paperNumber 1 21 D ty [.ref (ad 0), .int (nI k)] L ad g (some (.ref (ad pp))) g)) ⟨hx, hb, hml, hown, hts⟩ (cwV 1 hts gX8_ask_X8_paperNumber rfl rfl rfl (by decide +kernel) ⟨Nat.le_of_ble_eq_true rfl, Nat.le_of_ble_eq_true rfl⟩) hB (hL0 0 (by decide)) h_0 rfl rfl hl.1 rfl (Nat.le_of_ble_eq_true rfl) dX8_ask_2 ⟨Nat.le_of_ble_eq_true rfl, Nat.le_of_ble_eq_true rfl⟩ (fun H locs hB => ?_)
  refine lv_astore (lv' := [(4, .ref (ad pp)), (0, .ref (ad 0)), (1, .int (nI b)), (2, .int (nI k)), (3, .int tp)]) hx hb dX8_ask_5 hl (by decide) rfl (fun ls hl => ?_)
  refine lv_iload_n hx hb dX8_ask_7 rfl (lv_at hl 2 rfl) ?_
  refine lv_aload_n hx hb dX8_ask_8 rfl (lv_at hl 1 rfl) ?_
  refine m_get (C := RX8) (T := TX8) (N := 12) (ci := 8) hx hb hts in_X8_ask_X8 hown hB (hL0 0 (by decide)) h_0 rfl 9 (by decide) (hts (.fieldLink RX8 51 "PaperRoom" "asksThisTick" "[I") (by decide +kernel)) (fun _ h9 => h9) rfl dX8_ask_9 ?_
  refine m_alen hx hb hB (hL0 29 (by decide)) 0 h_29 rfl (v := nI 6) rfl dX8_ask_12 ?_
  refine m_callSE (As := [.int (nI b), .int (nI 6)]) (rest := []) (c_isBelow_t l D ty L ad _ _ _ (by omega) (by omega)) ⟨hx, hb, hml, hown, hts⟩ (va_cwS 2 hts gX8_ask_X8_isBelow rfl rfl rfl (by decide +kernel) ⟨Nat.le_of_ble_eq_true rfl, Nat.le_of_ble_eq_true rfl⟩) hB rfl hl.1 rfl (Nat.le_of_ble_eq_true rfl) dX8_ask_13 ⟨Nat.le_of_ble_eq_true rfl, Nat.le_of_ble_eq_true rfl⟩ (fun H locs hB => ?_)
  refine b_if_eq_f 33 hx hb dX8_ask_16 (by decide) (by decide) ?_
  refine lv_aload hx hb dX8_ask_19 (lv_at hl 0 rfl) ?_
  refine lv_ifnull hx hb dX8_ask_21 ?_
  refine lv_iload_n hx hb dX8_ask_24 rfl (lv_at hl 4 rfl) ?_
  refine lv_bipush (v := 10) hx hb dX8_ask_25 (by decide) ?_
  refine m_callSE (As := [.int tp, .int 10]) (rest := []) (c_isBelow_t l D ty L ad _ _ _ (by omega) (by omega)) ⟨hx, hb, hml, hown, hts⟩ (va_cwS 2 hts gX8_ask_X8_isBelow rfl rfl rfl (by decide +kernel) ⟨Nat.le_of_ble_eq_true rfl, Nat.le_of_ble_eq_true rfl⟩) hB rfl hl.1 rfl (Nat.le_of_ble_eq_true rfl) dX8_ask_27 ⟨Nat.le_of_ble_eq_true rfl, Nat.le_of_ble_eq_true rfl⟩ (fun H locs hB => ?_)
  refine b_if_ne_t 35 hx hb dX8_ask_30 (by decide) (by decide) ?_
  refine lv_aload_n hx hb dX8_ask_35 rfl (lv_at hl 1 rfl) ?_
  refine lv_aload hx hb dX8_ask_36 (lv_at hl 0 rfl) ?_
  refine lv_iload_n hx hb dX8_ask_38 rfl (lv_at hl 2 rfl) ?_
  refine m_callVE (ci := 8) (As := [.ref (ad pp), .int (nI b)]) (rest := []) (c_X_isOpen2 l D ty L ad g pn qn nw tr fs fe pp pt vn wd b f (hL0 0 (by decide)) (hL0 3 (by decide)) (hL0 4 (by decide)) (hL0 5 (by decide)) m_pp h_0 h_3 h_4 h_5 h_pp hb6 hf4 hwd) ⟨hx, hb, hml, hown, hts⟩ (cwV 2 hts gX8_ask_X8_isOpen rfl rfl rfl (by decide +kernel) ⟨Nat.le_of_ble_eq_true rfl, Nat.le_of_ble_eq_true rfl⟩) hB (hL0 0 (by decide)) h_0 rfl rfl hl.1 rfl (Nat.le_of_ble_eq_true rfl) dX8_ask_39 ⟨Nat.le_of_ble_eq_true rfl, Nat.le_of_ble_eq_true rfl⟩ (fun H locs hB => ?_)
  refine b_if_ne_t 48 hx hb dX8_ask_42 (by decide) (by rw [hs]; decide) ?_
  refine lv_aload_n hx hb dX8_ask_48 rfl (lv_at hl 1 rfl) ?_
  refine m_get (C := RX8) (T := TX8) (N := 12) (ci := 8) hx hb hts in_X8_ask_X8 hown hB (hL0 0 (by decide)) h_0 rfl 9 (by decide) (hts (.fieldLink RX8 51 "PaperRoom" "asksThisTick" "[I") (by decide +kernel)) (fun _ h9 => h9) rfl dX8_ask_49 ?_
  refine lv_iload_n hx hb dX8_ask_52 rfl (lv_at hl 2 rfl) ?_
  refine n_iald hx hb hB (hL0 29 (by decide)) h_29 b rfl (by omega) (by omega) dX8_ask_53 ?_
  refine lv_iconst (v := 2) hx hb dX8_ask_54 (by decide) ?_
  refine b_icmp_lt_t 61 hx hb dX8_ask_55 (by decide) (by rw [l2]; omega) ?_
  refine lv_aload_n hx hb dX8_ask_61 rfl (lv_at hl 1 rfl) ?_
  refine lv_iload_n hx hb dX8_ask_62 rfl (lv_at hl 3 rfl) ?_
  refine lv_iload_n hx hb dX8_ask_63 rfl (lv_at hl 4 rfl) ?_
  refine m_callV (ci := 8) (As := [.int (nI k), .int tp]) (rest := []) (c_X_questionOn_new l D ty L ad g pn qn nw tr qf qr qp qt qa qc qv (nI k) tp nq hL0 h_0 h_28 hq0 hq1 hq2 hqn hq30 n_nq hb_nq hno) ⟨hx, hb, hml, hown, hts⟩ (cwV 2 hts gX8_ask_X8_questionOn rfl rfl rfl (by decide +kernel) ⟨Nat.le_of_ble_eq_true rfl, Nat.le_of_ble_eq_true rfl⟩) hB (hL0 0 (by decide)) h_0 rfl rfl hl.1 rfl (Nat.le_of_ble_eq_true rfl) dX8_ask_64 ⟨Nat.le_of_ble_eq_true rfl, Nat.le_of_ble_eq_true rfl⟩ (fun v164 L164 ad_164 g164 H locs hp164 hB => ?_)
  obtain ⟨q1_164, q2_164, had_164, hfr_164, hf164_0, hf164_1, hf164_2⟩ := hp164
  subst q2_164
  have e164_0 : ad 0 = ad_164 0 := had_164 0 (hL0 0 (by decide))
  have e164_1 : ad 1 = ad_164 1 := had_164 1 (hL0 1 (by decide))
  have e164_20 : ad 20 = ad_164 20 := had_164 20 (hL0 20 (by decide))
  have e164_22 : ad 22 = ad_164 22 := had_164 22 (hL0 22 (by decide))
  have e164_28 : ad 28 = ad_164 28 := had_164 28 (hL0 28 (by decide))
  have e164_29 : ad 29 = ad_164 29 := had_164 29 (hL0 29 (by decide))
  have e164_3 : ad 3 = ad_164 3 := had_164 3 (hL0 3 (by decide))
  have e164_4 : ad 4 = ad_164 4 := had_164 4 (hL0 4 (by decide))
  have e164_5 : ad 5 = ad_164 5 := had_164 5 (hL0 5 (by decide))
  have e164_6 : ad 6 = ad_164 6 := had_164 6 (hL0 6 (by decide))
  have e164_7 : ad 7 = ad_164 7 := had_164 7 (hL0 7 (by decide))
  have e164_pp : ad pp = ad_164 pp := had_164 pp m_pp
  replace hl : lv_has ls 7 [(4, .ref (ad_164 pp)), (0, .ref (ad_164 0)), (1, .int (nI b)), (2, .int (nI k)), (3, .int tp)] := by rw [← e164_0, ← e164_pp]; exact hl
  have fa164_0 : g 0 = .inr (8, [.ref (ad_164 1), .ref (ad_164 3), .ref (ad_164 6), .int (nI pn), .ref (ad_164 7), .ref (ad_164 20), .ref (ad_164 22), .ref (ad_164 28), .int (nI qn), .ref (ad_164 29), .int nw, .long tr]) := by rw [← e164_1, ← e164_20, ← e164_22, ← e164_28, ← e164_29, ← e164_3, ← e164_6, ← e164_7]; exact h_0
  have fa164_3 : g 3 = .inr (4, [.ref (ad_164 4), .ref (ad_164 5)]) := by rw [← e164_4, ← e164_5]; exact h_3
  refine W.eq (g2 := F0 m 67 ls [.int (nI qn)]) (by rw [q1_164]; rfl) ?_
  refine lv_istore (lv' := [(5, .int (nI qn)), (4, .ref (ad_164 pp)), (0, .ref (ad_164 0)), (1, .int (nI b)), (2, .int (nI k)), (3, .int tp)]) hx hb dX8_ask_67 hl (by decide) rfl (fun ls hl => ?_)
  refine lv_aload_n hx hb dX8_ask_69 rfl (lv_at hl 2 rfl) ?_
  refine lv_iload hx hb dX8_ask_70 (lv_at hl 0 rfl) ?_
  refine m_callVE (ci := 8) (As := [.int (nI qn)]) (rest := []) ((by have h9 := c_X_questionNumber_t l D ty (L ++ [nq]) ad_164 g164 pn (qn + 1) nw tr (va_up qf qn (some (ad_164 nq))) qn (List.mem_append_left _ (hL0 0 (by decide))) (List.mem_append_left _ (hL0 28 (by decide))) hf164_2 hf164_1 (by omega); rw [va_up_self] at h9; exact h9 : m_E l yX8_questionNumber wsX8_questionNumber 1 21 D ty [.ref (ad_164 0), .int (nI qn)] (L ++ [nq]) ad_164 g164 (some (.ref (ad_164 nq))) g164)) ⟨hx, hb, hml, hown, hts⟩ (cwV 1 hts gX8_ask_X8_questionNumber rfl rfl rfl (by decide +kernel) ⟨Nat.le_of_ble_eq_true rfl, Nat.le_of_ble_eq_true rfl⟩) hB (List.mem_append_left _ (hL0 0 (by decide))) hf164_2 rfl rfl hl.1 rfl (Nat.le_of_ble_eq_true rfl) dX8_ask_72 ⟨Nat.le_of_ble_eq_true rfl, Nat.le_of_ble_eq_true rfl⟩ (fun H locs hB => ?_)
  refine lv_astore (lv' := [(6, .ref (ad_164 nq)), (5, .int (nI qn)), (4, .ref (ad_164 pp)), (0, .ref (ad_164 0)), (1, .int (nI b)), (2, .int (nI k)), (3, .int tp)]) hx hb dX8_ask_75 hl (by decide) rfl (fun ls hl => ?_)
  refine lv_aload hx hb dX8_ask_77 (lv_at hl 0 rfl) ?_
  refine lv_ifnonnull (tgt := 85) hx hb dX8_ask_79 (by decide) ?_
  refine lv_aload hx hb dX8_ask_85 (lv_at hl 0 rfl) ?_
  refine lv_iload_n hx hb dX8_ask_87 rfl (lv_at hl 4 rfl) ?_
  refine m_callVZ (ci := 3) (As := [.int (nI b)]) (rest := []) (c_Question_join l D ty (L ++ [nq]) ad_164 g164 nq (nI k) tp 0 0 0 (nI b) (List.mem_append_right _ List.mem_cons_self) hf164_0) ⟨hx, hb, hml, hown, hts⟩ (cwV 1 hts gX8_ask_X3_join rfl rfl rfl (by decide +kernel) ⟨Nat.le_of_ble_eq_true rfl, Nat.le_of_ble_eq_true rfl⟩) hB (List.mem_append_right _ List.mem_cons_self) hf164_0 rfl rfl hl.1 rfl (Nat.le_of_ble_eq_true rfl) dX8_ask_88 ⟨Nat.le_of_ble_eq_true rfl, Nat.le_of_ble_eq_true rfl⟩ (fun H locs hB => ?_)
  replace hB : m_B D ty A s (L ++ [nq]) ad_164 (va_up g164 nq (.inr (3, [.int (nI k), .int tp, .int ((0 : Int32) ||| (1 <<< (nI b &&& 31))), .int 0, .int 0]))) H locs := hB
  refine lv_aload_n hx hb dX8_ask_91 rfl (lv_at hl 3 rfl) ?_
  refine m_get (C := RX8) (T := TX8) (N := 12) (ci := 8) hx hb hts in_X8_ask_X8 hown hB (List.mem_append_left _ (hL0 0 (by decide))) ((va_up_ne _ _ (by omega)).trans hf164_2) rfl 9 (by decide) (hts (.fieldLink RX8 51 "PaperRoom" "asksThisTick" "[I") (by decide +kernel)) (fun _ h9 => h9) rfl dX8_ask_92 ?_
  refine lv_iload_n hx hb dX8_ask_95 rfl (lv_at hl 4 rfl) ?_
  refine lv_dup2_11 hx hb dX8_ask_96 rfl rfl ?_
  refine n_iald hx hb hB (List.mem_append_left _ (hL0 29 (by decide))) ((va_up_ne _ _ (by omega)).trans ((hfr_164 29 (hL0 29 (by decide)) (by decide) (by decide)).trans h_29)) b rfl (by omega) (by omega) dX8_ask_97 ?_
  refine lv_iconst (v := 1) hx hb dX8_ask_98 (by decide) ?_
  refine lv_iadd hx hb dX8_ask_99 ?_
  refine n_iast hx hb hB (List.mem_append_left _ (hL0 29 (by decide))) ((va_up_ne _ _ (by omega)).trans ((hfr_164 29 (hL0 29 (by decide)) (by decide) (by decide)).trans h_29)) b rfl (by omega) (by omega) dX8_ask_100 (fun H locs hB => ?_)
  replace hB : m_B D ty A s (L ++ [nq]) ad_164 (va_up (va_up g164 nq (.inr (3, [.int (nI k), .int tp, .int ((0 : Int32) ||| (1 <<< (nI b &&& 31))), .int 0, .int 0]))) 29 (.inl (ty 0, 6, .inl (upd ak b ((ak b) + 1))))) H locs := hB
  refine lv_iload hx hb dX8_ask_101 (lv_at hl 1 rfl) ?_
  exact m_iret hx hb hrt hlocks hB (Nat.le_refl _) (Nat.le_refl _) dX8_ask_103 ⟨rfl, rfl, (fun x hx => had_164 x hx), (fun x hx hn_28 hn_0 hn_29 => ((va_up_ne _ _ hn_29).trans ((va_up_ne _ _ (fun e9 => n_nq (by rw [← e9]; exact hx))).trans ((hfr_164 x hx hn_28 hn_0).trans rfl)))), ((va_up_ne _ _ (by omega)).trans (va_up_self _ _ _)), ((va_up_ne _ _ (by decide)).trans ((va_up_ne _ _ (by omega)).trans hf164_1)), ((va_up_ne _ _ (by decide)).trans ((va_up_ne _ _ (by omega)).trans hf164_2)), (va_up_self _ _ _)⟩
