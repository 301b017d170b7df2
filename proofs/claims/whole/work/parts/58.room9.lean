set_option maxHeartbeats 1000000 in
set_option maxRecDepth 100000 in
theorem c_X_read_b_bad (l : Launch) (D : va_G) (ty : Nat → ClassId) (L : List Nat) (ad : Nat → Nat) (g : Nat → va_E) (pn qn : Nat) (nw : Int32) (tr : Int64) (pf : Nat → Option Nat) (vf : Nat → Option Nat) (ib i v : Int32) (m_0 : 0 ∈ L) (m_6 : 6 ∈ L) (m_7 : 7 ∈ L) (h_0 : g 0 = .inr (8, [.ref (ad 1), .ref (ad 3), .ref (ad 6), .int (nI pn), .ref (ad 7), .ref (ad 20), .ref (ad 22), .ref (ad 28), .int (nI qn), .ref (ad 29), .int nw, .long tr])) (h_6 : g 6 = .inl (ty 4, 8, .inr (.inr (.inr (.inr pf))))) (h_7 : g 7 = .inl (ty 6, 6, .inr (.inr (.inr (.inr vf))))) (hib : ¬ (0 ≤ ib.toInt ∧ ib.toInt < 6)) (hi : ¬ (0 ≤ i.toInt ∧ i.toInt < 8)) : m_E l yX8_read wsX8_read 5 113 D ty [.ref (ad 0), .int ib, .int i, .int v] L ad g (some (.int (-1))) g := by
  intro sz
  refine Met.ofW (cc := cX8_read) (maxL := 7) (ret := (some .int)) (by decide) rfl ?_
  intro p e s m args below meth c s₁ B hml hv
  have hx := B.exec
  have hb := B.bytes
  have hrt := B.returns
  have hts := atoms_spec (ws := wsX8_read) B.pre
  have hown : s.vm.findClass RX8 = some m.cls := findClass_of_methodNamed B.named
  have hlocks := B.notSynchronized
  obtain ⟨rfl, hB⟩ := m_start hv
  generalize va_A (m_w L ad g) sz = A at hB ⊢
  generalize s.heap = H at hB ⊢
  generalize ([] : List Loc) = locs at hB ⊢
  have hl := lv_entry ([.ref (ad 0), .int ib, .int i, .int v]) (n := 7) (Nat.le_of_ble_eq_true rfl)
  rw [lg_entry_eq]
  generalize (lg_sl ([.ref (ad 0), .int ib, .int i, .int v]) ++ List.replicate (7 - (lg_sl ([.ref (ad 0), .int ib, .int i, .int v])).length) Slot.unset).toArray = ls at hl ⊢
  have hl : lv_has ls 7 [(0, .ref (ad 0)), (1, .int ib), (2, .int i), (3, .int v)] := hl
  refine lv_aload_n hx hb dX8_read_0 rfl (lv_at hl 0 rfl) ?_
  refine lv_iload_n hx hb dX8_read_1 rfl (lv_at hl 2 rfl) ?_
  refine m_callVE (ci := 8) (As := [.int i]) (rest := []) (c_X_paperNumber_f l D ty L ad g pn qn nw tr pf i m_0 m_6 h_0 h_6 hi) ⟨hx, hb, hml, hown, hts⟩ (cwV 1 hts gX8_read_X8_paperNumber rfl rfl rfl (by decide +kernel) ⟨Nat.le_of_ble_eq_true rfl, Nat.le_of_ble_eq_true rfl⟩) hB m_0 h_0 rfl rfl hl.1 rfl (Nat.le_of_ble_eq_true rfl) dX8_read_2 ⟨Nat.le_of_ble_eq_true rfl, Nat.le_of_ble_eq_true rfl⟩ (fun H locs hB => ?_)
  refine lv_astoreN (lv' := [(4, .null), (0, .ref (ad 0)), (1, .int ib), (2, .int i), (3, .int v)]) hx hb dX8_read_5 hl (by decide) rfl (fun ls hl => ?_)
  refine lv_aloadN hx hb dX8_read_7 (lv_at hl 0 rfl) ?_
  refine lv_iload_n hx hb dX8_read_9 rfl (lv_at hl 4 rfl) ?_
  refine m_callSE (As := [.null, .int v]) (rest := []) (c_X_textOf_n l D ty L ad g _) ⟨hx, hb, hml, hown, hts⟩ (va_cwS 2 hts gX8_read_X8_textOf rfl rfl rfl (by decide +kernel) ⟨Nat.le_of_ble_eq_true rfl, Nat.le_of_ble_eq_true rfl⟩) hB rfl hl.1 rfl (Nat.le_of_ble_eq_true rfl) dX8_read_10 ⟨Nat.le_of_ble_eq_true rfl, Nat.le_of_ble_eq_true rfl⟩ (fun H locs hB => ?_)
  refine lv_astoreN (lv' := [(5, .null), (4, .null), (0, .ref (ad 0)), (1, .int ib), (2, .int i), (3, .int v)]) hx hb dX8_read_13 hl (by decide) rfl (fun ls hl => ?_)
  refine lv_aload_n hx hb dX8_read_15 rfl (lv_at hl 2 rfl) ?_
  refine lv_iload_n hx hb dX8_read_16 rfl (lv_at hl 3 rfl) ?_
  refine m_callVE (ci := 8) (As := [.int ib]) (rest := []) (c_X_lastView_f l D ty L ad g pn qn nw tr vf ib m_0 m_7 h_0 h_7 hib) ⟨hx, hb, hml, hown, hts⟩ (cwV 1 hts gX8_read_X8_lastViewOf rfl rfl rfl (by decide +kernel) ⟨Nat.le_of_ble_eq_true rfl, Nat.le_of_ble_eq_true rfl⟩) hB m_0 h_0 rfl rfl hl.1 rfl (Nat.le_of_ble_eq_true rfl) dX8_read_17 ⟨Nat.le_of_ble_eq_true rfl, Nat.le_of_ble_eq_true rfl⟩ (fun H locs hB => ?_)
  refine lv_astoreN (lv' := [(6, .null), (5, .null), (4, .null), (0, .ref (ad 0)), (1, .int ib), (2, .int i), (3, .int v)]) hx hb dX8_read_20 hl (by decide) rfl (fun ls hl => ?_)
  refine lv_aloadN hx hb dX8_read_22 (lv_at hl 2 rfl) ?_
  refine lv_ifnullN (tgt := 37) hx hb dX8_read_24 (by decide) ?_
  refine lv_iconst (v := (-1)) hx hb dX8_read_37 (by decide) ?_
  exact m_iret hx hb hrt hlocks hB (Nat.le_refl _) (Nat.le_refl _) dX8_read_38 ⟨rfl, rfl, rfl, rfl⟩
set_option maxHeartbeats 1000000 in
set_option maxRecDepth 100000 in
theorem c_X_read_b_none (l : Launch) (D : va_G) (ty : Nat → ClassId) (L : List Nat) (ad : Nat → Nat) (g : Nat → va_E) (pn qn : Nat) (nw : Int32) (tr : Int64) (pf : Nat → Option Nat) (vf : Nat → Option Nat) (k : Nat) (ib v : Int32) (m_0 : 0 ∈ L) (m_6 : 6 ∈ L) (m_7 : 7 ∈ L) (h_0 : g 0 = .inr (8, [.ref (ad 1), .ref (ad 3), .ref (ad 6), .int (nI pn), .ref (ad 7), .ref (ad 20), .ref (ad 22), .ref (ad 28), .int (nI qn), .ref (ad 29), .int nw, .long tr])) (h_6 : g 6 = .inl (ty 4, 8, .inr (.inr (.inr (.inr pf))))) (h_7 : g 7 = .inl (ty 6, 6, .inr (.inr (.inr (.inr vf))))) (hib : ¬ (0 ≤ ib.toInt ∧ ib.toInt < 6)) (hk : k < 8) (hpp : pf k = none) : m_E l yX8_read wsX8_read 5 113 D ty [.ref (ad 0), .int ib, .int (nI k), .int v] L ad g (some (.int (-1))) g := by
  intro sz
  refine Met.ofW (cc := cX8_read) (maxL := 7) (ret := (some .int)) (by decide) rfl ?_
  intro p e s m args below meth c s₁ B hml hv
  have hx := B.exec
  have hb := B.bytes
  have hrt := B.returns
  have hts := atoms_spec (ws := wsX8_read) B.pre
  have hown : s.vm.findClass RX8 = some m.cls := findClass_of_methodNamed B.named
  have hlocks := B.notSynchronized
  obtain ⟨rfl, hB⟩ := m_start hv
  generalize va_A (m_w L ad g) sz = A at hB ⊢
  generalize s.heap = H at hB ⊢
  generalize ([] : List Loc) = locs at hB ⊢
  have hl := lv_entry ([.ref (ad 0), .int ib, .int (nI k), .int v]) (n := 7) (Nat.le_of_ble_eq_true rfl)
  rw [lg_entry_eq]
  generalize (lg_sl ([.ref (ad 0), .int ib, .int (nI k), .int v]) ++ List.replicate (7 - (lg_sl ([.ref (ad 0), .int ib, .int (nI k), .int v])).length) Slot.unset).toArray = ls at hl ⊢
  have hl : lv_has ls 7 [(0, .ref (ad 0)), (1, .int ib), (2, .int (nI k)), (3, .int v)] := hl
  refine lv_aload_n hx hb dX8_read_0 rfl (lv_at hl 0 rfl) ?_
  refine lv_iload_n hx hb dX8_read_1 rfl (lv_at hl 2 rfl) ?_
  refine m_callVE (ci := 8) (As := [.int (nI k)]) (rest := []) ((by have h9 := c_X_paperNumber_t l D ty L ad g pn qn nw tr pf k m_0 m_6 h_0 h_6 hk; rw [hpp] at h9; exact h9 : m_E l yX8_paperNumber wsX8_paperNumber 1 21 D ty [.ref (ad 0), .int (nI k)] L ad g (some .null) g)) ⟨hx, hb, hml, hown, hts⟩ (cwV 1 hts gX8_read_X8_paperNumber rfl rfl rfl (by decide +kernel) ⟨Nat.le_of_ble_eq_true rfl, Nat.le_of_ble_eq_true rfl⟩) hB m_0 h_0 rfl rfl hl.1 rfl (Nat.le_of_ble_eq_true rfl) dX8_read_2 ⟨Nat.le_of_ble_eq_true rfl, Nat.le_of_ble_eq_true rfl⟩ (fun H locs hB => ?_)
  refine lv_astoreN (lv' := [(4, .null), (0, .ref (ad 0)), (1, .int ib), (2, .int (nI k)), (3, .int v)]) hx hb dX8_read_5 hl (by decide) rfl (fun ls hl => ?_)
  refine lv_aloadN hx hb dX8_read_7 (lv_at hl 0 rfl) ?_
  refine lv_iload_n hx hb dX8_read_9 rfl (lv_at hl 4 rfl) ?_
  refine m_callSE (As := [.null, .int v]) (rest := []) (c_X_textOf_n l D ty L ad g _) ⟨hx, hb, hml, hown, hts⟩ (va_cwS 2 hts gX8_read_X8_textOf rfl rfl rfl (by decide +kernel) ⟨Nat.le_of_ble_eq_true rfl, Nat.le_of_ble_eq_true rfl⟩) hB rfl hl.1 rfl (Nat.le_of_ble_eq_true rfl) dX8_read_10 ⟨Nat.le_of_ble_eq_true rfl, Nat.le_of_ble_eq_true rfl⟩ (fun H locs hB => ?_)
  refine lv_astoreN (lv' := [(5, .null), (4, .null), (0, .ref (ad 0)), (1, .int ib), (2, .int (nI k)), (3, .int v)]) hx hb dX8_read_13 hl (by decide) rfl (fun ls hl => ?_)
  refine lv_aload_n hx hb dX8_read_15 rfl (lv_at hl 2 rfl) ?_
  refine lv_iload_n hx hb dX8_read_16 rfl (lv_at hl 3 rfl) ?_
  refine m_callVE (ci := 8) (As := [.int ib]) (rest := []) (c_X_lastView_f l D ty L ad g pn qn nw tr vf ib m_0 m_7 h_0 h_7 hib) ⟨hx, hb, hml, hown, hts⟩ (cwV 1 hts gX8_read_X8_lastViewOf rfl rfl rfl (by decide +kernel) ⟨Nat.le_of_ble_eq_true rfl, Nat.le_of_ble_eq_true rfl⟩) hB m_0 h_0 rfl rfl hl.1 rfl (Nat.le_of_ble_eq_true rfl) dX8_read_17 ⟨Nat.le_of_ble_eq_true rfl, Nat.le_of_ble_eq_true rfl⟩ (fun H locs hB => ?_)
  refine lv_astoreN (lv' := [(6, .null), (5, .null), (4, .null), (0, .ref (ad 0)), (1, .int ib), (2, .int (nI k)), (3, .int v)]) hx hb dX8_read_20 hl (by decide) rfl (fun ls hl => ?_)
  refine lv_aloadN hx hb dX8_read_22 (lv_at hl 2 rfl) ?_
  refine lv_ifnullN (tgt := 37) hx hb dX8_read_24 (by decide) ?_
  refine lv_iconst (v := (-1)) hx hb dX8_read_37 (by decide) ?_
  exact m_iret hx hb hrt hlocks hB (Nat.le_refl _) (Nat.le_refl _) dX8_read_38 ⟨rfl, rfl, rfl, rfl⟩
set_option maxHeartbeats 1000000 in
set_option maxRecDepth 100000 in
theorem c_X_read_bad (l : Launch) (D : va_G) (ty : Nat → ClassId) (L : List Nat) (ad : Nat → Nat) (g : Nat → va_E) (pn qn : Nat) (nw : Int32) (tr : Int64) (pf : Nat → Option Nat) (vf : Nat → Option Nat) (r ra n0 b : Nat) (bs0 : Nat → Int32) (i v : Int32) (m_0 : 0 ∈ L) (m_6 : 6 ∈ L) (m_7 : 7 ∈ L) (m_r : r ∈ L) (m_ra : ra ∈ L) (h_0 : g 0 = .inr (8, [.ref (ad 1), .ref (ad 3), .ref (ad 6), .int (nI pn), .ref (ad 7), .ref (ad 20), .ref (ad 22), .ref (ad 28), .int (nI qn), .ref (ad 29), .int nw, .long tr])) (h_6 : g 6 = .inl (ty 4, 8, .inr (.inr (.inr (.inr pf))))) (h_7 : g 7 = .inl (ty 6, 6, .inr (.inr (.inr (.inr vf))))) (h_r : g r = .inr (5, [.ref (ad ra), .int (nI n0)])) (h_ra : g ra = .inl (ty 2, 80, .inl bs0)) (hb6 : b < 6) (hvr : vf b = some (ad r)) (hi : ¬ (0 ≤ i.toInt ∧ i.toInt < 8)) : m_E l yX8_read wsX8_read 5 113 D ty [.ref (ad 0), .int (nI b), .int i, .int v] L ad g (some (.int (-1))) g := by
  intro sz
  refine Met.ofW (cc := cX8_read) (maxL := 7) (ret := (some .int)) (by decide) rfl ?_
  intro p e s m args below meth c s₁ B hml hv
  have hx := B.exec
  have hb := B.bytes
  have hrt := B.returns
  have hts := atoms_spec (ws := wsX8_read) B.pre
  have hown : s.vm.findClass RX8 = some m.cls := findClass_of_methodNamed B.named
  have hlocks := B.notSynchronized
  obtain ⟨rfl, hB⟩ := m_start hv
  generalize va_A (m_w L ad g) sz = A at hB ⊢
  generalize s.heap = H at hB ⊢
  generalize ([] : List Loc) = locs at hB ⊢
  have hl := lv_entry ([.ref (ad 0), .int (nI b), .int i, .int v]) (n := 7) (Nat.le_of_ble_eq_true rfl)
  rw [lg_entry_eq]
  generalize (lg_sl ([.ref (ad 0), .int (nI b), .int i, .int v]) ++ List.replicate (7 - (lg_sl ([.ref (ad 0), .int (nI b), .int i, .int v])).length) Slot.unset).toArray = ls at hl ⊢
  have hl : lv_has ls 7 [(0, .ref (ad 0)), (1, .int (nI b)), (2, .int i), (3, .int v)] := hl
  refine lv_aload_n hx hb dX8_read_0 rfl (lv_at hl 0 rfl) ?_
  refine lv_iload_n hx hb dX8_read_1 rfl (lv_at hl 2 rfl) ?_
  refine m_callVE (ci := 8) (As := [.int i]) (rest := []) (c_X_paperNumber_f l D ty L ad g pn qn nw tr pf i m_0 m_6 h_0 h_6 hi) ⟨hx, hb, hml, hown, hts⟩ (cwV 1 hts gX8_read_X8_paperNumber rfl rfl rfl (by decide +kernel) ⟨Nat.le_of_ble_eq_true rfl, Nat.le_of_ble_eq_true rfl⟩) hB m_0 h_0 rfl rfl hl.1 rfl (Nat.le_of_ble_eq_true rfl) dX8_read_2 ⟨Nat.le_of_ble_eq_true rfl, Nat.le_of_ble_eq_true rfl⟩ (fun H locs hB => ?_)
  refine lv_astoreN (lv' := [(4, .null), (0, .ref (ad 0)), (1, .int (nI b)), (2, .int i), (3, .int v)]) hx hb dX8_read_5 hl (by decide) rfl (fun ls hl => ?_)
  refine lv_aloadN hx hb dX8_read_7 (lv_at hl 0 rfl) ?_
  refine lv_iload_n hx hb dX8_read_9 rfl (lv_at hl 4 rfl) ?_
  refine m_callSE (As := [.null, .int v]) (rest := []) (c_X_textOf_n l D ty L ad g _) ⟨hx, hb, hml, hown, hts⟩ (va_cwS 2 hts gX8_read_X8_textOf rfl rfl rfl (by decide +kernel) ⟨Nat.le_of_ble_eq_true rfl, Nat.le_of_ble_eq_true rfl⟩) hB rfl hl.1 rfl (Nat.le_of_ble_eq_true rfl) dX8_read_10 ⟨Nat.le_of_ble_eq_true rfl, Nat.le_of_ble_eq_true rfl⟩ (fun H locs hB => ?_)
  refine lv_astoreN (lv' := [(5, .null), (4, .null), (0, .ref (ad 0)), (1, .int (nI b)), (2, .int i), (3, .int v)]) hx hb dX8_read_13 hl (by decide) rfl (fun ls hl => ?_)
  refine lv_aload_n hx hb dX8_read_15 rfl (lv_at hl 2 rfl) ?_
  refine lv_iload_n hx hb dX8_read_16 rfl (lv_at hl 3 rfl) ?_
  refine m_callVE (ci := 8) (As := [.int (nI b)]) (rest := []) ((by have h9 := c_X_lastView_t l D ty L ad g pn qn nw tr vf b m_0 m_7 h_0 h_7 hb6; rw [hvr] at h9; exact h9 : m_E l yX8_lastViewOf wsX8_lastViewOf 1 21 D ty [.ref (ad 0), .int (nI b)] L ad g (some (.ref (ad r))) g)) ⟨hx, hb, hml, hown, hts⟩ (cwV 1 hts gX8_read_X8_lastViewOf rfl rfl rfl (by decide +kernel) ⟨Nat.le_of_ble_eq_true rfl, Nat.le_of_ble_eq_true rfl⟩) hB m_0 h_0 rfl rfl hl.1 rfl (Nat.le_of_ble_eq_true rfl) dX8_read_17 ⟨Nat.le_of_ble_eq_true rfl, Nat.le_of_ble_eq_true rfl⟩ (fun H locs hB => ?_)
  refine lv_astore (lv' := [(6, .ref (ad r)), (5, .null), (4, .null), (0, .ref (ad 0)), (1, .int (nI b)), (2, .int i), (3, .int v)]) hx hb dX8_read_20 hl (by decide) rfl (fun ls hl => ?_)
  refine lv_aloadN hx hb dX8_read_22 (lv_at hl 2 rfl) ?_
  refine lv_ifnullN (tgt := 37) hx hb dX8_read_24 (by decide) ?_
  refine lv_iconst (v := (-1)) hx hb dX8_read_37 (by decide) ?_
  exact m_iret hx hb hrt hlocks hB (Nat.le_refl _) (Nat.le_refl _) dX8_read_38 ⟨rfl, rfl, rfl, rfl⟩
set_option maxHeartbeats 1000000 in
set_option maxRecDepth 100000 in
theorem c_X_read_none (l : Launch) (D : va_G) (ty : Nat → ClassId) (L : List Nat) (ad : Nat → Nat) (g : Nat → va_E) (pn qn : Nat) (nw : Int32) (tr : Int64) (pf : Nat → Option Nat) (vf : Nat → Option Nat) (r ra n0 b : Nat) (bs0 : Nat → Int32) (k : Nat) (v : Int32) (m_0 : 0 ∈ L) (m_6 : 6 ∈ L) (m_7 : 7 ∈ L) (m_r : r ∈ L) (m_ra : ra ∈ L) (h_0 : g 0 = .inr (8, [.ref (ad 1), .ref (ad 3), .ref (ad 6), .int (nI pn), .ref (ad 7), .ref (ad 20), .ref (ad 22), .ref (ad 28), .int (nI qn), .ref (ad 29), .int nw, .long tr])) (h_6 : g 6 = .inl (ty 4, 8, .inr (.inr (.inr (.inr pf))))) (h_7 : g 7 = .inl (ty 6, 6, .inr (.inr (.inr (.inr vf))))) (h_r : g r = .inr (5, [.ref (ad ra), .int (nI n0)])) (h_ra : g ra = .inl (ty 2, 80, .inl bs0)) (hb6 : b < 6) (hvr : vf b = some (ad r)) (hk : k < 8) (hpp : pf k = none) : m_E l yX8_read wsX8_read 5 113 D ty [.ref (ad 0), .int (nI b), .int (nI k), .int v] L ad g (some (.int (-1))) g := by
  intro sz
  refine Met.ofW (cc := cX8_read) (maxL := 7) (ret := (some .int)) (by decide) rfl ?_
  intro p e s m args below meth c s₁ B hml hv
  have hx := B.exec
  have hb := B.bytes
  have hrt := B.returns
  have hts := atoms_spec (ws := wsX8_read) B.pre
  have hown : s.vm.findClass RX8 = some m.cls := findClass_of_methodNamed B.named
  have hlocks := B.notSynchronized
  obtain ⟨rfl, hB⟩ := m_start hv
  generalize va_A (m_w L ad g) sz = A at hB ⊢
  generalize s.heap = H at hB ⊢
  generalize ([] : List Loc) = locs at hB ⊢
  have hl := lv_entry ([.ref (ad 0), .int (nI b), .int (nI k), .int v]) (n := 7) (Nat.le_of_ble_eq_true rfl)
  rw [lg_entry_eq]
  generalize (lg_sl ([.ref (ad 0), .int (nI b), .int (nI k), .int v]) ++ List.replicate (7 - (lg_sl ([.ref (ad 0), .int (nI b), .int (nI k), .int v])).length) Slot.unset).toArray = ls at hl ⊢
  have hl : lv_has ls 7 [(0, .ref (ad 0)), (1, .int (nI b)), (2, .int (nI k)), (3, .int v)] := hl
  refine lv_aload_n hx hb dX8_read_0 rfl (lv_at hl 0 rfl) ?_
  refine lv_iload_n hx hb dX8_read_1 rfl (lv_at hl 2 rfl) ?_
  refine m_callVE (ci := 8) (As := [.int (nI k)]) (rest := []) ((by have h9 := c_X_paperNumber_t l D ty L ad g pn qn nw tr pf k m_0 m_6 h_0 h_6 hk; rw [hpp] at h9; exact h9 : m_E l yX8_paperNumber wsX8_paperNumber 1 21 D ty [.ref (ad 0), .int (nI k)] L ad g (some .null) g)) ⟨hx, hb, hml, hown, hts⟩ (cwV 1 hts gX8_read_X8_paperNumber rfl rfl rfl (by decide +kernel) ⟨Nat.le_of_ble_eq_true rfl, Nat.le_of_ble_eq_true rfl⟩) hB m_0 h_0 rfl rfl hl.1 rfl (Nat.le_of_ble_eq_true rfl) dX8_read_2 ⟨Nat.le_of_ble_eq_true rfl, Nat.le_of_ble_eq_true rfl⟩ (fun H locs hB => ?_)
  refine lv_astoreN (lv' := [(4, .null), (0, .ref (ad 0)), (1, .int (nI b)), (2, .int (nI k)), (3, .int v)]) hx hb dX8_read_5 hl (by decide) rfl (fun ls hl => ?_)
  refine lv_aloadN hx hb dX8_read_7 (lv_at hl 0 rfl) ?_
  refine lv_iload_n hx hb dX8_read_9 rfl (lv_at hl 4 rfl) ?_
  refine m_callSE (As := [.null, .int v]) (rest := []) (c_X_textOf_n l D ty L ad g _) ⟨hx, hb, hml, hown, hts⟩ (va_cwS 2 hts gX8_read_X8_textOf rfl rfl rfl (by decide +kernel) ⟨Nat.le_of_ble_eq_true rfl, Nat.le_of_ble_eq_true rfl⟩) hB rfl hl.1 rfl (Nat.le_of_ble_eq_true rfl) dX8_read_10 ⟨Nat.le_of_ble_eq_true rfl, Nat.le_of_ble_eq_true rfl⟩ (fun H locs hB => ?_)
  refine lv_astoreN (lv' := [(5, .null), (4, .null), (0, .ref (ad 0)), (1, .int (nI b)), (2, .int (nI k)), (3, .int v)]) hx hb dX8_read_13 hl (by decide) rfl (fun ls hl => ?_)
  refine lv_aload_n hx hb dX8_read_15 rfl (lv_at hl 2 rfl) ?_
  refine lv_iload_n hx hb dX8_read_16 rfl (lv_at hl 3 rfl) ?_
  refine m_callVE (ci := 8) (As := [.int (nI b)]) (rest := []) ((by have h9 := c_X_lastView_t l D ty L ad g pn qn nw tr vf b m_0 m_7 h_0 h_7 hb6; rw [hvr] at h9; exact h9 : m_E l yX8_lastViewOf wsX8_lastViewOf 1 21 D ty [.ref (ad 0), .int (nI b)] L ad g (some (.ref (ad r))) g)) ⟨hx, hb, hml, hown, hts⟩ (cwV 1 hts gX8_read_X8_lastViewOf rfl rfl rfl (by decide +kernel) ⟨Nat.le_of_ble_eq_true rfl, Nat.le_of_ble_eq_true rfl⟩) hB m_0 h_0 rfl rfl hl.1 rfl (Nat.le_of_ble_eq_true rfl) dX8_read_17 ⟨Nat.le_of_ble_eq_true rfl, Nat.le_of_ble_eq_true rfl⟩ (fun H locs hB => ?_)
  refine lv_astore (lv' := [(6, .ref (ad r)), (5, .null), (4, .null), (0, .ref (ad 0)), (1, .int (nI b)), (2, .int (nI k)), (3, .int v)]) hx hb dX8_read_20 hl (by decide) rfl (fun ls hl => ?_)
  refine lv_aloadN hx hb dX8_read_22 (lv_at hl 2 rfl) ?_
  refine lv_ifnullN (tgt := 37) hx hb dX8_read_24 (by decide) ?_
  refine lv_iconst (v := (-1)) hx hb dX8_read_37 (by decide) ?_
  exact m_iret hx hb hrt hlocks hB (Nat.le_refl _) (Nat.le_refl _) dX8_read_38 ⟨rfl, rfl, rfl, rfl⟩
set_option maxHeartbeats 1000000 in
set_option maxRecDepth 100000 in
theorem c_X_read0_n (l : Launch) (D : va_G) (ty : Nat → ClassId) (L : List Nat) (ad : Nat → Nat) (g : Nat → va_E) (pn qn : Nat) (nw : Int32) (tr : Int64) (pf : Nat → Option Nat) (vf : Nat → Option Nat) (r ra n0 b : Nat) (bs0 : Nat → Int32) (pp pt vn : Nat) (fo wd : Int32) (lg : Int32) (tf : Nat → Option Nat) (k : Nat) (w : Nat) (m_0 : 0 ∈ L) (m_6 : 6 ∈ L) (m_7 : 7 ∈ L) (m_r : r ∈ L) (m_ra : ra ∈ L) (m_pp : pp ∈ L) (m_pt : pt ∈ L) (h_0 : g 0 = .inr (8, [.ref (ad 1), .ref (ad 3), .ref (ad 6), .int (nI pn), .ref (ad 7), .ref (ad 20), .ref (ad 22), .ref (ad 28), .int (nI qn), .ref (ad 29), .int nw, .long tr])) (h_6 : g 6 = .inl (ty 4, 8, .inr (.inr (.inr (.inr pf))))) (h_7 : g 7 = .inl (ty 6, 6, .inr (.inr (.inr (.inr vf))))) (h_r : g r = .inr (5, [.ref (ad ra), .int (nI n0)])) (h_ra : g ra = .inl (ty 2, 80, .inl bs0)) (h_pp : g pp = .inr (0, [.int fo, .ref (ad pt), .int (nI vn), .int wd, .int lg])) (h_pt : g pt = .inl (ty 7, 4, .inr (.inr (.inr (.inr tf))))) (hb6 : b < 6) (hvr : vf b = some (ad r)) (hk : k < 8) (hpp : pf k = some (ad pp)) (hw4 : w < 4) (htf : tf w = none) : m_E l yX8_read wsX8_read 5 113 D ty [.ref (ad 0), .int (nI b), .int (nI k), .int (nI w)] L ad g (some (.int (-1))) g := by
  intro sz
  refine Met.ofW (cc := cX8_read) (maxL := 7) (ret := (some .int)) (by decide) rfl ?_
  intro p e s m args below meth c s₁ B hml hv
  have hx := B.exec
  have hb := B.bytes
  have hrt := B.returns
  have hts := atoms_spec (ws := wsX8_read) B.pre
  have hown : s.vm.findClass RX8 = some m.cls := findClass_of_methodNamed B.named
  have hlocks := B.notSynchronized
  obtain ⟨rfl, hB⟩ := m_start hv
  generalize va_A (m_w L ad g) sz = A at hB ⊢
  generalize s.heap = H at hB ⊢
  generalize ([] : List Loc) = locs at hB ⊢
  have hl := lv_entry ([.ref (ad 0), .int (nI b), .int (nI k), .int (nI w)]) (n := 7) (Nat.le_of_ble_eq_true rfl)
  rw [lg_entry_eq]
  generalize (lg_sl ([.ref (ad 0), .int (nI b), .int (nI k), .int (nI w)]) ++ List.replicate (7 - (lg_sl ([.ref (ad 0), .int (nI b), .int (nI k), .int (nI w)])).length) Slot.unset).toArray = ls at hl ⊢
  have hl : lv_has ls 7 [(0, .ref (ad 0)), (1, .int (nI b)), (2, .int (nI k)), (3, .int (nI w))] := hl
  refine lv_aload_n hx hb dX8_read_0 rfl (lv_at hl 0 rfl) ?_
  refine lv_iload_n hx hb dX8_read_1 rfl (lv_at hl 2 rfl) ?_
  refine m_callVE (ci := 8) (As := [.int (nI k)]) (rest := []) ((by have h9 := c_X_paperNumber_t l D ty L ad g pn qn nw tr pf k m_0 m_6 h_0 h_6 hk; rw [hpp] at h9; exact h9 : m_E l yX8_paperNumber wsX8_paperNumber 1 21 D ty [.ref (ad 0), .int (nI k)] L ad g (some (.ref (ad pp))) g)) ⟨hx, hb, hml, hown, hts⟩ (cwV 1 hts gX8_read_X8_paperNumber rfl rfl rfl (by decide +kernel) ⟨Nat.le_of_ble_eq_true rfl, Nat.le_of_ble_eq_true rfl⟩) hB m_0 h_0 rfl rfl hl.1 rfl (Nat.le_of_ble_eq_true rfl) dX8_read_2 ⟨Nat.le_of_ble_eq_true rfl, Nat.le_of_ble_eq_true rfl⟩ (fun H locs hB => ?_)
  refine lv_astore (lv' := [(4, .ref (ad pp)), (0, .ref (ad 0)), (1, .int (nI b)), (2, .int (nI k)), (3, .int (nI w))]) hx hb dX8_read_5 hl (by decide) rfl (fun ls hl => ?_)
  refine lv_aload hx hb dX8_read_7 (lv_at hl 0 rfl) ?_
  refine lv_iload_n hx hb dX8_read_9 rfl (lv_at hl 4 rfl) ?_
  refine m_callSE (As := [.ref (ad pp), .int (nI w)]) (rest := []) ((by have h9 := c_X_textOf0_t l D ty L ad g pp pt vn fo wd lg tf w m_pp m_pt h_pp h_pt hw4; rw [htf] at h9; exact h9 : m_E l yX8_textOf wsX8_textOf 2 42 D ty [.ref (ad pp), .int (nI w)] L ad g (some .null) g)) ⟨hx, hb, hml, hown, hts⟩ (va_cwS 2 hts gX8_read_X8_textOf rfl rfl rfl (by decide +kernel) ⟨Nat.le_of_ble_eq_true rfl, Nat.le_of_ble_eq_true rfl⟩) hB rfl hl.1 rfl (Nat.le_of_ble_eq_true rfl) dX8_read_10 ⟨Nat.le_of_ble_eq_true rfl, Nat.le_of_ble_eq_true rfl⟩ (fun H locs hB => ?_)
  refine lv_astoreN (lv' := [(5, .null), (4, .ref (ad pp)), (0, .ref (ad 0)), (1, .int (nI b)), (2, .int (nI k)), (3, .int (nI w))]) hx hb dX8_read_13 hl (by decide) rfl (fun ls hl => ?_)
  refine lv_aload_n hx hb dX8_read_15 rfl (lv_at hl 2 rfl) ?_
  refine lv_iload_n hx hb dX8_read_16 rfl (lv_at hl 3 rfl) ?_
  refine m_callVE (ci := 8) (As := [.int (nI b)]) (rest := []) ((by have h9 := c_X_lastView_t l D ty L ad g pn qn nw tr vf b m_0 m_7 h_0 h_7 hb6; rw [hvr] at h9; exact h9 : m_E l yX8_lastViewOf wsX8_lastViewOf 1 21 D ty [.ref (ad 0), .int (nI b)] L ad g (some (.ref (ad r))) g)) ⟨hx, hb, hml, hown, hts⟩ (cwV 1 hts gX8_read_X8_lastViewOf rfl rfl rfl (by decide +kernel) ⟨Nat.le_of_ble_eq_true rfl, Nat.le_of_ble_eq_true rfl⟩) hB m_0 h_0 rfl rfl hl.1 rfl (Nat.le_of_ble_eq_true rfl) dX8_read_17 ⟨Nat.le_of_ble_eq_true rfl, Nat.le_of_ble_eq_true rfl⟩ (fun H locs hB => ?_)
  refine lv_astore (lv' := [(6, .ref (ad r)), (5, .null), (4, .ref (ad pp)), (0, .ref (ad 0)), (1, .int (nI b)), (2, .int (nI k)), (3, .int (nI w))]) hx hb dX8_read_20 hl (by decide) rfl (fun ls hl => ?_)
  refine lv_aload hx hb dX8_read_22 (lv_at hl 2 rfl) ?_
  refine lv_ifnull hx hb dX8_read_24 ?_
  refine lv_aloadN hx hb dX8_read_27 (lv_at hl 1 rfl) ?_
  refine lv_ifnullN (tgt := 37) hx hb dX8_read_29 (by decide) ?_
  refine lv_iconst (v := (-1)) hx hb dX8_read_37 (by decide) ?_
  exact m_iret hx hb hrt hlocks hB (Nat.le_refl _) (Nat.le_refl _) dX8_read_38 ⟨rfl, rfl, rfl, rfl⟩
set_option maxHeartbeats 1000000 in
set_option maxRecDepth 100000 in
theorem c_X_read0_b (l : Launch) (D : va_G) (ty : Nat → ClassId) (L : List Nat) (ad : Nat → Nat) (g : Nat → va_E) (pn qn : Nat) (nw : Int32) (tr : Int64) (pf : Nat → Option Nat) (vf : Nat → Option Nat) (r ra n0 b : Nat) (bs0 : Nat → Int32) (pp pt vn : Nat) (fo wd : Int32) (lg : Int32) (tf : Nat → Option Nat) (k : Nat) (v : Int32) (m_0 : 0 ∈ L) (m_6 : 6 ∈ L) (m_7 : 7 ∈ L) (m_r : r ∈ L) (m_ra : ra ∈ L) (m_pp : pp ∈ L) (m_pt : pt ∈ L) (h_0 : g 0 = .inr (8, [.ref (ad 1), .ref (ad 3), .ref (ad 6), .int (nI pn), .ref (ad 7), .ref (ad 20), .ref (ad 22), .ref (ad 28), .int (nI qn), .ref (ad 29), .int nw, .long tr])) (h_6 : g 6 = .inl (ty 4, 8, .inr (.inr (.inr (.inr pf))))) (h_7 : g 7 = .inl (ty 6, 6, .inr (.inr (.inr (.inr vf))))) (h_r : g r = .inr (5, [.ref (ad ra), .int (nI n0)])) (h_ra : g ra = .inl (ty 2, 80, .inl bs0)) (h_pp : g pp = .inr (0, [.int fo, .ref (ad pt), .int (nI vn), .int wd, .int lg])) (h_pt : g pt = .inl (ty 7, 4, .inr (.inr (.inr (.inr tf))))) (hb6 : b < 6) (hvr : vf b = some (ad r)) (hk : k < 8) (hpp : pf k = some (ad pp)) (hv4 : ¬ (0 ≤ v.toInt ∧ v.toInt < 4)) : m_E l yX8_read wsX8_read 5 113 D ty [.ref (ad 0), .int (nI b), .int (nI k), .int v] L ad g (some (.int (-1))) g := by
  intro sz
  refine Met.ofW (cc := cX8_read) (maxL := 7) (ret := (some .int)) (by decide) rfl ?_
  intro p e s m args below meth c s₁ B hml hv
  have hx := B.exec
  have hb := B.bytes
  have hrt := B.returns
  have hts := atoms_spec (ws := wsX8_read) B.pre
  have hown : s.vm.findClass RX8 = some m.cls := findClass_of_methodNamed B.named
  have hlocks := B.notSynchronized
  obtain ⟨rfl, hB⟩ := m_start hv
  generalize va_A (m_w L ad g) sz = A at hB ⊢
  generalize s.heap = H at hB ⊢
  generalize ([] : List Loc) = locs at hB ⊢
  have hl := lv_entry ([.ref (ad 0), .int (nI b), .int (nI k), .int v]) (n := 7) (Nat.le_of_ble_eq_true rfl)
  rw [lg_entry_eq]
  generalize (lg_sl ([.ref (ad 0), .int (nI b), .int (nI k), .int v]) ++ List.replicate (7 - (lg_sl ([.ref (ad 0), .int (nI b), .int (nI k), .int v])).length) Slot.unset).toArray = ls at hl ⊢
  have hl : lv_has ls 7 [(0, .ref (ad 0)), (1, .int (nI b)), (2, .int (nI k)), (3, .int v)] := hl
  refine lv_aload_n hx hb dX8_read_0 rfl (lv_at hl 0 rfl) ?_
  refine lv_iload_n hx hb dX8_read_1 rfl (lv_at hl 2 rfl) ?_
  refine m_callVE (ci := 8) (As := [.int (nI k)]) (rest := []) ((by have h9 := c_X_paperNumber_t l D ty L ad g pn qn nw tr pf k m_0 m_6 h_0 h_6 hk; rw [hpp] at h9; exact h9 : m_E l yX8_paperNumber wsX8_paperNumber 1 21 D ty [.ref (ad 0), .int (nI k)] L ad g (some (.ref (ad pp))) g)) ⟨hx, hb, hml, hown, hts⟩ (cwV 1 hts gX8_read_X8_paperNumber rfl rfl rfl (by decide +kernel) ⟨Nat.le_of_ble_eq_true rfl, Nat.le_of_ble_eq_true rfl⟩) hB m_0 h_0 rfl rfl hl.1 rfl (Nat.le_of_ble_eq_true rfl) dX8_read_2 ⟨Nat.le_of_ble_eq_true rfl, Nat.le_of_ble_eq_true rfl⟩ (fun H locs hB => ?_)
  refine lv_astore (lv' := [(4, .ref (ad pp)), (0, .ref (ad 0)), (1, .int (nI b)), (2, .int (nI k)), (3, .int v)]) hx hb dX8_read_5 hl (by decide) rfl (fun ls hl => ?_)
  refine lv_aload hx hb dX8_read_7 (lv_at hl 0 rfl) ?_
  refine lv_iload_n hx hb dX8_read_9 rfl (lv_at hl 4 rfl) ?_
  refine m_callSE (As := [.ref (ad pp), .int v]) (rest := []) (c_X_textOf0_f l D ty L ad g pp pt vn fo wd lg tf v m_pp m_pt h_pp h_pt (by rw [show (nI 4).toInt = 4 by decide]; exact hv4)) ⟨hx, hb, hml, hown, hts⟩ (va_cwS 2 hts gX8_read_X8_textOf rfl rfl rfl (by decide +kernel) ⟨Nat.le_of_ble_eq_true rfl, Nat.le_of_ble_eq_true rfl⟩) hB rfl hl.1 rfl (Nat.le_of_ble_eq_true rfl) dX8_read_10 ⟨Nat.le_of_ble_eq_true rfl, Nat.le_of_ble_eq_true rfl⟩ (fun H locs hB => ?_)
  refine lv_astoreN (lv' := [(5, .null), (4, .ref (ad pp)), (0, .ref (ad 0)), (1, .int (nI b)), (2, .int (nI k)), (3, .int v)]) hx hb dX8_read_13 hl (by decide) rfl (fun ls hl => ?_)
  refine lv_aload_n hx hb dX8_read_15 rfl (lv_at hl 2 rfl) ?_
  refine lv_iload_n hx hb dX8_read_16 rfl (lv_at hl 3 rfl) ?_
  refine m_callVE (ci := 8) (As := [.int (nI b)]) (rest := []) ((by have h9 := c_X_lastView_t l D ty L ad g pn qn nw tr vf b m_0 m_7 h_0 h_7 hb6; rw [hvr] at h9; exact h9 : m_E l yX8_lastViewOf wsX8_lastViewOf 1 21 D ty [.ref (ad 0), .int (nI b)] L ad g (some (.ref (ad r))) g)) ⟨hx, hb, hml, hown, hts⟩ (cwV 1 hts gX8_read_X8_lastViewOf rfl rfl rfl (by decide +kernel) ⟨Nat.le_of_ble_eq_true rfl, Nat.le_of_ble_eq_true rfl⟩) hB m_0 h_0 rfl rfl hl.1 rfl (Nat.le_of_ble_eq_true rfl) dX8_read_17 ⟨Nat.le_of_ble_eq_true rfl, Nat.le_of_ble_eq_true rfl⟩ (fun H locs hB => ?_)
  refine lv_astore (lv' := [(6, .ref (ad r)), (5, .null), (4, .ref (ad pp)), (0, .ref (ad 0)), (1, .int (nI b)), (2, .int (nI k)), (3, .int v)]) hx hb dX8_read_20 hl (by decide) rfl (fun ls hl => ?_)
  refine lv_aload hx hb dX8_read_22 (lv_at hl 2 rfl) ?_
  refine lv_ifnull hx hb dX8_read_24 ?_
  refine lv_aloadN hx hb dX8_read_27 (lv_at hl 1 rfl) ?_
  refine lv_ifnullN (tgt := 37) hx hb dX8_read_29 (by decide) ?_
  refine lv_iconst (v := (-1)) hx hb dX8_read_37 (by decide) ?_
  exact m_iret hx hb hrt hlocks hB (Nat.le_refl _) (Nat.le_refl _) dX8_read_38 ⟨rfl, rfl, rfl, rfl⟩
set_option maxHeartbeats 1000000 in
set_option maxRecDepth 100000 in
theorem c_X_read0_b_b (l : Launch) (D : va_G) (ty : Nat → ClassId) (L : List Nat) (ad : Nat → Nat) (g : Nat → va_E) (pn qn : Nat) (nw : Int32) (tr : Int64) (pf : Nat → Option Nat) (vf : Nat → Option Nat) (pp pt vn : Nat) (fo wd : Int32) (lg : Int32) (tf : Nat → Option Nat) (k : Nat) (ib v : Int32) (m_0 : 0 ∈ L) (m_6 : 6 ∈ L) (m_7 : 7 ∈ L) (m_pp : pp ∈ L) (m_pt : pt ∈ L) (h_0 : g 0 = .inr (8, [.ref (ad 1), .ref (ad 3), .ref (ad 6), .int (nI pn), .ref (ad 7), .ref (ad 20), .ref (ad 22), .ref (ad 28), .int (nI qn), .ref (ad 29), .int nw, .long tr])) (h_6 : g 6 = .inl (ty 4, 8, .inr (.inr (.inr (.inr pf))))) (h_7 : g 7 = .inl (ty 6, 6, .inr (.inr (.inr (.inr vf))))) (h_pp : g pp = .inr (0, [.int fo, .ref (ad pt), .int (nI vn), .int wd, .int lg])) (h_pt : g pt = .inl (ty 7, 4, .inr (.inr (.inr (.inr tf))))) (hib : ¬ (0 ≤ ib.toInt ∧ ib.toInt < 6)) (hk : k < 8) (hpp : pf k = some (ad pp)) (hv4 : ¬ (0 ≤ v.toInt ∧ v.toInt < 4)) : m_E l yX8_read wsX8_read 5 113 D ty [.ref (ad 0), .int ib, .int (nI k), .int v] L ad g (some (.int (-1))) g := by
  intro sz
  refine Met.ofW (cc := cX8_read) (maxL := 7) (ret := (some .int)) (by decide) rfl ?_
  intro p e s m args below meth c s₁ B hml hv
  have hx := B.exec
  have hb := B.bytes
  have hrt := B.returns
  have hts := atoms_spec (ws := wsX8_read) B.pre
  have hown : s.vm.findClass RX8 = some m.cls := findClass_of_methodNamed B.named
  have hlocks := B.notSynchronized
  obtain ⟨rfl, hB⟩ := m_start hv
  generalize va_A (m_w L ad g) sz = A at hB ⊢
  generalize s.heap = H at hB ⊢
  generalize ([] : List Loc) = locs at hB ⊢
  have hl := lv_entry ([.ref (ad 0), .int ib, .int (nI k), .int v]) (n := 7) (Nat.le_of_ble_eq_true rfl)
  rw [lg_entry_eq]
  generalize (lg_sl ([.ref (ad 0), .int ib, .int (nI k), .int v]) ++ List.replicate (7 - (lg_sl ([.ref (ad 0), .int ib, .int (nI k), .int v])).length) Slot.unset).toArray = ls at hl ⊢
  have hl : lv_has ls 7 [(0, .ref (ad 0)), (1, .int ib), (2, .int (nI k)), (3, .int v)] := hl
  refine lv_aload_n hx hb dX8_read_0 rfl (lv_at hl 0 rfl) ?_
  refine lv_iload_n hx hb dX8_read_1 rfl (lv_at hl 2 rfl) ?_
  refine m_callVE (ci := 8) (As := [.int (nI k)]) (rest := []) ((by have h9 := c_X_paperNumber_t l D ty L ad g pn qn nw tr pf k m_0 m_6 h_0 h_6 hk; rw [hpp] at h9; exact h9 : m_E l yX8_paperNumber wsX8_paperNumber 1 21 D ty [.ref (ad 0), .int (nI k)] L ad g (some (.ref (ad pp))) g)) ⟨hx, hb, hml, hown, hts⟩ (cwV 1 hts gX8_read_X8_paperNumber rfl rfl rfl (by decide +kernel) ⟨Nat.le_of_ble_eq_true rfl, Nat.le_of_ble_eq_true rfl⟩) hB m_0 h_0 rfl rfl hl.1 rfl (Nat.le_of_ble_eq_true rfl) dX8_read_2 ⟨Nat.le_of_ble_eq_true rfl, Nat.le_of_ble_eq_true rfl⟩ (fun H locs hB => ?_)
  refine lv_astore (lv' := [(4, .ref (ad pp)), (0, .ref (ad 0)), (1, .int ib), (2, .int (nI k)), (3, .int v)]) hx hb dX8_read_5 hl (by decide) rfl (fun ls hl => ?_)
  refine lv_aload hx hb dX8_read_7 (lv_at hl 0 rfl) ?_
  refine lv_iload_n hx hb dX8_read_9 rfl (lv_at hl 4 rfl) ?_
  refine m_callSE (As := [.ref (ad pp), .int v]) (rest := []) (c_X_textOf0_f l D ty L ad g pp pt vn fo wd lg tf v m_pp m_pt h_pp h_pt (by rw [show (nI 4).toInt = 4 by decide]; exact hv4)) ⟨hx, hb, hml, hown, hts⟩ (va_cwS 2 hts gX8_read_X8_textOf rfl rfl rfl (by decide +kernel) ⟨Nat.le_of_ble_eq_true rfl, Nat.le_of_ble_eq_true rfl⟩) hB rfl hl.1 rfl (Nat.le_of_ble_eq_true rfl) dX8_read_10 ⟨Nat.le_of_ble_eq_true rfl, Nat.le_of_ble_eq_true rfl⟩ (fun H locs hB => ?_)
  refine lv_astoreN (lv' := [(5, .null), (4, .ref (ad pp)), (0, .ref (ad 0)), (1, .int ib), (2, .int (nI k)), (3, .int v)]) hx hb dX8_read_13 hl (by decide) rfl (fun ls hl => ?_)
  refine lv_aload_n hx hb dX8_read_15 rfl (lv_at hl 2 rfl) ?_
  refine lv_iload_n hx hb dX8_read_16 rfl (lv_at hl 3 rfl) ?_
  refine m_callVE (ci := 8) (As := [.int ib]) (rest := []) (c_X_lastView_f l D ty L ad g pn qn nw tr vf ib m_0 m_7 h_0 h_7 hib) ⟨hx, hb, hml, hown, hts⟩ (cwV 1 hts gX8_read_X8_lastViewOf rfl rfl rfl (by decide +kernel) ⟨Nat.le_of_ble_eq_true rfl, Nat.le_of_ble_eq_true rfl⟩) hB m_0 h_0 rfl rfl hl.1 rfl (Nat.le_of_ble_eq_true rfl) dX8_read_17 ⟨Nat.le_of_ble_eq_true rfl, Nat.le_of_ble_eq_true rfl⟩ (fun H locs hB => ?_)
  refine lv_astoreN (lv' := [(6, .null), (5, .null), (4, .ref (ad pp)), (0, .ref (ad 0)), (1, .int ib), (2, .int (nI k)), (3, .int v)]) hx hb dX8_read_20 hl (by decide) rfl (fun ls hl => ?_)
  refine lv_aload hx hb dX8_read_22 (lv_at hl 2 rfl) ?_
  refine lv_ifnull hx hb dX8_read_24 ?_
  refine lv_aloadN hx hb dX8_read_27 (lv_at hl 1 rfl) ?_
  refine lv_ifnullN (tgt := 37) hx hb dX8_read_29 (by decide) ?_
  refine lv_iconst (v := (-1)) hx hb dX8_read_37 (by decide) ?_
  exact m_iret hx hb hrt hlocks hB (Nat.le_refl _) (Nat.le_refl _) dX8_read_38 ⟨rfl, rfl, rfl, rfl⟩
set_option maxHeartbeats 1000000 in
set_option maxRecDepth 100000 in
theorem c_X_read0_b_w (l : Launch) (D : va_G) (ty : Nat → ClassId) (L : List Nat) (ad : Nat → Nat) (g : Nat → va_E) (pn qn : Nat) (nw : Int32) (tr : Int64) (pf : Nat → Option Nat) (vf : Nat → Option Nat) (pp pt vn : Nat) (fo wd : Int32) (lg : Int32) (tf : Nat → Option Nat) (k : Nat) (w : Nat) (ib : Int32) (m_0 : 0 ∈ L) (m_6 : 6 ∈ L) (m_7 : 7 ∈ L) (m_pp : pp ∈ L) (m_pt : pt ∈ L) (h_0 : g 0 = .inr (8, [.ref (ad 1), .ref (ad 3), .ref (ad 6), .int (nI pn), .ref (ad 7), .ref (ad 20), .ref (ad 22), .ref (ad 28), .int (nI qn), .ref (ad 29), .int nw, .long tr])) (h_6 : g 6 = .inl (ty 4, 8, .inr (.inr (.inr (.inr pf))))) (h_7 : g 7 = .inl (ty 6, 6, .inr (.inr (.inr (.inr vf))))) (h_pp : g pp = .inr (0, [.int fo, .ref (ad pt), .int (nI vn), .int wd, .int lg])) (h_pt : g pt = .inl (ty 7, 4, .inr (.inr (.inr (.inr tf))))) (hib : ¬ (0 ≤ ib.toInt ∧ ib.toInt < 6)) (hk : k < 8) (hpp : pf k = some (ad pp)) (hw4 : w < 4) : m_E l yX8_read wsX8_read 5 113 D ty [.ref (ad 0), .int ib, .int (nI k), .int (nI w)] L ad g (some (.int (-1))) g := by
  intro sz
  refine Met.ofW (cc := cX8_read) (maxL := 7) (ret := (some .int)) (by decide) rfl ?_
  intro p e s m args below meth c s₁ B hml hv
  have hx := B.exec
  have hb := B.bytes
  have hrt := B.returns
  have hts := atoms_spec (ws := wsX8_read) B.pre
  have hown : s.vm.findClass RX8 = some m.cls := findClass_of_methodNamed B.named
  have hlocks := B.notSynchronized
  obtain ⟨rfl, hB⟩ := m_start hv
  generalize va_A (m_w L ad g) sz = A at hB ⊢
  generalize s.heap = H at hB ⊢
  generalize ([] : List Loc) = locs at hB ⊢
  have hl := lv_entry ([.ref (ad 0), .int ib, .int (nI k), .int (nI w)]) (n := 7) (Nat.le_of_ble_eq_true rfl)
  rw [lg_entry_eq]
  generalize (lg_sl ([.ref (ad 0), .int ib, .int (nI k), .int (nI w)]) ++ List.replicate (7 - (lg_sl ([.ref (ad 0), .int ib, .int (nI k), .int (nI w)])).length) Slot.unset).toArray = ls at hl ⊢
  have hl : lv_has ls 7 [(0, .ref (ad 0)), (1, .int ib), (2, .int (nI k)), (3, .int (nI w))] := hl
  rcases htf : tf w with _ | r9
  · skip
    refine lv_aload_n hx hb dX8_read_0 rfl (lv_at hl 0 rfl) ?_
    refine lv_iload_n hx hb dX8_read_1 rfl (lv_at hl 2 rfl) ?_
    refine m_callVE (ci := 8) (As := [.int (nI k)]) (rest := []) ((by have h9 := c_X_paperNumber_t l D ty L ad g pn qn nw tr pf k m_0 m_6 h_0 h_6 hk; rw [hpp] at h9; exact h9 : m_E l yX8_paperNumber wsX8_paperNumber 1 21 D ty [.ref (ad 0), .int (nI k)] L ad g (some (.ref (ad pp))) g)) ⟨hx, hb, hml, hown, hts⟩ (cwV 1 hts gX8_read_X8_paperNumber rfl rfl rfl (by decide +kernel) ⟨Nat.le_of_ble_eq_true rfl, Nat.le_of_ble_eq_true rfl⟩) hB m_0 h_0 rfl rfl hl.1 rfl (Nat.le_of_ble_eq_true rfl) dX8_read_2 ⟨Nat.le_of_ble_eq_true rfl, Nat.le_of_ble_eq_true rfl⟩ (fun H locs hB => ?_)
    refine lv_astore (lv' := [(4, .ref (ad pp)), (0, .ref (ad 0)), (1, .int ib), (2, .int (nI k)), (3, .int (nI w))]) hx hb dX8_read_5 hl (by decide) rfl (fun ls hl => ?_)
    refine lv_aload hx hb dX8_read_7 (lv_at hl 0 rfl) ?_
    refine lv_iload_n hx hb dX8_read_9 rfl (lv_at hl 4 rfl) ?_
    refine m_callSE (As := [.ref (ad pp), .int (nI w)]) (rest := []) ((by have h9 := c_X_textOf0_t l D ty L ad g pp pt vn fo wd lg tf w m_pp m_pt h_pp h_pt hw4; rw [htf] at h9; exact h9 : m_E l yX8_textOf wsX8_textOf 2 42 D ty [.ref (ad pp), .int (nI w)] L ad g (some .null) g)) ⟨hx, hb, hml, hown, hts⟩ (va_cwS 2 hts gX8_read_X8_textOf rfl rfl rfl (by decide +kernel) ⟨Nat.le_of_ble_eq_true rfl, Nat.le_of_ble_eq_true rfl⟩) hB rfl hl.1 rfl (Nat.le_of_ble_eq_true rfl) dX8_read_10 ⟨Nat.le_of_ble_eq_true rfl, Nat.le_of_ble_eq_true rfl⟩ (fun H locs hB => ?_)
    refine lv_astoreN (lv' := [(5, .null), (4, .ref (ad pp)), (0, .ref (ad 0)), (1, .int ib), (2, .int (nI k)), (3, .int (nI w))]) hx hb dX8_read_13 hl (by decide) rfl (fun ls hl => ?_)
    refine lv_aload_n hx hb dX8_read_15 rfl (lv_at hl 2 rfl) ?_
    refine lv_iload_n hx hb dX8_read_16 rfl (lv_at hl 3 rfl) ?_
    refine m_callVE (ci := 8) (As := [.int ib]) (rest := []) (c_X_lastView_f l D ty L ad g pn qn nw tr vf ib m_0 m_7 h_0 h_7 hib) ⟨hx, hb, hml, hown, hts⟩ (cwV 1 hts gX8_read_X8_lastViewOf rfl rfl rfl (by decide +kernel) ⟨Nat.le_of_ble_eq_true rfl, Nat.le_of_ble_eq_true rfl⟩) hB m_0 h_0 rfl rfl hl.1 rfl (Nat.le_of_ble_eq_true rfl) dX8_read_17 ⟨Nat.le_of_ble_eq_true rfl, Nat.le_of_ble_eq_true rfl⟩ (fun H locs hB => ?_)
    refine lv_astoreN (lv' := [(6, .null), (5, .null), (4, .ref (ad pp)), (0, .ref (ad 0)), (1, .int ib), (2, .int (nI k)), (3, .int (nI w))]) hx hb dX8_read_20 hl (by decide) rfl (fun ls hl => ?_)
    refine lv_aload hx hb dX8_read_22 (lv_at hl 2 rfl) ?_
    refine lv_ifnull hx hb dX8_read_24 ?_
    refine lv_aloadN hx hb dX8_read_27 (lv_at hl 1 rfl) ?_
    refine lv_ifnullN (tgt := 37) hx hb dX8_read_29 (by decide) ?_
    refine lv_iconst (v := (-1)) hx hb dX8_read_37 (by decide) ?_
    exact m_iret hx hb hrt hlocks hB (Nat.le_refl _) (Nat.le_refl _) dX8_read_38 ⟨rfl, rfl, rfl, rfl⟩
  · skip
    refine lv_aload_n hx hb dX8_read_0 rfl (lv_at hl 0 rfl) ?_
    refine lv_iload_n hx hb dX8_read_1 rfl (lv_at hl 2 rfl) ?_
    refine m_callVE (ci := 8) (As := [.int (nI k)]) (rest := []) ((by have h9 := c_X_paperNumber_t l D ty L ad g pn qn nw tr pf k m_0 m_6 h_0 h_6 hk; rw [hpp] at h9; exact h9 : m_E l yX8_paperNumber wsX8_paperNumber 1 21 D ty [.ref (ad 0), .int (nI k)] L ad g (some (.ref (ad pp))) g)) ⟨hx, hb, hml, hown, hts⟩ (cwV 1 hts gX8_read_X8_paperNumber rfl rfl rfl (by decide +kernel) ⟨Nat.le_of_ble_eq_true rfl, Nat.le_of_ble_eq_true rfl⟩) hB m_0 h_0 rfl rfl hl.1 rfl (Nat.le_of_ble_eq_true rfl) dX8_read_2 ⟨Nat.le_of_ble_eq_true rfl, Nat.le_of_ble_eq_true rfl⟩ (fun H locs hB => ?_)
    refine lv_astore (lv' := [(4, .ref (ad pp)), (0, .ref (ad 0)), (1, .int ib), (2, .int (nI k)), (3, .int (nI w))]) hx hb dX8_read_5 hl (by decide) rfl (fun ls hl => ?_)
    refine lv_aload hx hb dX8_read_7 (lv_at hl 0 rfl) ?_
    refine lv_iload_n hx hb dX8_read_9 rfl (lv_at hl 4 rfl) ?_
    refine m_callSE (As := [.ref (ad pp), .int (nI w)]) (rest := []) ((by have h9 := c_X_textOf0_t l D ty L ad g pp pt vn fo wd lg tf w m_pp m_pt h_pp h_pt hw4; rw [htf] at h9; exact h9 : m_E l yX8_textOf wsX8_textOf 2 42 D ty [.ref (ad pp), .int (nI w)] L ad g (some (.ref r9)) g)) ⟨hx, hb, hml, hown, hts⟩ (va_cwS 2 hts gX8_read_X8_textOf rfl rfl rfl (by decide +kernel) ⟨Nat.le_of_ble_eq_true rfl, Nat.le_of_ble_eq_true rfl⟩) hB rfl hl.1 rfl (Nat.le_of_ble_eq_true rfl) dX8_read_10 ⟨Nat.le_of_ble_eq_true rfl, Nat.le_of_ble_eq_true rfl⟩ (fun H locs hB => ?_)
    refine lv_astore (lv' := [(5, .ref r9), (4, .ref (ad pp)), (0, .ref (ad 0)), (1, .int ib), (2, .int (nI k)), (3, .int (nI w))]) hx hb dX8_read_13 hl (by decide) rfl (fun ls hl => ?_)
    refine lv_aload_n hx hb dX8_read_15 rfl (lv_at hl 2 rfl) ?_
    refine lv_iload_n hx hb dX8_read_16 rfl (lv_at hl 3 rfl) ?_
    refine m_callVE (ci := 8) (As := [.int ib]) (rest := []) (c_X_lastView_f l D ty L ad g pn qn nw tr vf ib m_0 m_7 h_0 h_7 hib) ⟨hx, hb, hml, hown, hts⟩ (cwV 1 hts gX8_read_X8_lastViewOf rfl rfl rfl (by decide +kernel) ⟨Nat.le_of_ble_eq_true rfl, Nat.le_of_ble_eq_true rfl⟩) hB m_0 h_0 rfl rfl hl.1 rfl (Nat.le_of_ble_eq_true rfl) dX8_read_17 ⟨Nat.le_of_ble_eq_true rfl, Nat.le_of_ble_eq_true rfl⟩ (fun H locs hB => ?_)
    refine lv_astoreN (lv' := [(6, .null), (5, .ref r9), (4, .ref (ad pp)), (0, .ref (ad 0)), (1, .int ib), (2, .int (nI k)), (3, .int (nI w))]) hx hb dX8_read_20 hl (by decide) rfl (fun ls hl => ?_)
    refine lv_aload hx hb dX8_read_22 (lv_at hl 2 rfl) ?_
    refine lv_ifnull hx hb dX8_read_24 ?_
    refine lv_aload hx hb dX8_read_27 (lv_at hl 1 rfl) ?_
    refine lv_ifnull hx hb dX8_read_29 ?_
    refine lv_aloadN hx hb dX8_read_32 (lv_at hl 0 rfl) ?_
    refine lv_ifnonnullN hx hb dX8_read_34 ?_
    refine lv_iconst (v := (-1)) hx hb dX8_read_37 (by decide) ?_
    exact m_iret hx hb hrt hlocks hB (Nat.le_refl _) (Nat.le_refl _) dX8_read_38 ⟨rfl, rfl, rfl, rfl⟩
set_option maxHeartbeats 1000000 in
set_option maxRecDepth 100000 in
theorem c_X_read0_no (l : Launch) (D : va_G) (ty : Nat → ClassId) (L : List Nat) (ad : Nat → Nat) (g : Nat → va_E) (pn qn : Nat) (nw : Int32) (tr : Int64) (pf : Nat → Option Nat) (vf : Nat → Option Nat) (r ra n0 b : Nat) (bs0 : Nat → Int32) (fs fe : Nat → Int32) (pp pt vn : Nat) (wd : Int32) (lg : Int32) (tf : Nat → Option Nat) (k f w t ro a bl n : Nat) (bs bk : Nat → Int32) (m_0 : 0 ∈ L) (m_3 : 3 ∈ L) (m_4 : 4 ∈ L) (m_5 : 5 ∈ L) (m_6 : 6 ∈ L) (m_7 : 7 ∈ L) (m_r : r ∈ L) (m_ra : ra ∈ L) (m_pp : pp ∈ L) (m_pt : pt ∈ L) (m_t : t ∈ L) (m_ro : ro ∈ L) (m_a : a ∈ L) (m_bl : bl ∈ L) (h_0 : g 0 = .inr (8, [.ref (ad 1), .ref (ad 3), .ref (ad 6), .int (nI pn), .ref (ad 7), .ref (ad 20), .ref (ad 22), .ref (ad 28), .int (nI qn), .ref (ad 29), .int nw, .long tr])) (h_3 : g 3 = .inr (4, [.ref (ad 4), .ref (ad 5)])) (h_4 : g 4 = .inl (ty 0, 12, .inl fs)) (h_5 : g 5 = .inl (ty 0, 12, .inl fe)) (h_6 : g 6 = .inl (ty 4, 8, .inr (.inr (.inr (.inr pf))))) (h_7 : g 7 = .inl (ty 6, 6, .inr (.inr (.inr (.inr vf))))) (h_r : g r = .inr (5, [.ref (ad ra), .int (nI n0)])) (h_ra : g ra = .inl (ty 2, 80, .inl bs0)) (h_pp : g pp = .inr (0, [.int (nI f), .ref (ad pt), .int (nI vn), .int wd, .int lg])) (h_pt : g pt = .inl (ty 7, 4, .inr (.inr (.inr (.inr tf))))) (h_t : g t = .inr (7, [.ref (ad ro), .ref (ad bl)])) (h_ro : g ro = .inr (5, [.ref (ad a), .int (nI n)])) (h_a : g a = .inl (ty 2, n, .inl bs)) (h_bl : g bl = .inl (ty 3, n, .inl bk)) (hb6 : b < 6) (hvr : vf b = some (ad r)) (hk : k < 8) (hpp : pf k = some (ad pp)) (hw4 : w < 4) (htf : tf w = some (ad t)) (hf4 : f < 4) (hwd : wd = 0 ∨ wd = 1) (hs : (opn wd fs fe (b % 3 * 4 + f) nw && decide (lg.toInt ≤ nw.toInt)) = false) : m_E l yX8_read wsX8_read 5 113 D ty [.ref (ad 0), .int (nI b), .int (nI k), .int (nI w)] L ad g (some (.int (-4))) g := by
  intro sz
  refine Met.ofW (cc := cX8_read) (maxL := 7) (ret := (some .int)) (by decide) rfl ?_
  intro p e s m args below meth c s₁ B hml hv
  have hx := B.exec
  have hb := B.bytes
  have hrt := B.returns
  have hts := atoms_spec (ws := wsX8_read) B.pre
  have hown : s.vm.findClass RX8 = some m.cls := findClass_of_methodNamed B.named
  have hlocks := B.notSynchronized
  obtain ⟨rfl, hB⟩ := m_start hv
  generalize va_A (m_w L ad g) sz = A at hB ⊢
  generalize s.heap = H at hB ⊢
  generalize ([] : List Loc) = locs at hB ⊢
  have hl := lv_entry ([.ref (ad 0), .int (nI b), .int (nI k), .int (nI w)]) (n := 7) (Nat.le_of_ble_eq_true rfl)
  rw [lg_entry_eq]
  generalize (lg_sl ([.ref (ad 0), .int (nI b), .int (nI k), .int (nI w)]) ++ List.replicate (7 - (lg_sl ([.ref (ad 0), .int (nI b), .int (nI k), .int (nI w)])).length) Slot.unset).toArray = ls at hl ⊢
  have hl : lv_has ls 7 [(0, .ref (ad 0)), (1, .int (nI b)), (2, .int (nI k)), (3, .int (nI w))] := hl
  refine lv_aload_n hx hb dX8_read_0 rfl (lv_at hl 0 rfl) ?_
  refine lv_iload_n hx hb dX8_read_1 rfl (lv_at hl 2 rfl) ?_
  refine m_callVE (ci := 8) (As := [.int (nI k)]) (rest := []) ((by have h9 := c_X_paperNumber_t l D ty L ad g pn qn nw tr pf k m_0 m_6 h_0 h_6 hk; rw [hpp] at h9; exact h9 : m_E l yX8_paperNumber wsX8_paperNumber 1 21 D ty [.ref (ad 0), .int (nI k)] L ad g (some (.ref (ad pp))) g)) ⟨hx, hb, hml, hown, hts⟩ (cwV 1 hts gX8_read_X8_paperNumber rfl rfl rfl (by decide +kernel) ⟨Nat.le_of_ble_eq_true rfl, Nat.le_of_ble_eq_true rfl⟩) hB m_0 h_0 rfl rfl hl.1 rfl (Nat.le_of_ble_eq_true rfl) dX8_read_2 ⟨Nat.le_of_ble_eq_true rfl, Nat.le_of_ble_eq_true rfl⟩ (fun H locs hB => ?_)
  refine lv_astore (lv' := [(4, .ref (ad pp)), (0, .ref (ad 0)), (1, .int (nI b)), (2, .int (nI k)), (3, .int (nI w))]) hx hb dX8_read_5 hl (by decide) rfl (fun ls hl => ?_)
  refine lv_aload hx hb dX8_read_7 (lv_at hl 0 rfl) ?_
  refine lv_iload_n hx hb dX8_read_9 rfl (lv_at hl 4 rfl) ?_
  refine m_callSE (As := [.ref (ad pp), .int (nI w)]) (rest := []) ((by have h9 := c_X_textOf0_t l D ty L ad g pp pt vn (nI f) wd lg tf w m_pp m_pt h_pp h_pt hw4; rw [htf] at h9; exact h9 : m_E l yX8_textOf wsX8_textOf 2 42 D ty [.ref (ad pp), .int (nI w)] L ad g (some (.ref (ad t))) g)) ⟨hx, hb, hml, hown, hts⟩ (va_cwS 2 hts gX8_read_X8_textOf rfl rfl rfl (by decide +kernel) ⟨Nat.le_of_ble_eq_true rfl, Nat.le_of_ble_eq_true rfl⟩) hB rfl hl.1 rfl (Nat.le_of_ble_eq_true rfl) dX8_read_10 ⟨Nat.le_of_ble_eq_true rfl, Nat.le_of_ble_eq_true rfl⟩ (fun H locs hB => ?_)
  refine lv_astore (lv' := [(5, .ref (ad t)), (4, .ref (ad pp)), (0, .ref (ad 0)), (1, .int (nI b)), (2, .int (nI k)), (3, .int (nI w))]) hx hb dX8_read_13 hl (by decide) rfl (fun ls hl => ?_)
  refine lv_aload_n hx hb dX8_read_15 rfl (lv_at hl 2 rfl) ?_
  refine lv_iload_n hx hb dX8_read_16 rfl (lv_at hl 3 rfl) ?_
  refine m_callVE (ci := 8) (As := [.int (nI b)]) (rest := []) ((by have h9 := c_X_lastView_t l D ty L ad g pn qn nw tr vf b m_0 m_7 h_0 h_7 hb6; rw [hvr] at h9; exact h9 : m_E l yX8_lastViewOf wsX8_lastViewOf 1 21 D ty [.ref (ad 0), .int (nI b)] L ad g (some (.ref (ad r))) g)) ⟨hx, hb, hml, hown, hts⟩ (cwV 1 hts gX8_read_X8_lastViewOf rfl rfl rfl (by decide +kernel) ⟨Nat.le_of_ble_eq_true rfl, Nat.le_of_ble_eq_true rfl⟩) hB m_0 h_0 rfl rfl hl.1 rfl (Nat.le_of_ble_eq_true rfl) dX8_read_17 ⟨Nat.le_of_ble_eq_true rfl, Nat.le_of_ble_eq_true rfl⟩ (fun H locs hB => ?_)
  refine lv_astore (lv' := [(6, .ref (ad r)), (5, .ref (ad t)), (4, .ref (ad pp)), (0, .ref (ad 0)), (1, .int (nI b)), (2, .int (nI k)), (3, .int (nI w))]) hx hb dX8_read_20 hl (by decide) rfl (fun ls hl => ?_)
  refine lv_aload hx hb dX8_read_22 (lv_at hl 2 rfl) ?_
  refine lv_ifnull hx hb dX8_read_24 ?_
  refine lv_aload hx hb dX8_read_27 (lv_at hl 1 rfl) ?_
  refine lv_ifnull hx hb dX8_read_29 ?_
  refine lv_aload hx hb dX8_read_32 (lv_at hl 0 rfl) ?_
  refine lv_ifnonnull (tgt := 39) hx hb dX8_read_34 (by decide) ?_
  refine lv_aload_n hx hb dX8_read_39 rfl (lv_at hl 3 rfl) ?_
  refine lv_aload hx hb dX8_read_40 (lv_at hl 2 rfl) ?_
  refine lv_iload_n hx hb dX8_read_42 rfl (lv_at hl 4 rfl) ?_
  refine m_callVE (ci := 8) (As := [.ref (ad pp), .int (nI b)]) (rest := []) (c_X_isOpen0 l D ty L ad g pn qn nw tr fs fe pp pt vn wd lg b f m_0 m_3 m_4 m_5 m_pp h_0 h_3 h_4 h_5 h_pp hb6 hf4 hwd) ⟨hx, hb, hml, hown, hts⟩ (cwV 2 hts gX8_read_X8_isOpen rfl rfl rfl (by decide +kernel) ⟨Nat.le_of_ble_eq_true rfl, Nat.le_of_ble_eq_true rfl⟩) hB m_0 h_0 rfl rfl hl.1 rfl (Nat.le_of_ble_eq_true rfl) dX8_read_43 ⟨Nat.le_of_ble_eq_true rfl, Nat.le_of_ble_eq_true rfl⟩ (fun H locs hB => ?_)
  refine b_if_ne_f 52 hx hb dX8_read_46 (by decide) (by rw [hs]; decide) ?_
  refine lv_bipush (v := (-4)) hx hb dX8_read_49 (by decide) ?_
  exact m_iret hx hb hrt hlocks hB (Nat.le_refl _) (Nat.le_refl _) dX8_read_51 ⟨rfl, rfl, rfl, rfl⟩
set_option maxRecDepth 20000 in
theorem in_X8_read_X8 : ∀ w ∈ wsX80, w ∈ wsX8_read := by decide +kernel
set_option maxHeartbeats 1000000 in
set_option maxRecDepth 100000 in
theorem c_X_read0_full (l : Launch) (D : va_G) (ty : Nat → ClassId) (L : List Nat) (ad : Nat → Nat) (g : Nat → va_E) (pn qn : Nat) (nw : Int32) (tr : Int64) (pf : Nat → Option Nat) (vf : Nat → Option Nat) (r ra n0 b : Nat) (bs0 : Nat → Int32) (fs fe : Nat → Int32) (pp pt vn : Nat) (wd : Int32) (lg : Int32) (tf : Nat → Option Nat) (k f w t ro a bl n : Nat) (bs bk : Nat → Int32) (fv : Nat → Int32) (en : Nat) (lo : Int32) (f0 f1 f2 f3 : Nat → Int32) (f4 : Nat → Int64) (m_0 : 0 ∈ L) (m_3 : 3 ∈ L) (m_4 : 4 ∈ L) (m_5 : 5 ∈ L) (m_6 : 6 ∈ L) (m_7 : 7 ∈ L) (m_r : r ∈ L) (m_ra : ra ∈ L) (m_pp : pp ∈ L) (m_pt : pt ∈ L) (m_t : t ∈ L) (m_ro : ro ∈ L) (m_a : a ∈ L) (m_bl : bl ∈ L) (m_22 : 22 ∈ L) (m_23 : 23 ∈ L) (m_24 : 24 ∈ L) (m_25 : 25 ∈ L) (m_26 : 26 ∈ L) (m_27 : 27 ∈ L) (h_0 : g 0 = .inr (8, [.ref (ad 1), .ref (ad 3), .ref (ad 6), .int (nI pn), .ref (ad 7), .ref (ad 20), .ref (ad 22), .ref (ad 28), .int (nI qn), .ref (ad 29), .int nw, .long tr])) (h_3 : g 3 = .inr (4, [.ref (ad 4), .ref (ad 5)])) (h_4 : g 4 = .inl (ty 0, 12, .inl fs)) (h_5 : g 5 = .inl (ty 0, 12, .inl fe)) (h_6 : g 6 = .inl (ty 4, 8, .inr (.inr (.inr (.inr pf))))) (h_7 : g 7 = .inl (ty 6, 6, .inr (.inr (.inr (.inr vf))))) (h_r : g r = .inr (5, [.ref (ad ra), .int (nI n0)])) (h_ra : g ra = .inl (ty 2, 80, .inl bs0)) (h_pp : g pp = .inr (0, [.int (nI f), .ref (ad pt), .int (nI vn), .int wd, .int lg])) (h_pt : g pt = .inl (ty 7, 4, .inr (.inr (.inr (.inr tf))))) (h_t : g t = .inr (7, [.ref (ad ro), .ref (ad bl)])) (h_ro : g ro = .inr (5, [.ref (ad a), .int (nI n)])) (h_a : g a = .inl (ty 2, n, .inl bs)) (h_bl : g bl = .inl (ty 3, n, .inl bk)) (h_22 : g 22 = .inr (6, [.ref (ad 23), .ref (ad 24), .ref (ad 25), .ref (ad 26), .ref (ad 27), .int (nI en), .int lo])) (h_23 : g 23 = .inl (ty 0, 200, .inl f0)) (h_24 : g 24 = .inl (ty 0, 200, .inl f1)) (h_25 : g 25 = .inl (ty 0, 200, .inl f2)) (h_26 : g 26 = .inl (ty 0, 200, .inl f3)) (h_27 : g 27 = .inl (ty 1, 200, .inr (.inl f4))) (hb6 : b < 6) (hvr : vf b = some (ad r)) (hk : k < 8) (hpp : pf k = some (ad pp)) (hw4 : w < 4) (htf : tf w = some (ad t)) (hf4 : f < 4) (hwd : wd = 0 ∨ wd = 1) (hs : (opn wd fs fe (b % 3 * 4 + f) nw && decide (lg.toInt ≤ nw.toInt)) = true) (hn40 : n ≤ 40) (hbk : ∀ i, i < n → bk i = 0 ∨ bk i = 1) (hfv : ∀ i, i < n → fv i = pl (bs i) (bk i)) (h8 : ∀ i, i < n → (fv i).toInt8.toInt32 = fv i) (hr8 : 8 ≤ r ∧ r < 14) (hra8 : 14 ≤ ra ∧ ra < 20) (hb_pp : 30 ≤ pp) (hb_pt : 30 ≤ pt) (hb_t : 30 ≤ t) (hb_ro : 30 ≤ ro) (hb_a : 30 ≤ a) (hb_bl : 30 ≤ bl) (hen : en = 200) : m_E l yX8_read wsX8_read 5 113 D ty [.ref (ad 0), .int (nI b), .int (nI k), .int (nI w)] L ad g (some (.int (nI (mkN false (nI b) fv n)))) (va_up (va_up (va_up g ra (.inl (ty 2, 80, .inl (mkF false (nI b) fv bs0 n)))) r (.inr (5, [.ref (ad ra), .int (nI (mkN false (nI b) fv n))]))) 22 (.inr (6, [.ref (ad 23), .ref (ad 24), .ref (ad 25), .ref (ad 26), .ref (ad 27), .int (nI en), .int (lo + 1)]))) := by
  intro sz
  refine Met.ofW (cc := cX8_read) (maxL := 7) (ret := (some .int)) (by decide) rfl ?_
  intro p e s m args below meth c s₁ B hml hv
  have hx := B.exec
  have hb := B.bytes
  have hrt := B.returns
  have hts := atoms_spec (ws := wsX8_read) B.pre
  have hown : s.vm.findClass RX8 = some m.cls := findClass_of_methodNamed B.named
  have hlocks := B.notSynchronized
  obtain ⟨rfl, hB⟩ := m_start hv
  generalize va_A (m_w L ad g) sz = A at hB ⊢
  generalize s.heap = H at hB ⊢
  generalize ([] : List Loc) = locs at hB ⊢
  have hl := lv_entry ([.ref (ad 0), .int (nI b), .int (nI k), .int (nI w)]) (n := 7) (Nat.le_of_ble_eq_true rfl)
  rw [lg_entry_eq]
  generalize (lg_sl ([.ref (ad 0), .int (nI b), .int (nI k), .int (nI w)]) ++ List.replicate (7 - (lg_sl ([.ref (ad 0), .int (nI b), .int (nI k), .int (nI w)])).length) Slot.unset).toArray = ls at hl ⊢
  have hl : lv_has ls 7 [(0, .ref (ad 0)), (1, .int (nI b)), (2, .int (nI k)), (3, .int (nI w))] := hl
  refine lv_aload_n hx hb dX8_read_0 rfl (lv_at hl 0 rfl) ?_
  refine lv_iload_n hx hb dX8_read_1 rfl (lv_at hl 2 rfl) ?_
  refine m_callVE (ci := 8) (As := [.int (nI k)]) (rest := []) ((by have h9 := c_X_paperNumber_t l D ty L ad g pn qn nw tr pf k m_0 m_6 h_0 h_6 hk; rw [hpp] at h9; exact h9 : m_E l yX8_paperNumber wsX8_paperNumber 1 21 D ty [.ref (ad 0), .int (nI k)] L ad g (some (.ref (ad pp))) g)) ⟨hx, hb, hml, hown, hts⟩ (cwV 1 hts gX8_read_X8_paperNumber rfl rfl rfl (by decide +kernel) ⟨Nat.le_of_ble_eq_true rfl, Nat.le_of_ble_eq_true rfl⟩) hB m_0 h_0 rfl rfl hl.1 rfl (Nat.le_of_ble_eq_true rfl) dX8_read_2 ⟨Nat.le_of_ble_eq_true rfl, Nat.le_of_ble_eq_true rfl⟩ (fun H locs hB => ?_)
  refine lv_astore (lv' := [(4, .ref (ad pp)), (0, .ref (ad 0)), (1, .int (nI b)), (2, .int (nI k)), (3, .int (nI w))]) hx hb dX8_read_5 hl (by decide) rfl (fun ls hl => ?_)
  refine lv_aload hx hb dX8_read_7 (lv_at hl 0 rfl) ?_
  refine lv_iload_n hx hb dX8_read_9 rfl (lv_at hl 4 rfl) ?_
  refine m_callSE (As := [.ref (ad pp), .int (nI w)]) (rest := []) ((by have h9 := c_X_textOf0_t l D ty L ad g pp pt vn (nI f) wd lg tf w m_pp m_pt h_pp h_pt hw4; rw [htf] at h9; exact h9 : m_E l yX8_textOf wsX8_textOf 2 42 D ty [.ref (ad pp), .int (nI w)] L ad g (some (.ref (ad t))) g)) ⟨hx, hb, hml, hown, hts⟩ (va_cwS 2 hts gX8_read_X8_textOf rfl rfl rfl (by decide +kernel) ⟨Nat.le_of_ble_eq_true rfl, Nat.le_of_ble_eq_true rfl⟩) hB rfl hl.1 rfl (Nat.le_of_ble_eq_true rfl) dX8_read_10 ⟨Nat.le_of_ble_eq_true rfl, Nat.le_of_ble_eq_true rfl⟩ (fun H locs hB => ?_)
  refine lv_astore (lv' := [(5, .ref (ad t)), (4, .ref (ad pp)), (0, .ref (ad 0)), (1, .int (nI b)), (2, .int (nI k)), (3, .int (nI w))]) hx hb dX8_read_13 hl (by decide) rfl (fun ls hl => ?_)
  refine lv_aload_n hx hb dX8_read_15 rfl (lv_at hl 2 rfl) ?_
  refine lv_iload_n hx hb dX8_read_16 rfl (lv_at hl 3 rfl) ?_
  refine m_callVE (ci := 8) (As := [.int (nI b)]) (rest := []) ((by have h9 := c_X_lastView_t l D ty L ad g pn qn nw tr vf b m_0 m_7 h_0 h_7 hb6; rw [hvr] at h9; exact h9 : m_E l yX8_lastViewOf wsX8_lastViewOf 1 21 D ty [.ref (ad 0), .int (nI b)] L ad g (some (.ref (ad r))) g)) ⟨hx, hb, hml, hown, hts⟩ (cwV 1 hts gX8_read_X8_lastViewOf rfl rfl rfl (by decide +kernel) ⟨Nat.le_of_ble_eq_true rfl, Nat.le_of_ble_eq_true rfl⟩) hB m_0 h_0 rfl rfl hl.1 rfl (Nat.le_of_ble_eq_true rfl) dX8_read_17 ⟨Nat.le_of_ble_eq_true rfl, Nat.le_of_ble_eq_true rfl⟩ (fun H locs hB => ?_)
  refine lv_astore (lv' := [(6, .ref (ad r)), (5, .ref (ad t)), (4, .ref (ad pp)), (0, .ref (ad 0)), (1, .int (nI b)), (2, .int (nI k)), (3, .int (nI w))]) hx hb dX8_read_20 hl (by decide) rfl (fun ls hl => ?_)
  refine lv_aload hx hb dX8_read_22 (lv_at hl 2 rfl) ?_
  refine lv_ifnull hx hb dX8_read_24 ?_
  refine lv_aload hx hb dX8_read_27 (lv_at hl 1 rfl) ?_
  refine lv_ifnull hx hb dX8_read_29 ?_
  refine lv_aload hx hb dX8_read_32 (lv_at hl 0 rfl) ?_
  refine lv_ifnonnull (tgt := 39) hx hb dX8_read_34 (by decide) ?_
  refine lv_aload_n hx hb dX8_read_39 rfl (lv_at hl 3 rfl) ?_
  refine lv_aload hx hb dX8_read_40 (lv_at hl 2 rfl) ?_
  refine lv_iload_n hx hb dX8_read_42 rfl (lv_at hl 4 rfl) ?_
  refine m_callVE (ci := 8) (As := [.ref (ad pp), .int (nI b)]) (rest := []) (c_X_isOpen0 l D ty L ad g pn qn nw tr fs fe pp pt vn wd lg b f m_0 m_3 m_4 m_5 m_pp h_0 h_3 h_4 h_5 h_pp hb6 hf4 hwd) ⟨hx, hb, hml, hown, hts⟩ (cwV 2 hts gX8_read_X8_isOpen rfl rfl rfl (by decide +kernel) ⟨Nat.le_of_ble_eq_true rfl, Nat.le_of_ble_eq_true rfl⟩) hB m_0 h_0 rfl rfl hl.1 rfl (Nat.le_of_ble_eq_true rfl) dX8_read_43 ⟨Nat.le_of_ble_eq_true rfl, Nat.le_of_ble_eq_true rfl⟩ (fun H locs hB => ?_)
  refine b_if_ne_t 52 hx hb dX8_read_46 (by decide) (by rw [hs]; decide) ?_
  refine lv_aload hx hb dX8_read_52 (lv_at hl 2 rfl) ?_
  refine lv_iload_n hx hb dX8_read_54 rfl (lv_at hl 4 rfl) ?_
  refine lv_aload hx hb dX8_read_55 (lv_at hl 1 rfl) ?_
  refine lv_aload hx hb dX8_read_57 (lv_at hl 0 rfl) ?_
  refine m_callUZ (ci := 0) (As := [.int (nI b), .ref (ad t), .ref (ad r)]) (rest := []) (c_Paper_copy l D ty L ad g pp (nI b) t ro a bl n bs bk r ra n0 bs0 fv m_t m_ro m_a m_bl m_r m_ra h_t h_ro h_a h_bl h_r h_ra hn40 hbk hfv h8 (by omega) (by omega) (by omega) (by omega) (by omega) (by omega) (by omega) (by omega) (by omega)) ⟨hx, hb, hml, hown, hts⟩ (va_cwU 3 hts gX8_read_X2_copyFor_u158X0 rfl rfl rfl rfl (by decide +kernel) ⟨Nat.le_of_ble_eq_true rfl, Nat.le_of_ble_eq_true rfl⟩) hB m_pp h_pp rfl rfl hl.1 rfl (Nat.le_of_ble_eq_true rfl) dX8_read_59 ⟨Nat.le_of_ble_eq_true rfl, Nat.le_of_ble_eq_true rfl⟩ (fun H locs hB => ?_)
  replace hB : m_B D ty A s L ad (va_up (va_up g ra (.inl (ty 2, 80, .inl (mkF false (nI b) fv bs0 n)))) r (.inr (5, [.ref (ad ra), .int (nI (mkN false (nI b) fv n))]))) H locs := hB
  refine lv_aload_n hx hb dX8_read_62 rfl (lv_at hl 3 rfl) ?_
  refine m_get (C := RX8) (T := TX8) (N := 12) (ci := 8) hx hb hts in_X8_read_X8 hown hB m_0 ((va_up_ne _ _ (by omega)).trans ((va_up_ne _ _ (by omega)).trans h_0)) rfl 6 (by decide) (hts (.fieldLink RX8 41 "PaperRoom" "seen" "LPaperRoom$Seen;") (by decide +kernel)) (fun _ h9 => h9) rfl dX8_read_63 ?_
  refine lv_aload_n hx hb dX8_read_66 rfl (lv_at hl 3 rfl) ?_
  refine m_get (C := RX8) (T := TX8) (N := 12) (ci := 8) hx hb hts in_X8_read_X8 hown hB m_0 ((va_up_ne _ _ (by omega)).trans ((va_up_ne _ _ (by omega)).trans h_0)) rfl 10 (by decide) (hts (.fieldLink RX8 122 "PaperRoom" "now" "I") (by decide +kernel)) (fun _ h9 => h9) rfl dX8_read_67 ?_
  refine lv_iload_n hx hb dX8_read_70 rfl (lv_at hl 4 rfl) ?_
  refine lv_iload_n hx hb dX8_read_71 rfl (lv_at hl 5 rfl) ?_
  refine lv_iload_n hx hb dX8_read_72 rfl (lv_at hl 6 rfl) ?_
  refine m_callVZ (ci := 6) (As := [.int nw, .int (nI b), .int (nI k), .int (nI w)]) (rest := []) (c_Seen_note_full l D ty L ad _ 22 23 24 25 26 27 en lo nw (nI b) (nI k) (nI w) m_22 ((va_up_ne _ _ (by omega)).trans ((va_up_ne _ _ (by omega)).trans h_22)) hen) ⟨hx, hb, hml, hown, hts⟩ (cwV 4 hts gX8_read_X6_note rfl rfl rfl (by decide +kernel) ⟨Nat.le_of_ble_eq_true rfl, Nat.le_of_ble_eq_true rfl⟩) hB m_22 ((va_up_ne _ _ (by omega)).trans ((va_up_ne _ _ (by omega)).trans h_22)) rfl rfl hl.1 rfl (Nat.le_of_ble_eq_true rfl) dX8_read_73 ⟨Nat.le_of_ble_eq_true rfl, Nat.le_of_ble_eq_true rfl⟩ (fun H locs hB => ?_)
  replace hB : m_B D ty A s L ad (va_up (va_up (va_up g ra (.inl (ty 2, 80, .inl (mkF false (nI b) fv bs0 n)))) r (.inr (5, [.ref (ad ra), .int (nI (mkN false (nI b) fv n))]))) 22 (.inr (6, [.ref (ad 23), .ref (ad 24), .ref (ad 25), .ref (ad 26), .ref (ad 27), .int (nI en), .int (lo + 1)]))) H locs := hB
  refine lv_aload hx hb dX8_read_76 (lv_at hl 0 rfl) ?_
  refine m_callVE (ci := 5) (As := []) (rest := []) (c_Row_length l D ty L ad _ r ra (mkN false (nI b) fv n) m_r ((va_up_ne _ _ (by omega)).trans (va_up_self _ _ _))) ⟨hx, hb, hml, hown, hts⟩ (cwV 0 hts gX8_read_X5_length rfl rfl rfl (by decide +kernel) ⟨Nat.le_of_ble_eq_true rfl, Nat.le_of_ble_eq_true rfl⟩) hB m_r ((va_up_ne _ _ (by omega)).trans (va_up_self _ _ _)) rfl rfl hl.1 rfl (Nat.le_of_ble_eq_true rfl) dX8_read_78 ⟨Nat.le_of_ble_eq_true rfl, Nat.le_of_ble_eq_true rfl⟩ (fun H locs hB => ?_)
  exact m_iret hx hb hrt hlocks hB (Nat.le_refl _) (Nat.le_refl _) dX8_read_81 ⟨rfl, rfl, rfl, rfl⟩
set_option maxHeartbeats 1000000 in
set_option maxRecDepth 100000 in
theorem c_X_read0_ok0 (l : Launch) (D : va_G) (ty : Nat → ClassId) (L : List Nat) (ad : Nat → Nat) (g : Nat → va_E) (pn qn : Nat) (nw : Int32) (tr : Int64) (pf : Nat → Option Nat) (vf : Nat → Option Nat) (r ra n0 b : Nat) (bs0 : Nat → Int32) (fs fe : Nat → Int32) (pp pt vn : Nat) (wd : Int32) (lg : Int32) (tf : Nat → Option Nat) (k f w t ro a bl n : Nat) (bs bk : Nat → Int32) (fv : Nat → Int32) (en : Nat) (lo : Int32) (f0 f1 f2 f3 : Nat → Int32) (f4 : Nat → Int64) (m_0 : 0 ∈ L) (m_3 : 3 ∈ L) (m_4 : 4 ∈ L) (m_5 : 5 ∈ L) (m_6 : 6 ∈ L) (m_7 : 7 ∈ L) (m_r : r ∈ L) (m_ra : ra ∈ L) (m_pp : pp ∈ L) (m_pt : pt ∈ L) (m_t : t ∈ L) (m_ro : ro ∈ L) (m_a : a ∈ L) (m_bl : bl ∈ L) (m_22 : 22 ∈ L) (m_23 : 23 ∈ L) (m_24 : 24 ∈ L) (m_25 : 25 ∈ L) (m_26 : 26 ∈ L) (m_27 : 27 ∈ L) (h_0 : g 0 = .inr (8, [.ref (ad 1), .ref (ad 3), .ref (ad 6), .int (nI pn), .ref (ad 7), .ref (ad 20), .ref (ad 22), .ref (ad 28), .int (nI qn), .ref (ad 29), .int nw, .long tr])) (h_3 : g 3 = .inr (4, [.ref (ad 4), .ref (ad 5)])) (h_4 : g 4 = .inl (ty 0, 12, .inl fs)) (h_5 : g 5 = .inl (ty 0, 12, .inl fe)) (h_6 : g 6 = .inl (ty 4, 8, .inr (.inr (.inr (.inr pf))))) (h_7 : g 7 = .inl (ty 6, 6, .inr (.inr (.inr (.inr vf))))) (h_r : g r = .inr (5, [.ref (ad ra), .int (nI n0)])) (h_ra : g ra = .inl (ty 2, 80, .inl bs0)) (h_pp : g pp = .inr (0, [.int (nI f), .ref (ad pt), .int (nI vn), .int wd, .int lg])) (h_pt : g pt = .inl (ty 7, 4, .inr (.inr (.inr (.inr tf))))) (h_t : g t = .inr (7, [.ref (ad ro), .ref (ad bl)])) (h_ro : g ro = .inr (5, [.ref (ad a), .int (nI n)])) (h_a : g a = .inl (ty 2, n, .inl bs)) (h_bl : g bl = .inl (ty 3, n, .inl bk)) (h_22 : g 22 = .inr (6, [.ref (ad 23), .ref (ad 24), .ref (ad 25), .ref (ad 26), .ref (ad 27), .int (nI en), .int lo])) (h_23 : g 23 = .inl (ty 0, 200, .inl f0)) (h_24 : g 24 = .inl (ty 0, 200, .inl f1)) (h_25 : g 25 = .inl (ty 0, 200, .inl f2)) (h_26 : g 26 = .inl (ty 0, 200, .inl f3)) (h_27 : g 27 = .inl (ty 1, 200, .inr (.inl f4))) (hb6 : b < 6) (hvr : vf b = some (ad r)) (hk : k < 8) (hpp : pf k = some (ad pp)) (hw4 : w < 4) (htf : tf w = some (ad t)) (hf4 : f < 4) (hwd : wd = 0 ∨ wd = 1) (hs : (opn wd fs fe (b % 3 * 4 + f) nw && decide (lg.toInt ≤ nw.toInt)) = true) (hn40 : n ≤ 40) (hbk : ∀ i, i < n → bk i = 0 ∨ bk i = 1) (hfv : ∀ i, i < n → fv i = pl (bs i) (bk i)) (h8 : ∀ i, i < n → (fv i).toInt8.toInt32 = fv i) (hr8 : 8 ≤ r ∧ r < 14) (hra8 : 14 ≤ ra ∧ ra < 20) (hb_pp : 30 ≤ pp) (hb_pt : 30 ≤ pt) (hb_t : 30 ≤ t) (hb_ro : 30 ≤ ro) (hb_a : 30 ≤ a) (hb_bl : 30 ≤ bl) (hen : en = 0) : m_E l yX8_read wsX8_read 5 113 D ty [.ref (ad 0), .int (nI b), .int (nI k), .int (nI w)] L ad g (some (.int (nI (mkN false (nI b) fv n)))) (va_up (va_up (va_up (va_up (va_up (va_up (va_up (va_up g ra (.inl (ty 2, 80, .inl (mkF false (nI b) fv bs0 n)))) r (.inr (5, [.ref (ad ra), .int (nI (mkN false (nI b) fv n))]))) 23 (.inl (ty 0, 200, .inl (upd f0 en nw)))) 24 (.inl (ty 0, 200, .inl (upd f1 en (nI b))))) 25 (.inl (ty 0, 200, .inl (upd f2 en (nI k))))) 26 (.inl (ty 0, 200, .inl (upd f3 en (nI w))))) 27 (.inl (ty 1, 200, .inr (.inl (vp_updL f4 en (lk (7) nw (nI b) (nI k) (nI w))))))) 22 (.inr (6, [.ref (ad 23), .ref (ad 24), .ref (ad 25), .ref (ad 26), .ref (ad 27), .int (nI (en + 1)), .int lo]))) := by
  intro sz
  refine Met.ofW (cc := cX8_read) (maxL := 7) (ret := (some .int)) (by decide) rfl ?_
  intro p e s m args below meth c s₁ B hml hv
  have hx := B.exec
  have hb := B.bytes
  have hrt := B.returns
  have hts := atoms_spec (ws := wsX8_read) B.pre
  have hown : s.vm.findClass RX8 = some m.cls := findClass_of_methodNamed B.named
  have hlocks := B.notSynchronized
  obtain ⟨rfl, hB⟩ := m_start hv
  generalize va_A (m_w L ad g) sz = A at hB ⊢
  generalize s.heap = H at hB ⊢
  generalize ([] : List Loc) = locs at hB ⊢
  have hl := lv_entry ([.ref (ad 0), .int (nI b), .int (nI k), .int (nI w)]) (n := 7) (Nat.le_of_ble_eq_true rfl)
  rw [lg_entry_eq]
  generalize (lg_sl ([.ref (ad 0), .int (nI b), .int (nI k), .int (nI w)]) ++ List.replicate (7 - (lg_sl ([.ref (ad 0), .int (nI b), .int (nI k), .int (nI w)])).length) Slot.unset).toArray = ls at hl ⊢
  have hl : lv_has ls 7 [(0, .ref (ad 0)), (1, .int (nI b)), (2, .int (nI k)), (3, .int (nI w))] := hl
  refine lv_aload_n hx hb dX8_read_0 rfl (lv_at hl 0 rfl) ?_
  refine lv_iload_n hx hb dX8_read_1 rfl (lv_at hl 2 rfl) ?_
  refine m_callVE (ci := 8) (As := [.int (nI k)]) (rest := []) ((by have h9 := c_X_paperNumber_t l D ty L ad g pn qn nw tr pf k m_0 m_6 h_0 h_6 hk; rw [hpp] at h9; exact h9 : m_E l yX8_paperNumber wsX8_paperNumber 1 21 D ty [.ref (ad 0), .int (nI k)] L ad g (some (.ref (ad pp))) g)) ⟨hx, hb, hml, hown, hts⟩ (cwV 1 hts gX8_read_X8_paperNumber rfl rfl rfl (by decide +kernel) ⟨Nat.le_of_ble_eq_true rfl, Nat.le_of_ble_eq_true rfl⟩) hB m_0 h_0 rfl rfl hl.1 rfl (Nat.le_of_ble_eq_true rfl) dX8_read_2 ⟨Nat.le_of_ble_eq_true rfl, Nat.le_of_ble_eq_true rfl⟩ (fun H locs hB => ?_)
  refine lv_astore (lv' := [(4, .ref (ad pp)), (0, .ref (ad 0)), (1, .int (nI b)), (2, .int (nI k)), (3, .int (nI w))]) hx hb dX8_read_5 hl (by decide) rfl (fun ls hl => ?_)
  refine lv_aload hx hb dX8_read_7 (lv_at hl 0 rfl) ?_
  refine lv_iload_n hx hb dX8_read_9 rfl (lv_at hl 4 rfl) ?_
  refine m_callSE (As := [.ref (ad pp), .int (nI w)]) (rest := []) ((by have h9 := c_X_textOf0_t l D ty L ad g pp pt vn (nI f) wd lg tf w m_pp m_pt h_pp h_pt hw4; rw [htf] at h9; exact h9 : m_E l yX8_textOf wsX8_textOf 2 42 D ty [.ref (ad pp), .int (nI w)] L ad g (some (.ref (ad t))) g)) ⟨hx, hb, hml, hown, hts⟩ (va_cwS 2 hts gX8_read_X8_textOf rfl rfl rfl (by decide +kernel) ⟨Nat.le_of_ble_eq_true rfl, Nat.le_of_ble_eq_true rfl⟩) hB rfl hl.1 rfl (Nat.le_of_ble_eq_true rfl) dX8_read_10 ⟨Nat.le_of_ble_eq_true rfl, Nat.le_of_ble_eq_true rfl⟩ (fun H locs hB => ?_)
  refine lv_astore (lv' := [(5, .ref (ad t)), (4, .ref (ad pp)), (0, .ref (ad 0)), (1, .int (nI b)), (2, .int (nI k)), (3, .int (nI w))]) hx hb dX8_read_13 hl (by decide) rfl (fun ls hl => ?_)
  refine lv_aload_n hx hb dX8_read_15 rfl (lv_at hl 2 rfl) ?_
  refine lv_iload_n hx hb dX8_read_16 rfl (lv_at hl 3 rfl) ?_
  refine m_callVE (ci := 8) (As := [.int (nI b)]) (rest := []) ((by have h9 := c_X_lastView_t l D ty L ad g pn qn nw tr vf b m_0 m_7 h_0 h_7 hb6; rw [hvr] at h9; exact h9 : m_E l yX8_lastViewOf wsX8_lastViewOf 1 21 D ty [.ref (ad 0), .int (nI b)] L ad g (some (.ref (ad r))) g)) ⟨hx, hb, hml, hown, hts⟩ (cwV 1 hts gX8_read_X8_lastViewOf rfl rfl rfl (by decide +kernel) ⟨Nat.le_of_ble_eq_true rfl, Nat.le_of_ble_eq_true rfl⟩) hB m_0 h_0 rfl rfl hl.1 rfl (Nat.le_of_ble_eq_true rfl) dX8_read_17 ⟨Nat.le_of_ble_eq_true rfl, Nat.le_of_ble_eq_true rfl⟩ (fun H locs hB => ?_)
  refine lv_astore (lv' := [(6, .ref (ad r)), (5, .ref (ad t)), (4, .ref (ad pp)), (0, .ref (ad 0)), (1, .int (nI b)), (2, .int (nI k)), (3, .int (nI w))]) hx hb dX8_read_20 hl (by decide) rfl (fun ls hl => ?_)
  refine lv_aload hx hb dX8_read_22 (lv_at hl 2 rfl) ?_
  refine lv_ifnull hx hb dX8_read_24 ?_
  refine lv_aload hx hb dX8_read_27 (lv_at hl 1 rfl) ?_
  refine lv_ifnull hx hb dX8_read_29 ?_
  refine lv_aload hx hb dX8_read_32 (lv_at hl 0 rfl) ?_
  refine lv_ifnonnull (tgt := 39) hx hb dX8_read_34 (by decide) ?_
  refine lv_aload_n hx hb dX8_read_39 rfl (lv_at hl 3 rfl) ?_
  refine lv_aload hx hb dX8_read_40 (lv_at hl 2 rfl) ?_
  refine lv_iload_n hx hb dX8_read_42 rfl (lv_at hl 4 rfl) ?_
  refine m_callVE (ci := 8) (As := [.ref (ad pp), .int (nI b)]) (rest := []) (c_X_isOpen0 l D ty L ad g pn qn nw tr fs fe pp pt vn wd lg b f m_0 m_3 m_4 m_5 m_pp h_0 h_3 h_4 h_5 h_pp hb6 hf4 hwd) ⟨hx, hb, hml, hown, hts⟩ (cwV 2 hts gX8_read_X8_isOpen rfl rfl rfl (by decide +kernel) ⟨Nat.le_of_ble_eq_true rfl, Nat.le_of_ble_eq_true rfl⟩) hB m_0 h_0 rfl rfl hl.1 rfl (Nat.le_of_ble_eq_true rfl) dX8_read_43 ⟨Nat.le_of_ble_eq_true rfl, Nat.le_of_ble_eq_true rfl⟩ (fun H locs hB => ?_)
  refine b_if_ne_t 52 hx hb dX8_read_46 (by decide) (by rw [hs]; decide) ?_
  refine lv_aload hx hb dX8_read_52 (lv_at hl 2 rfl) ?_
  refine lv_iload_n hx hb dX8_read_54 rfl (lv_at hl 4 rfl) ?_
  refine lv_aload hx hb dX8_read_55 (lv_at hl 1 rfl) ?_
  refine lv_aload hx hb dX8_read_57 (lv_at hl 0 rfl) ?_
  refine m_callUZ (ci := 0) (As := [.int (nI b), .ref (ad t), .ref (ad r)]) (rest := []) (c_Paper_copy l D ty L ad g pp (nI b) t ro a bl n bs bk r ra n0 bs0 fv m_t m_ro m_a m_bl m_r m_ra h_t h_ro h_a h_bl h_r h_ra hn40 hbk hfv h8 (by omega) (by omega) (by omega) (by omega) (by omega) (by omega) (by omega) (by omega) (by omega)) ⟨hx, hb, hml, hown, hts⟩ (va_cwU 3 hts gX8_read_X2_copyFor_u158X0 rfl rfl rfl rfl (by decide +kernel) ⟨Nat.le_of_ble_eq_true rfl, Nat.le_of_ble_eq_true rfl⟩) hB m_pp h_pp rfl rfl hl.1 rfl (Nat.le_of_ble_eq_true rfl) dX8_read_59 ⟨Nat.le_of_ble_eq_true rfl, Nat.le_of_ble_eq_true rfl⟩ (fun H locs hB => ?_)
  replace hB : m_B D ty A s L ad (va_up (va_up g ra (.inl (ty 2, 80, .inl (mkF false (nI b) fv bs0 n)))) r (.inr (5, [.ref (ad ra), .int (nI (mkN false (nI b) fv n))]))) H locs := hB
  refine lv_aload_n hx hb dX8_read_62 rfl (lv_at hl 3 rfl) ?_
  refine m_get (C := RX8) (T := TX8) (N := 12) (ci := 8) hx hb hts in_X8_read_X8 hown hB m_0 ((va_up_ne _ _ (by omega)).trans ((va_up_ne _ _ (by omega)).trans h_0)) rfl 6 (by decide) (hts (.fieldLink RX8 41 "PaperRoom" "seen" "LPaperRoom$Seen;") (by decide +kernel)) (fun _ h9 => h9) rfl dX8_read_63 ?_
  refine lv_aload_n hx hb dX8_read_66 rfl (lv_at hl 3 rfl) ?_
  refine m_get (C := RX8) (T := TX8) (N := 12) (ci := 8) hx hb hts in_X8_read_X8 hown hB m_0 ((va_up_ne _ _ (by omega)).trans ((va_up_ne _ _ (by omega)).trans h_0)) rfl 10 (by decide) (hts (.fieldLink RX8 122 "PaperRoom" "now" "I") (by decide +kernel)) (fun _ h9 => h9) rfl dX8_read_67 ?_
  refine lv_iload_n hx hb dX8_read_70 rfl (lv_at hl 4 rfl) ?_
  refine lv_iload_n hx hb dX8_read_71 rfl (lv_at hl 5 rfl) ?_
  refine lv_iload_n hx hb dX8_read_72 rfl (lv_at hl 6 rfl) ?_
  refine m_callVZ (ci := 6) (As := [.int nw, .int (nI b), .int (nI k), .int (nI w)]) (rest := []) (c_Seen_note_0 l D ty L ad _ 22 23 24 25 26 27 en lo f0 f1 f2 f3 f4 nw (nI b) (nI k) (nI w) m_22 m_23 m_24 m_25 m_26 m_27 ((va_up_ne _ _ (by omega)).trans ((va_up_ne _ _ (by omega)).trans h_22)) ((va_up_ne _ _ (by omega)).trans ((va_up_ne _ _ (by omega)).trans h_23)) ((va_up_ne _ _ (by omega)).trans ((va_up_ne _ _ (by omega)).trans h_24)) ((va_up_ne _ _ (by omega)).trans ((va_up_ne _ _ (by omega)).trans h_25)) ((va_up_ne _ _ (by omega)).trans ((va_up_ne _ _ (by omega)).trans h_26)) ((va_up_ne _ _ (by omega)).trans ((va_up_ne _ _ (by omega)).trans h_27)) hen (by decide) (by decide) (by decide) (by decide) (by decide) (by decide) (by decide) (by decide) (by decide) (by decide) (by decide) (by decide) (by decide) (by decide) (by decide)) ⟨hx, hb, hml, hown, hts⟩ (cwV 4 hts gX8_read_X6_note rfl rfl rfl (by decide +kernel) ⟨Nat.le_of_ble_eq_true rfl, Nat.le_of_ble_eq_true rfl⟩) hB m_22 ((va_up_ne _ _ (by omega)).trans ((va_up_ne _ _ (by omega)).trans h_22)) rfl rfl hl.1 rfl (Nat.le_of_ble_eq_true rfl) dX8_read_73 ⟨Nat.le_of_ble_eq_true rfl, Nat.le_of_ble_eq_true rfl⟩ (fun H locs hB => ?_)
  replace hB : m_B D ty A s L ad (va_up (va_up (va_up (va_up (va_up (va_up (va_up (va_up g ra (.inl (ty 2, 80, .inl (mkF false (nI b) fv bs0 n)))) r (.inr (5, [.ref (ad ra), .int (nI (mkN false (nI b) fv n))]))) 23 (.inl (ty 0, 200, .inl (upd f0 en nw)))) 24 (.inl (ty 0, 200, .inl (upd f1 en (nI b))))) 25 (.inl (ty 0, 200, .inl (upd f2 en (nI k))))) 26 (.inl (ty 0, 200, .inl (upd f3 en (nI w))))) 27 (.inl (ty 1, 200, .inr (.inl (vp_updL f4 en (lk (7) nw (nI b) (nI k) (nI w))))))) 22 (.inr (6, [.ref (ad 23), .ref (ad 24), .ref (ad 25), .ref (ad 26), .ref (ad 27), .int (nI (en + 1)), .int lo]))) H locs := hB
  refine lv_aload hx hb dX8_read_76 (lv_at hl 0 rfl) ?_
  refine m_callVE (ci := 5) (As := []) (rest := []) (c_Row_length l D ty L ad _ r ra (mkN false (nI b) fv n) m_r ((va_up_ne _ _ (by omega)).trans ((va_up_ne _ _ (by omega)).trans ((va_up_ne _ _ (by omega)).trans ((va_up_ne _ _ (by omega)).trans ((va_up_ne _ _ (by omega)).trans ((va_up_ne _ _ (by omega)).trans (va_up_self _ _ _)))))))) ⟨hx, hb, hml, hown, hts⟩ (cwV 0 hts gX8_read_X5_length rfl rfl rfl (by decide +kernel) ⟨Nat.le_of_ble_eq_true rfl, Nat.le_of_ble_eq_true rfl⟩) hB m_r ((va_up_ne _ _ (by omega)).trans ((va_up_ne _ _ (by omega)).trans ((va_up_ne _ _ (by omega)).trans ((va_up_ne _ _ (by omega)).trans ((va_up_ne _ _ (by omega)).trans ((va_up_ne _ _ (by omega)).trans (va_up_self _ _ _))))))) rfl rfl hl.1 rfl (Nat.le_of_ble_eq_true rfl) dX8_read_78 ⟨Nat.le_of_ble_eq_true rfl, Nat.le_of_ble_eq_true rfl⟩ (fun H locs hB => ?_)
  exact m_iret hx hb hrt hlocks hB (Nat.le_refl _) (Nat.le_refl _) dX8_read_81 ⟨rfl, rfl, rfl, rfl⟩
set_option maxHeartbeats 1000000 in
set_option maxRecDepth 100000 in
theorem c_X_read0_ok1 (l : Launch) (D : va_G) (ty : Nat → ClassId) (L : List Nat) (ad : Nat → Nat) (g : Nat → va_E) (pn qn : Nat) (nw : Int32) (tr : Int64) (pf : Nat → Option Nat) (vf : Nat → Option Nat) (r ra n0 b : Nat) (bs0 : Nat → Int32) (fs fe : Nat → Int32) (pp pt vn : Nat) (wd : Int32) (lg : Int32) (tf : Nat → Option Nat) (k f w t ro a bl n : Nat) (bs bk : Nat → Int32) (fv : Nat → Int32) (en : Nat) (lo : Int32) (f0 f1 f2 f3 : Nat → Int32) (f4 : Nat → Int64) (m_0 : 0 ∈ L) (m_3 : 3 ∈ L) (m_4 : 4 ∈ L) (m_5 : 5 ∈ L) (m_6 : 6 ∈ L) (m_7 : 7 ∈ L) (m_r : r ∈ L) (m_ra : ra ∈ L) (m_pp : pp ∈ L) (m_pt : pt ∈ L) (m_t : t ∈ L) (m_ro : ro ∈ L) (m_a : a ∈ L) (m_bl : bl ∈ L) (m_22 : 22 ∈ L) (m_23 : 23 ∈ L) (m_24 : 24 ∈ L) (m_25 : 25 ∈ L) (m_26 : 26 ∈ L) (m_27 : 27 ∈ L) (h_0 : g 0 = .inr (8, [.ref (ad 1), .ref (ad 3), .ref (ad 6), .int (nI pn), .ref (ad 7), .ref (ad 20), .ref (ad 22), .ref (ad 28), .int (nI qn), .ref (ad 29), .int nw, .long tr])) (h_3 : g 3 = .inr (4, [.ref (ad 4), .ref (ad 5)])) (h_4 : g 4 = .inl (ty 0, 12, .inl fs)) (h_5 : g 5 = .inl (ty 0, 12, .inl fe)) (h_6 : g 6 = .inl (ty 4, 8, .inr (.inr (.inr (.inr pf))))) (h_7 : g 7 = .inl (ty 6, 6, .inr (.inr (.inr (.inr vf))))) (h_r : g r = .inr (5, [.ref (ad ra), .int (nI n0)])) (h_ra : g ra = .inl (ty 2, 80, .inl bs0)) (h_pp : g pp = .inr (0, [.int (nI f), .ref (ad pt), .int (nI vn), .int wd, .int lg])) (h_pt : g pt = .inl (ty 7, 4, .inr (.inr (.inr (.inr tf))))) (h_t : g t = .inr (7, [.ref (ad ro), .ref (ad bl)])) (h_ro : g ro = .inr (5, [.ref (ad a), .int (nI n)])) (h_a : g a = .inl (ty 2, n, .inl bs)) (h_bl : g bl = .inl (ty 3, n, .inl bk)) (h_22 : g 22 = .inr (6, [.ref (ad 23), .ref (ad 24), .ref (ad 25), .ref (ad 26), .ref (ad 27), .int (nI en), .int lo])) (h_23 : g 23 = .inl (ty 0, 200, .inl f0)) (h_24 : g 24 = .inl (ty 0, 200, .inl f1)) (h_25 : g 25 = .inl (ty 0, 200, .inl f2)) (h_26 : g 26 = .inl (ty 0, 200, .inl f3)) (h_27 : g 27 = .inl (ty 1, 200, .inr (.inl f4))) (hb6 : b < 6) (hvr : vf b = some (ad r)) (hk : k < 8) (hpp : pf k = some (ad pp)) (hw4 : w < 4) (htf : tf w = some (ad t)) (hf4 : f < 4) (hwd : wd = 0 ∨ wd = 1) (hs : (opn wd fs fe (b % 3 * 4 + f) nw && decide (lg.toInt ≤ nw.toInt)) = true) (hn40 : n ≤ 40) (hbk : ∀ i, i < n → bk i = 0 ∨ bk i = 1) (hfv : ∀ i, i < n → fv i = pl (bs i) (bk i)) (h8 : ∀ i, i < n → (fv i).toInt8.toInt32 = fv i) (hr8 : 8 ≤ r ∧ r < 14) (hra8 : 14 ≤ ra ∧ ra < 20) (hb_pp : 30 ≤ pp) (hb_pt : 30 ≤ pt) (hb_t : 30 ≤ t) (hb_ro : 30 ≤ ro) (hb_a : 30 ≤ a) (hb_bl : 30 ≤ bl) (he0 : 0 < en) (hen : en < 200) : m_E l yX8_read wsX8_read 5 113 D ty [.ref (ad 0), .int (nI b), .int (nI k), .int (nI w)] L ad g (some (.int (nI (mkN false (nI b) fv n)))) (va_up (va_up (va_up (va_up (va_up (va_up (va_up (va_up g ra (.inl (ty 2, 80, .inl (mkF false (nI b) fv bs0 n)))) r (.inr (5, [.ref (ad ra), .int (nI (mkN false (nI b) fv n))]))) 23 (.inl (ty 0, 200, .inl (upd f0 en nw)))) 24 (.inl (ty 0, 200, .inl (upd f1 en (nI b))))) 25 (.inl (ty 0, 200, .inl (upd f2 en (nI k))))) 26 (.inl (ty 0, 200, .inl (upd f3 en (nI w))))) 27 (.inl (ty 1, 200, .inr (.inl (vp_updL f4 en (lk (f4 (en - 1)) nw (nI b) (nI k) (nI w))))))) 22 (.inr (6, [.ref (ad 23), .ref (ad 24), .ref (ad 25), .ref (ad 26), .ref (ad 27), .int (nI (en + 1)), .int lo]))) := by
  intro sz
  refine Met.ofW (cc := cX8_read) (maxL := 7) (ret := (some .int)) (by decide) rfl ?_
  intro p e s m args below meth c s₁ B hml hv
  have hx := B.exec
  have hb := B.bytes
  have hrt := B.returns
  have hts := atoms_spec (ws := wsX8_read) B.pre
  have hown : s.vm.findClass RX8 = some m.cls := findClass_of_methodNamed B.named
  have hlocks := B.notSynchronized
  obtain ⟨rfl, hB⟩ := m_start hv
  generalize va_A (m_w L ad g) sz = A at hB ⊢
  generalize s.heap = H at hB ⊢
  generalize ([] : List Loc) = locs at hB ⊢
  have hl := lv_entry ([.ref (ad 0), .int (nI b), .int (nI k), .int (nI w)]) (n := 7) (Nat.le_of_ble_eq_true rfl)
  rw [lg_entry_eq]
  generalize (lg_sl ([.ref (ad 0), .int (nI b), .int (nI k), .int (nI w)]) ++ List.replicate (7 - (lg_sl ([.ref (ad 0), .int (nI b), .int (nI k), .int (nI w)])).length) Slot.unset).toArray = ls at hl ⊢
  have hl : lv_has ls 7 [(0, .ref (ad 0)), (1, .int (nI b)), (2, .int (nI k)), (3, .int (nI w))] := hl
  refine lv_aload_n hx hb dX8_read_0 rfl (lv_at hl 0 rfl) ?_
  refine lv_iload_n hx hb dX8_read_1 rfl (lv_at hl 2 rfl) ?_
  refine m_callVE (ci := 8) (As := [.int (nI k)]) (rest := []) ((by have h9 := c_X_paperNumber_t l D ty L ad g pn qn nw tr pf k m_0 m_6 h_0 h_6 hk; rw [hpp] at h9; exact h9 : m_E l yX8_paperNumber wsX8_paperNumber 1 21 D ty [.ref (ad 0), .int (nI k)] L ad g (some (.ref (ad pp))) g)) ⟨hx, hb, hml, hown, hts⟩ (cwV 1 hts gX8_read_X8_paperNumber rfl rfl rfl (by decide +kernel) ⟨Nat.le_of_ble_eq_true rfl, Nat.le_of_ble_eq_true rfl⟩) hB m_0 h_0 rfl rfl hl.1 rfl (Nat.le_of_ble_eq_true rfl) dX8_read_2 ⟨Nat.le_of_ble_eq_true rfl, Nat.le_of_ble_eq_true rfl⟩ (fun H locs hB => ?_)
  refine lv_astore (lv' := [(4, .ref (ad pp)), (0, .ref (ad 0)), (1, .int (nI b)), (2, .int (nI k)), (3, .int (nI w))]) hx hb dX8_read_5 hl (by decide) rfl (fun ls hl => ?_)
  refine lv_aload hx hb dX8_read_7 (lv_at hl 0 rfl) ?_
  refine lv_iload_n hx hb dX8_read_9 rfl (lv_at hl 4 rfl) ?_
  refine m_callSE (As := [.ref (ad pp), .int (nI w)]) (rest := []) ((by have h9 := c_X_textOf0_t l D ty L ad g pp pt vn (nI f) wd lg tf w m_pp m_pt h_pp h_pt hw4; rw [htf] at h9; exact h9 : m_E l yX8_textOf wsX8_textOf 2 42 D ty [.ref (ad pp), .int (nI w)] L ad g (some (.ref (ad t))) g)) ⟨hx, hb, hml, hown, hts⟩ (va_cwS 2 hts gX8_read_X8_textOf rfl rfl rfl (by decide +kernel) ⟨Nat.le_of_ble_eq_true rfl, Nat.le_of_ble_eq_true rfl⟩) hB rfl hl.1 rfl (Nat.le_of_ble_eq_true rfl) dX8_read_10 ⟨Nat.le_of_ble_eq_true rfl, Nat.le_of_ble_eq_true rfl⟩ (fun H locs hB => ?_)
  refine lv_astore (lv' := [(5, .ref (ad t)), (4, .ref (ad pp)), (0, .ref (ad 0)), (1, .int (nI b)), (2, .int (nI k)), (3, .int (nI w))]) hx hb dX8_read_13 hl (by decide) rfl (fun ls hl => ?_)
  refine lv_aload_n hx hb dX8_read_15 rfl (lv_at hl 2 rfl) ?_
  refine lv_iload_n hx hb dX8_read_16 rfl (lv_at hl 3 rfl) ?_
  refine m_callVE (ci := 8) (As := [.int (nI b)]) (rest := []) ((by have h9 := c_X_lastView_t l D ty L ad g pn qn nw tr vf b m_0 m_7 h_0 h_7 hb6; rw [hvr] at h9; exact h9 : m_E l yX8_lastViewOf wsX8_lastViewOf 1 21 D ty [.ref (ad 0), .int (nI b)] L ad g (some (.ref (ad r))) g)) ⟨hx, hb, hml, hown, hts⟩ (cwV 1 hts gX8_read_X8_lastViewOf rfl rfl rfl (by decide +kernel) ⟨Nat.le_of_ble_eq_true rfl, Nat.le_of_ble_eq_true rfl⟩) hB m_0 h_0 rfl rfl hl.1 rfl (Nat.le_of_ble_eq_true rfl) dX8_read_17 ⟨Nat.le_of_ble_eq_true rfl, Nat.le_of_ble_eq_true rfl⟩ (fun H locs hB => ?_)
  refine lv_astore (lv' := [(6, .ref (ad r)), (5, .ref (ad t)), (4, .ref (ad pp)), (0, .ref (ad 0)), (1, .int (nI b)), (2, .int (nI k)), (3, .int (nI w))]) hx hb dX8_read_20 hl (by decide) rfl (fun ls hl => ?_)
  refine lv_aload hx hb dX8_read_22 (lv_at hl 2 rfl) ?_
  refine lv_ifnull hx hb dX8_read_24 ?_
  refine lv_aload hx hb dX8_read_27 (lv_at hl 1 rfl) ?_
  refine lv_ifnull hx hb dX8_read_29 ?_
  refine lv_aload hx hb dX8_read_32 (lv_at hl 0 rfl) ?_
  refine lv_ifnonnull (tgt := 39) hx hb dX8_read_34 (by decide) ?_
  refine lv_aload_n hx hb dX8_read_39 rfl (lv_at hl 3 rfl) ?_
  refine lv_aload hx hb dX8_read_40 (lv_at hl 2 rfl) ?_
  refine lv_iload_n hx hb dX8_read_42 rfl (lv_at hl 4 rfl) ?_
  refine m_callVE (ci := 8) (As := [.ref (ad pp), .int (nI b)]) (rest := []) (c_X_isOpen0 l D ty L ad g pn qn nw tr fs fe pp pt vn wd lg b f m_0 m_3 m_4 m_5 m_pp h_0 h_3 h_4 h_5 h_pp hb6 hf4 hwd) ⟨hx, hb, hml, hown, hts⟩ (cwV 2 hts gX8_read_X8_isOpen rfl rfl rfl (by decide +kernel) ⟨Nat.le_of_ble_eq_true rfl, Nat.le_of_ble_eq_true rfl⟩) hB m_0 h_0 rfl rfl hl.1 rfl (Nat.le_of_ble_eq_true rfl) dX8_read_43 ⟨Nat.le_of_ble_eq_true rfl, Nat.le_of_ble_eq_true rfl⟩ (fun H locs hB => ?_)
  refine b_if_ne_t 52 hx hb dX8_read_46 (by decide) (by rw [hs]; decide) ?_
  refine lv_aload hx hb dX8_read_52 (lv_at hl 2 rfl) ?_
  refine lv_iload_n hx hb dX8_read_54 rfl (lv_at hl 4 rfl) ?_
  refine lv_aload hx hb dX8_read_55 (lv_at hl 1 rfl) ?_
  refine lv_aload hx hb dX8_read_57 (lv_at hl 0 rfl) ?_
  refine m_callUZ (ci := 0) (As := [.int (nI b), .ref (ad t), .ref (ad r)]) (rest := []) (c_Paper_copy l D ty L ad g pp (nI b) t ro a bl n bs bk r ra n0 bs0 fv m_t m_ro m_a m_bl m_r m_ra h_t h_ro h_a h_bl h_r h_ra hn40 hbk hfv h8 (by omega) (by omega) (by omega) (by omega) (by omega) (by omega) (by omega) (by omega) (by omega)) ⟨hx, hb, hml, hown, hts⟩ (va_cwU 3 hts gX8_read_X2_copyFor_u158X0 rfl rfl rfl rfl (by decide +kernel) ⟨Nat.le_of_ble_eq_true rfl, Nat.le_of_ble_eq_true rfl⟩) hB m_pp h_pp rfl rfl hl.1 rfl (Nat.le_of_ble_eq_true rfl) dX8_read_59 ⟨Nat.le_of_ble_eq_true rfl, Nat.le_of_ble_eq_true rfl⟩ (fun H locs hB => ?_)
  replace hB : m_B D ty A s L ad (va_up (va_up g ra (.inl (ty 2, 80, .inl (mkF false (nI b) fv bs0 n)))) r (.inr (5, [.ref (ad ra), .int (nI (mkN false (nI b) fv n))]))) H locs := hB
  refine lv_aload_n hx hb dX8_read_62 rfl (lv_at hl 3 rfl) ?_
  refine m_get (C := RX8) (T := TX8) (N := 12) (ci := 8) hx hb hts in_X8_read_X8 hown hB m_0 ((va_up_ne _ _ (by omega)).trans ((va_up_ne _ _ (by omega)).trans h_0)) rfl 6 (by decide) (hts (.fieldLink RX8 41 "PaperRoom" "seen" "LPaperRoom$Seen;") (by decide +kernel)) (fun _ h9 => h9) rfl dX8_read_63 ?_
  refine lv_aload_n hx hb dX8_read_66 rfl (lv_at hl 3 rfl) ?_
  refine m_get (C := RX8) (T := TX8) (N := 12) (ci := 8) hx hb hts in_X8_read_X8 hown hB m_0 ((va_up_ne _ _ (by omega)).trans ((va_up_ne _ _ (by omega)).trans h_0)) rfl 10 (by decide) (hts (.fieldLink RX8 122 "PaperRoom" "now" "I") (by decide +kernel)) (fun _ h9 => h9) rfl dX8_read_67 ?_
  refine lv_iload_n hx hb dX8_read_70 rfl (lv_at hl 4 rfl) ?_
  refine lv_iload_n hx hb dX8_read_71 rfl (lv_at hl 5 rfl) ?_
  refine lv_iload_n hx hb dX8_read_72 rfl (lv_at hl 6 rfl) ?_
  refine m_callVZ (ci := 6) (As := [.int nw, .int (nI b), .int (nI k), .int (nI w)]) (rest := []) (c_Seen_note_1 l D ty L ad _ 22 23 24 25 26 27 en lo f0 f1 f2 f3 f4 nw (nI b) (nI k) (nI w) m_22 m_23 m_24 m_25 m_26 m_27 ((va_up_ne _ _ (by omega)).trans ((va_up_ne _ _ (by omega)).trans h_22)) ((va_up_ne _ _ (by omega)).trans ((va_up_ne _ _ (by omega)).trans h_23)) ((va_up_ne _ _ (by omega)).trans ((va_up_ne _ _ (by omega)).trans h_24)) ((va_up_ne _ _ (by omega)).trans ((va_up_ne _ _ (by omega)).trans h_25)) ((va_up_ne _ _ (by omega)).trans ((va_up_ne _ _ (by omega)).trans h_26)) ((va_up_ne _ _ (by omega)).trans ((va_up_ne _ _ (by omega)).trans h_27)) he0 hen (by decide) (by decide) (by decide) (by decide) (by decide) (by decide) (by decide) (by decide) (by decide) (by decide) (by decide) (by decide) (by decide) (by decide) (by decide)) ⟨hx, hb, hml, hown, hts⟩ (cwV 4 hts gX8_read_X6_note rfl rfl rfl (by decide +kernel) ⟨Nat.le_of_ble_eq_true rfl, Nat.le_of_ble_eq_true rfl⟩) hB m_22 ((va_up_ne _ _ (by omega)).trans ((va_up_ne _ _ (by omega)).trans h_22)) rfl rfl hl.1 rfl (Nat.le_of_ble_eq_true rfl) dX8_read_73 ⟨Nat.le_of_ble_eq_true rfl, Nat.le_of_ble_eq_true rfl⟩ (fun H locs hB => ?_)
  replace hB : m_B D ty A s L ad (va_up (va_up (va_up (va_up (va_up (va_up (va_up (va_up g ra (.inl (ty 2, 80, .inl (mkF false (nI b) fv bs0 n)))) r (.inr (5, [.ref (ad ra), .int (nI (mkN false (nI b) fv n))]))) 23 (.inl (ty 0, 200, .inl (upd f0 en nw)))) 24 (.inl (ty 0, 200, .inl (upd f1 en (nI b))))) 25 (.inl (ty 0, 200, .inl (upd f2 en (nI k))))) 26 (.inl (ty 0, 200, .inl (upd f3 en (nI w))))) 27 (.inl (ty 1, 200, .inr (.inl (vp_updL f4 en (lk (f4 (en - 1)) nw (nI b) (nI k) (nI w))))))) 22 (.inr (6, [.ref (ad 23), .ref (ad 24), .ref (ad 25), .ref (ad 26), .ref (ad 27), .int (nI (en + 1)), .int lo]))) H locs := hB
  refine lv_aload hx hb dX8_read_76 (lv_at hl 0 rfl) ?_
  refine m_callVE (ci := 5) (As := []) (rest := []) (c_Row_length l D ty L ad _ r ra (mkN false (nI b) fv n) m_r ((va_up_ne _ _ (by omega)).trans ((va_up_ne _ _ (by omega)).trans ((va_up_ne _ _ (by omega)).trans ((va_up_ne _ _ (by omega)).trans ((va_up_ne _ _ (by omega)).trans ((va_up_ne _ _ (by omega)).trans (va_up_self _ _ _)))))))) ⟨hx, hb, hml, hown, hts⟩ (cwV 0 hts gX8_read_X5_length rfl rfl rfl (by decide +kernel) ⟨Nat.le_of_ble_eq_true rfl, Nat.le_of_ble_eq_true rfl⟩) hB m_r ((va_up_ne _ _ (by omega)).trans ((va_up_ne _ _ (by omega)).trans ((va_up_ne _ _ (by omega)).trans ((va_up_ne _ _ (by omega)).trans ((va_up_ne _ _ (by omega)).trans ((va_up_ne _ _ (by omega)).trans (va_up_self _ _ _))))))) rfl rfl hl.1 rfl (Nat.le_of_ble_eq_true rfl) dX8_read_78 ⟨Nat.le_of_ble_eq_true rfl, Nat.le_of_ble_eq_true rfl⟩ (fun H locs hB => ?_)
  exact m_iret hx hb hrt hlocks hB (Nat.le_refl _) (Nat.le_refl _) dX8_read_81 ⟨rfl, rfl, rfl, rfl⟩
set_option maxHeartbeats 1000000 in
set_option maxRecDepth 100000 in
theorem c_X_read1_n (l : Launch) (D : va_G) (ty : Nat → ClassId) (L : List Nat) (ad : Nat → Nat) (g : Nat → va_E) (pn qn : Nat) (nw : Int32) (tr : Int64) (pf : Nat → Option Nat) (vf : Nat → Option Nat) (r ra n0 b : Nat) (bs0 : Nat → Int32) (pp pt vn : Nat) (fo wd : Int32) (tf : Nat → Option Nat) (k : Nat) (w : Nat) (m_0 : 0 ∈ L) (m_6 : 6 ∈ L) (m_7 : 7 ∈ L) (m_r : r ∈ L) (m_ra : ra ∈ L) (m_pp : pp ∈ L) (m_pt : pt ∈ L) (h_0 : g 0 = .inr (8, [.ref (ad 1), .ref (ad 3), .ref (ad 6), .int (nI pn), .ref (ad 7), .ref (ad 20), .ref (ad 22), .ref (ad 28), .int (nI qn), .ref (ad 29), .int nw, .long tr])) (h_6 : g 6 = .inl (ty 4, 8, .inr (.inr (.inr (.inr pf))))) (h_7 : g 7 = .inl (ty 6, 6, .inr (.inr (.inr (.inr vf))))) (h_r : g r = .inr (5, [.ref (ad ra), .int (nI n0)])) (h_ra : g ra = .inl (ty 2, 80, .inl bs0)) (h_pp : g pp = .inr (1, [.int fo, .ref (ad pt), .int (nI vn), .int wd])) (h_pt : g pt = .inl (ty 7, 4, .inr (.inr (.inr (.inr tf))))) (hb6 : b < 6) (hvr : vf b = some (ad r)) (hk : k < 8) (hpp : pf k = some (ad pp)) (hw4 : w < 4) (htf : tf w = none) : m_E l yX8_read wsX8_read 5 113 D ty [.ref (ad 0), .int (nI b), .int (nI k), .int (nI w)] L ad g (some (.int (-1))) g := by
  intro sz
  refine Met.ofW (cc := cX8_read) (maxL := 7) (ret := (some .int)) (by decide) rfl ?_
  intro p e s m args below meth c s₁ B hml hv
  have hx := B.exec
  have hb := B.bytes
  have hrt := B.returns
  have hts := atoms_spec (ws := wsX8_read) B.pre
  have hown : s.vm.findClass RX8 = some m.cls := findClass_of_methodNamed B.named
  have hlocks := B.notSynchronized
  obtain ⟨rfl, hB⟩ := m_start hv
  generalize va_A (m_w L ad g) sz = A at hB ⊢
  generalize s.heap = H at hB ⊢
  generalize ([] : List Loc) = locs at hB ⊢
  have hl := lv_entry ([.ref (ad 0), .int (nI b), .int (nI k), .int (nI w)]) (n := 7) (Nat.le_of_ble_eq_true rfl)
  rw [lg_entry_eq]
  generalize (lg_sl ([.ref (ad 0), .int (nI b), .int (nI k), .int (nI w)]) ++ List.replicate (7 - (lg_sl ([.ref (ad 0), .int (nI b), .int (nI k), .int (nI w)])).length) Slot.unset).toArray = ls at hl ⊢
  have hl : lv_has ls 7 [(0, .ref (ad 0)), (1, .int (nI b)), (2, .int (nI k)), (3, .int (nI w))] := hl
  refine lv_aload_n hx hb dX8_read_0 rfl (lv_at hl 0 rfl) ?_
  refine lv_iload_n hx hb dX8_read_1 rfl (lv_at hl 2 rfl) ?_
  refine m_callVE (ci := 8) (As := [.int (nI k)]) (rest := []) ((by have h9 := c_X_paperNumber_t l D ty L ad g pn qn nw tr pf k m_0 m_6 h_0 h_6 hk; rw [hpp] at h9; exact h9 : m_E l yX8_paperNumber wsX8_paperNumber 1 21 D ty [.ref (ad 0), .int (nI k)] L ad g (some (.ref (ad pp))) g)) ⟨hx, hb, hml, hown, hts⟩ (cwV 1 hts gX8_read_X8_paperNumber rfl rfl rfl (by decide +kernel) ⟨Nat.le_of_ble_eq_true rfl, Nat.le_of_ble_eq_true rfl⟩) hB m_0 h_0 rfl rfl hl.1 rfl (Nat.le_of_ble_eq_true rfl) dX8_read_2 ⟨Nat.le_of_ble_eq_true rfl, Nat.le_of_ble_eq_true rfl⟩ (fun H locs hB => ?_)
  refine lv_astore (lv' := [(4, .ref (ad pp)), (0, .ref (ad 0)), (1, .int (nI b)), (2, .int (nI k)), (3, .int (nI w))]) hx hb dX8_read_5 hl (by decide) rfl (fun ls hl => ?_)
  refine lv_aload hx hb dX8_read_7 (lv_at hl 0 rfl) ?_
  refine lv_iload_n hx hb dX8_read_9 rfl (lv_at hl 4 rfl) ?_
  refine m_callSE (As := [.ref (ad pp), .int (nI w)]) (rest := []) ((by have h9 := c_X_textOf1_t l D ty L ad g pp pt vn fo wd tf w m_pp m_pt h_pp h_pt hw4; rw [htf] at h9; exact h9 : m_E l yX8_textOf wsX8_textOf 2 42 D ty [.ref (ad pp), .int (nI w)] L ad g (some .null) g)) ⟨hx, hb, hml, hown, hts⟩ (va_cwS 2 hts gX8_read_X8_textOf rfl rfl rfl (by decide +kernel) ⟨Nat.le_of_ble_eq_true rfl, Nat.le_of_ble_eq_true rfl⟩) hB rfl hl.1 rfl (Nat.le_of_ble_eq_true rfl) dX8_read_10 ⟨Nat.le_of_ble_eq_true rfl, Nat.le_of_ble_eq_true rfl⟩ (fun H locs hB => ?_)
  refine lv_astoreN (lv' := [(5, .null), (4, .ref (ad pp)), (0, .ref (ad 0)), (1, .int (nI b)), (2, .int (nI k)), (3, .int (nI w))]) hx hb dX8_read_13 hl (by decide) rfl (fun ls hl => ?_)
  refine lv_aload_n hx hb dX8_read_15 rfl (lv_at hl 2 rfl) ?_
  refine lv_iload_n hx hb dX8_read_16 rfl (lv_at hl 3 rfl) ?_
  refine m_callVE (ci := 8) (As := [.int (nI b)]) (rest := []) ((by have h9 := c_X_lastView_t l D ty L ad g pn qn nw tr vf b m_0 m_7 h_0 h_7 hb6; rw [hvr] at h9; exact h9 : m_E l yX8_lastViewOf wsX8_lastViewOf 1 21 D ty [.ref (ad 0), .int (nI b)] L ad g (some (.ref (ad r))) g)) ⟨hx, hb, hml, hown, hts⟩ (cwV 1 hts gX8_read_X8_lastViewOf rfl rfl rfl (by decide +kernel) ⟨Nat.le_of_ble_eq_true rfl, Nat.le_of_ble_eq_true rfl⟩) hB m_0 h_0 rfl rfl hl.1 rfl (Nat.le_of_ble_eq_true rfl) dX8_read_17 ⟨Nat.le_of_ble_eq_true rfl, Nat.le_of_ble_eq_true rfl⟩ (fun H locs hB => ?_)
  refine lv_astore (lv' := [(6, .ref (ad r)), (5, .null), (4, .ref (ad pp)), (0, .ref (ad 0)), (1, .int (nI b)), (2, .int (nI k)), (3, .int (nI w))]) hx hb dX8_read_20 hl (by decide) rfl (fun ls hl => ?_)
  refine lv_aload hx hb dX8_read_22 (lv_at hl 2 rfl) ?_
  refine lv_ifnull hx hb dX8_read_24 ?_
  refine lv_aloadN hx hb dX8_read_27 (lv_at hl 1 rfl) ?_
  refine lv_ifnullN (tgt := 37) hx hb dX8_read_29 (by decide) ?_
  refine lv_iconst (v := (-1)) hx hb dX8_read_37 (by decide) ?_
  exact m_iret hx hb hrt hlocks hB (Nat.le_refl _) (Nat.le_refl _) dX8_read_38 ⟨rfl, rfl, rfl, rfl⟩
set_option maxHeartbeats 1000000 in
set_option maxRecDepth 100000 in
theorem c_X_read1_b (l : Launch) (D : va_G) (ty : Nat → ClassId) (L : List Nat) (ad : Nat → Nat) (g : Nat → va_E) (pn qn : Nat) (nw : Int32) (tr : Int64) (pf : Nat → Option Nat) (vf : Nat → Option Nat) (r ra n0 b : Nat) (bs0 : Nat → Int32) (pp pt vn : Nat) (fo wd : Int32) (tf : Nat → Option Nat) (k : Nat) (v : Int32) (m_0 : 0 ∈ L) (m_6 : 6 ∈ L) (m_7 : 7 ∈ L) (m_r : r ∈ L) (m_ra : ra ∈ L) (m_pp : pp ∈ L) (m_pt : pt ∈ L) (h_0 : g 0 = .inr (8, [.ref (ad 1), .ref (ad 3), .ref (ad 6), .int (nI pn), .ref (ad 7), .ref (ad 20), .ref (ad 22), .ref (ad 28), .int (nI qn), .ref (ad 29), .int nw, .long tr])) (h_6 : g 6 = .inl (ty 4, 8, .inr (.inr (.inr (.inr pf))))) (h_7 : g 7 = .inl (ty 6, 6, .inr (.inr (.inr (.inr vf))))) (h_r : g r = .inr (5, [.ref (ad ra), .int (nI n0)])) (h_ra : g ra = .inl (ty 2, 80, .inl bs0)) (h_pp : g pp = .inr (1, [.int fo, .ref (ad pt), .int (nI vn), .int wd])) (h_pt : g pt = .inl (ty 7, 4, .inr (.inr (.inr (.inr tf))))) (hb6 : b < 6) (hvr : vf b = some (ad r)) (hk : k < 8) (hpp : pf k = some (ad pp)) (hv4 : ¬ (0 ≤ v.toInt ∧ v.toInt < 4)) : m_E l yX8_read wsX8_read 5 113 D ty [.ref (ad 0), .int (nI b), .int (nI k), .int v] L ad g (some (.int (-1))) g := by
  intro sz
  refine Met.ofW (cc := cX8_read) (maxL := 7) (ret := (some .int)) (by decide) rfl ?_
  intro p e s m args below meth c s₁ B hml hv
  have hx := B.exec
  have hb := B.bytes
  have hrt := B.returns
  have hts := atoms_spec (ws := wsX8_read) B.pre
  have hown : s.vm.findClass RX8 = some m.cls := findClass_of_methodNamed B.named
  have hlocks := B.notSynchronized
  obtain ⟨rfl, hB⟩ := m_start hv
  generalize va_A (m_w L ad g) sz = A at hB ⊢
  generalize s.heap = H at hB ⊢
  generalize ([] : List Loc) = locs at hB ⊢
  have hl := lv_entry ([.ref (ad 0), .int (nI b), .int (nI k), .int v]) (n := 7) (Nat.le_of_ble_eq_true rfl)
  rw [lg_entry_eq]
  generalize (lg_sl ([.ref (ad 0), .int (nI b), .int (nI k), .int v]) ++ List.replicate (7 - (lg_sl ([.ref (ad 0), .int (nI b), .int (nI k), .int v])).length) Slot.unset).toArray = ls at hl ⊢
  have hl : lv_has ls 7 [(0, .ref (ad 0)), (1, .int (nI b)), (2, .int (nI k)), (3, .int v)] := hl
  refine lv_aload_n hx hb dX8_read_0 rfl (lv_at hl 0 rfl) ?_
  refine lv_iload_n hx hb dX8_read_1 rfl (lv_at hl 2 rfl) ?_
  refine m_callVE (ci := 8) (As := [.int (nI k)]) (rest := []) ((by have h9 := c_X_paperNumber_t l D ty L ad g pn qn nw tr pf k m_0 m_6 h_0 h_6 hk; rw [hpp] at h9; exact h9 : m_E l yX8_paperNumber wsX8_paperNumber 1 21 D ty [.ref (ad 0), .int (nI k)] L ad g (some (.ref (ad pp))) g)) ⟨hx, hb, hml, hown, hts⟩ (cwV 1 hts gX8_read_X8_paperNumber rfl rfl rfl (by decide +kernel) ⟨Nat.le_of_ble_eq_true rfl, Nat.le_of_ble_eq_true rfl⟩) hB m_0 h_0 rfl rfl hl.1 rfl (Nat.le_of_ble_eq_true rfl) dX8_read_2 ⟨Nat.le_of_ble_eq_true rfl, Nat.le_of_ble_eq_true rfl⟩ (fun H locs hB => ?_)
  refine lv_astore (lv' := [(4, .ref (ad pp)), (0, .ref (ad 0)), (1, .int (nI b)), (2, .int (nI k)), (3, .int v)]) hx hb dX8_read_5 hl (by decide) rfl (fun ls hl => ?_)
  refine lv_aload hx hb dX8_read_7 (lv_at hl 0 rfl) ?_
  refine lv_iload_n hx hb dX8_read_9 rfl (lv_at hl 4 rfl) ?_
  refine m_callSE (As := [.ref (ad pp), .int v]) (rest := []) (c_X_textOf1_f l D ty L ad g pp pt vn fo wd tf v m_pp m_pt h_pp h_pt (by rw [show (nI 4).toInt = 4 by decide]; exact hv4)) ⟨hx, hb, hml, hown, hts⟩ (va_cwS 2 hts gX8_read_X8_textOf rfl rfl rfl (by decide +kernel) ⟨Nat.le_of_ble_eq_true rfl, Nat.le_of_ble_eq_true rfl⟩) hB rfl hl.1 rfl (Nat.le_of_ble_eq_true rfl) dX8_read_10 ⟨Nat.le_of_ble_eq_true rfl, Nat.le_of_ble_eq_true rfl⟩ (fun H locs hB => ?_)
  refine lv_astoreN (lv' := [(5, .null), (4, .ref (ad pp)), (0, .ref (ad 0)), (1, .int (nI b)), (2, .int (nI k)), (3, .int v)]) hx hb dX8_read_13 hl (by decide) rfl (fun ls hl => ?_)
  refine lv_aload_n hx hb dX8_read_15 rfl (lv_at hl 2 rfl) ?_
  refine lv_iload_n hx hb dX8_read_16 rfl (lv_at hl 3 rfl) ?_
  refine m_callVE (ci := 8) (As := [.int (nI b)]) (rest := []) ((by have h9 := c_X_lastView_t l D ty L ad g pn qn nw tr vf b m_0 m_7 h_0 h_7 hb6; rw [hvr] at h9; exact h9 : m_E l yX8_lastViewOf wsX8_lastViewOf 1 21 D ty [.ref (ad 0), .int (nI b)] L ad g (some (.ref (ad r))) g)) ⟨hx, hb, hml, hown, hts⟩ (cwV 1 hts gX8_read_X8_lastViewOf rfl rfl rfl (by decide +kernel) ⟨Nat.le_of_ble_eq_true rfl, Nat.le_of_ble_eq_true rfl⟩) hB m_0 h_0 rfl rfl hl.1 rfl (Nat.le_of_ble_eq_true rfl) dX8_read_17 ⟨Nat.le_of_ble_eq_true rfl, Nat.le_of_ble_eq_true rfl⟩ (fun H locs hB => ?_)
  refine lv_astore (lv' := [(6, .ref (ad r)), (5, .null), (4, .ref (ad pp)), (0, .ref (ad 0)), (1, .int (nI b)), (2, .int (nI k)), (3, .int v)]) hx hb dX8_read_20 hl (by decide) rfl (fun ls hl => ?_)
  refine lv_aload hx hb dX8_read_22 (lv_at hl 2 rfl) ?_
  refine lv_ifnull hx hb dX8_read_24 ?_
  refine lv_aloadN hx hb dX8_read_27 (lv_at hl 1 rfl) ?_
  refine lv_ifnullN (tgt := 37) hx hb dX8_read_29 (by decide) ?_
  refine lv_iconst (v := (-1)) hx hb dX8_read_37 (by decide) ?_
  exact m_iret hx hb hrt hlocks hB (Nat.le_refl _) (Nat.le_refl _) dX8_read_38 ⟨rfl, rfl, rfl, rfl⟩
set_option maxHeartbeats 1000000 in
set_option maxRecDepth 100000 in
theorem c_X_read1_b_b (l : Launch) (D : va_G) (ty : Nat → ClassId) (L : List Nat) (ad : Nat → Nat) (g : Nat → va_E) (pn qn : Nat) (nw : Int32) (tr : Int64) (pf : Nat → Option Nat) (vf : Nat → Option Nat) (pp pt vn : Nat) (fo wd : Int32) (tf : Nat → Option Nat) (k : Nat) (ib v : Int32) (m_0 : 0 ∈ L) (m_6 : 6 ∈ L) (m_7 : 7 ∈ L) (m_pp : pp ∈ L) (m_pt : pt ∈ L) (h_0 : g 0 = .inr (8, [.ref (ad 1), .ref (ad 3), .ref (ad 6), .int (nI pn), .ref (ad 7), .ref (ad 20), .ref (ad 22), .ref (ad 28), .int (nI qn), .ref (ad 29), .int nw, .long tr])) (h_6 : g 6 = .inl (ty 4, 8, .inr (.inr (.inr (.inr pf))))) (h_7 : g 7 = .inl (ty 6, 6, .inr (.inr (.inr (.inr vf))))) (h_pp : g pp = .inr (1, [.int fo, .ref (ad pt), .int (nI vn), .int wd])) (h_pt : g pt = .inl (ty 7, 4, .inr (.inr (.inr (.inr tf))))) (hib : ¬ (0 ≤ ib.toInt ∧ ib.toInt < 6)) (hk : k < 8) (hpp : pf k = some (ad pp)) (hv4 : ¬ (0 ≤ v.toInt ∧ v.toInt < 4)) : m_E l yX8_read wsX8_read 5 113 D ty [.ref (ad 0), .int ib, .int (nI k), .int v] L ad g (some (.int (-1))) g := by
  intro sz
  refine Met.ofW (cc := cX8_read) (maxL := 7) (ret := (some .int)) (by decide) rfl ?_
  intro p e s m args below meth c s₁ B hml hv
  have hx := B.exec
  have hb := B.bytes
  have hrt := B.returns
  have hts := atoms_spec (ws := wsX8_read) B.pre
  have hown : s.vm.findClass RX8 = some m.cls := findClass_of_methodNamed B.named
  have hlocks := B.notSynchronized
  obtain ⟨rfl, hB⟩ := m_start hv
  generalize va_A (m_w L ad g) sz = A at hB ⊢
  generalize s.heap = H at hB ⊢
  generalize ([] : List Loc) = locs at hB ⊢
  have hl := lv_entry ([.ref (ad 0), .int ib, .int (nI k), .int v]) (n := 7) (Nat.le_of_ble_eq_true rfl)
  rw [lg_entry_eq]
  generalize (lg_sl ([.ref (ad 0), .int ib, .int (nI k), .int v]) ++ List.replicate (7 - (lg_sl ([.ref (ad 0), .int ib, .int (nI k), .int v])).length) Slot.unset).toArray = ls at hl ⊢
  have hl : lv_has ls 7 [(0, .ref (ad 0)), (1, .int ib), (2, .int (nI k)), (3, .int v)] := hl
  refine lv_aload_n hx hb dX8_read_0 rfl (lv_at hl 0 rfl) ?_
  refine lv_iload_n hx hb dX8_read_1 rfl (lv_at hl 2 rfl) ?_
  refine m_callVE (ci := 8) (As := [.int (nI k)]) (rest := []) ((by have h9 := c_X_paperNumber_t l D ty L ad g pn qn nw tr pf k m_0 m_6 h_0 h_6 hk; rw [hpp] at h9; exact h9 : m_E l yX8_paperNumber wsX8_paperNumber 1 21 D ty [.ref (ad 0), .int (nI k)] L ad g (some (.ref (ad pp))) g)) ⟨hx, hb, hml, hown, hts⟩ (cwV 1 hts gX8_read_X8_paperNumber rfl rfl rfl (by decide +kernel) ⟨Nat.le_of_ble_eq_true rfl, Nat.le_of_ble_eq_true rfl⟩) hB m_0 h_0 rfl rfl hl.1 rfl (Nat.le_of_ble_eq_true rfl) dX8_read_2 ⟨Nat.le_of_ble_eq_true rfl, Nat.le_of_ble_eq_true rfl⟩ (fun H locs hB => ?_)
  refine lv_astore (lv' := [(4, .ref (ad pp)), (0, .ref (ad 0)), (1, .int ib), (2, .int (nI k)), (3, .int v)]) hx hb dX8_read_5 hl (by decide) rfl (fun ls hl => ?_)
  refine lv_aload hx hb dX8_read_7 (lv_at hl 0 rfl) ?_
  refine lv_iload_n hx hb dX8_read_9 rfl (lv_at hl 4 rfl) ?_
  refine m_callSE (As := [.ref (ad pp), .int v]) (rest := []) (c_X_textOf1_f l D ty L ad g pp pt vn fo wd tf v m_pp m_pt h_pp h_pt (by rw [show (nI 4).toInt = 4 by decide]; exact hv4)) ⟨hx, hb, hml, hown, hts⟩ (va_cwS 2 hts gX8_read_X8_textOf rfl rfl rfl (by decide +kernel) ⟨Nat.le_of_ble_eq_true rfl, Nat.le_of_ble_eq_true rfl⟩) hB rfl hl.1 rfl (Nat.le_of_ble_eq_true rfl) dX8_read_10 ⟨Nat.le_of_ble_eq_true rfl, Nat.le_of_ble_eq_true rfl⟩ (fun H locs hB => ?_)
  refine lv_astoreN (lv' := [(5, .null), (4, .ref (ad pp)), (0, .ref (ad 0)), (1, .int ib), (2, .int (nI k)), (3, .int v)]) hx hb dX8_read_13 hl (by decide) rfl (fun ls hl => ?_)
  refine lv_aload_n hx hb dX8_read_15 rfl (lv_at hl 2 rfl) ?_
  refine lv_iload_n hx hb dX8_read_16 rfl (lv_at hl 3 rfl) ?_
  refine m_callVE (ci := 8) (As := [.int ib]) (rest := []) (c_X_lastView_f l D ty L ad g pn qn nw tr vf ib m_0 m_7 h_0 h_7 hib) ⟨hx, hb, hml, hown, hts⟩ (cwV 1 hts gX8_read_X8_lastViewOf rfl rfl rfl (by decide +kernel) ⟨Nat.le_of_ble_eq_true rfl, Nat.le_of_ble_eq_true rfl⟩) hB m_0 h_0 rfl rfl hl.1 rfl (Nat.le_of_ble_eq_true rfl) dX8_read_17 ⟨Nat.le_of_ble_eq_true rfl, Nat.le_of_ble_eq_true rfl⟩ (fun H locs hB => ?_)
  refine lv_astoreN (lv' := [(6, .null), (5, .null), (4, .ref (ad pp)), (0, .ref (ad 0)), (1, .int ib), (2, .int (nI k)), (3, .int v)]) hx hb dX8_read_20 hl (by decide) rfl (fun ls hl => ?_)
  refine lv_aload hx hb dX8_read_22 (lv_at hl 2 rfl) ?_
  refine lv_ifnull hx hb dX8_read_24 ?_
  refine lv_aloadN hx hb dX8_read_27 (lv_at hl 1 rfl) ?_
  refine lv_ifnullN (tgt := 37) hx hb dX8_read_29 (by decide) ?_
  refine lv_iconst (v := (-1)) hx hb dX8_read_37 (by decide) ?_
  exact m_iret hx hb hrt hlocks hB (Nat.le_refl _) (Nat.le_refl _) dX8_read_38 ⟨rfl, rfl, rfl, rfl⟩
set_option maxHeartbeats 1000000 in
set_option maxRecDepth 100000 in
theorem c_X_read1_b_w (l : Launch) (D : va_G) (ty : Nat → ClassId) (L : List Nat) (ad : Nat → Nat) (g : Nat → va_E) (pn qn : Nat) (nw : Int32) (tr : Int64) (pf : Nat → Option Nat) (vf : Nat → Option Nat) (pp pt vn : Nat) (fo wd : Int32) (tf : Nat → Option Nat) (k : Nat) (w : Nat) (ib : Int32) (m_0 : 0 ∈ L) (m_6 : 6 ∈ L) (m_7 : 7 ∈ L) (m_pp : pp ∈ L) (m_pt : pt ∈ L) (h_0 : g 0 = .inr (8, [.ref (ad 1), .ref (ad 3), .ref (ad 6), .int (nI pn), .ref (ad 7), .ref (ad 20), .ref (ad 22), .ref (ad 28), .int (nI qn), .ref (ad 29), .int nw, .long tr])) (h_6 : g 6 = .inl (ty 4, 8, .inr (.inr (.inr (.inr pf))))) (h_7 : g 7 = .inl (ty 6, 6, .inr (.inr (.inr (.inr vf))))) (h_pp : g pp = .inr (1, [.int fo, .ref (ad pt), .int (nI vn), .int wd])) (h_pt : g pt = .inl (ty 7, 4, .inr (.inr (.inr (.inr tf))))) (hib : ¬ (0 ≤ ib.toInt ∧ ib.toInt < 6)) (hk : k < 8) (hpp : pf k = some (ad pp)) (hw4 : w < 4) : m_E l yX8_read wsX8_read 5 113 D ty [.ref (ad 0), .int ib, .int (nI k), .int (nI w)] L ad g (some (.int (-1))) g := by
  intro sz
  refine Met.ofW (cc := cX8_read) (maxL := 7) (ret := (some .int)) (by decide) rfl ?_
  intro p e s m args below meth c s₁ B hml hv
  have hx := B.exec
  have hb := B.bytes
  have hrt := B.returns
  have hts := atoms_spec (ws := wsX8_read) B.pre
  have hown : s.vm.findClass RX8 = some m.cls := findClass_of_methodNamed B.named
  have hlocks := B.notSynchronized
  obtain ⟨rfl, hB⟩ := m_start hv
  generalize va_A (m_w L ad g) sz = A at hB ⊢
  generalize s.heap = H at hB ⊢
  generalize ([] : List Loc) = locs at hB ⊢
  have hl := lv_entry ([.ref (ad 0), .int ib, .int (nI k), .int (nI w)]) (n := 7) (Nat.le_of_ble_eq_true rfl)
  rw [lg_entry_eq]
  generalize (lg_sl ([.ref (ad 0), .int ib, .int (nI k), .int (nI w)]) ++ List.replicate (7 - (lg_sl ([.ref (ad 0), .int ib, .int (nI k), .int (nI w)])).length) Slot.unset).toArray = ls at hl ⊢
  have hl : lv_has ls 7 [(0, .ref (ad 0)), (1, .int ib), (2, .int (nI k)), (3, .int (nI w))] := hl
  rcases htf : tf w with _ | r9
  · skip
    refine lv_aload_n hx hb dX8_read_0 rfl (lv_at hl 0 rfl) ?_
    refine lv_iload_n hx hb dX8_read_1 rfl (lv_at hl 2 rfl) ?_
    refine m_callVE (ci := 8) (As := [.int (nI k)]) (rest := []) ((by have h9 := c_X_paperNumber_t l D ty L ad g pn qn nw tr pf k m_0 m_6 h_0 h_6 hk; rw [hpp] at h9; exact h9 : m_E l yX8_paperNumber wsX8_paperNumber 1 21 D ty [.ref (ad 0), .int (nI k)] L ad g (some (.ref (ad pp))) g)) ⟨hx, hb, hml, hown, hts⟩ (cwV 1 hts gX8_read_X8_paperNumber rfl rfl rfl (by decide +kernel) ⟨Nat.le_of_ble_eq_true rfl, Nat.le_of_ble_eq_true rfl⟩) hB m_0 h_0 rfl rfl hl.1 rfl (Nat.le_of_ble_eq_true rfl) dX8_read_2 ⟨Nat.le_of_ble_eq_true rfl, Nat.le_of_ble_eq_true rfl⟩ (fun H locs hB => ?_)
    refine lv_astore (lv' := [(4, .ref (ad pp)), (0, .ref (ad 0)), (1, .int ib), (2, .int (nI k)), (3, .int (nI w))]) hx hb dX8_read_5 hl (by decide) rfl (fun ls hl => ?_)
    refine lv_aload hx hb dX8_read_7 (lv_at hl 0 rfl) ?_
    refine lv_iload_n hx hb dX8_read_9 rfl (lv_at hl 4 rfl) ?_
    refine m_callSE (As := [.ref (ad pp), .int (nI w)]) (rest := []) ((by have h9 := c_X_textOf1_t l D ty L ad g pp pt vn fo wd tf w m_pp m_pt h_pp h_pt hw4; rw [htf] at h9; exact h9 : m_E l yX8_textOf wsX8_textOf 2 42 D ty [.ref (ad pp), .int (nI w)] L ad g (some .null) g)) ⟨hx, hb, hml, hown, hts⟩ (va_cwS 2 hts gX8_read_X8_textOf rfl rfl rfl (by decide +kernel) ⟨Nat.le_of_ble_eq_true rfl, Nat.le_of_ble_eq_true rfl⟩) hB rfl hl.1 rfl (Nat.le_of_ble_eq_true rfl) dX8_read_10 ⟨Nat.le_of_ble_eq_true rfl, Nat.le_of_ble_eq_true rfl⟩ (fun H locs hB => ?_)
    refine lv_astoreN (lv' := [(5, .null), (4, .ref (ad pp)), (0, .ref (ad 0)), (1, .int ib), (2, .int (nI k)), (3, .int (nI w))]) hx hb dX8_read_13 hl (by decide) rfl (fun ls hl => ?_)
    refine lv_aload_n hx hb dX8_read_15 rfl (lv_at hl 2 rfl) ?_
    refine lv_iload_n hx hb dX8_read_16 rfl (lv_at hl 3 rfl) ?_
    refine m_callVE (ci := 8) (As := [.int ib]) (rest := []) (c_X_lastView_f l D ty L ad g pn qn nw tr vf ib m_0 m_7 h_0 h_7 hib) ⟨hx, hb, hml, hown, hts⟩ (cwV 1 hts gX8_read_X8_lastViewOf rfl rfl rfl (by decide +kernel) ⟨Nat.le_of_ble_eq_true rfl, Nat.le_of_ble_eq_true rfl⟩) hB m_0 h_0 rfl rfl hl.1 rfl (Nat.le_of_ble_eq_true rfl) dX8_read_17 ⟨Nat.le_of_ble_eq_true rfl, Nat.le_of_ble_eq_true rfl⟩ (fun H locs hB => ?_)
    refine lv_astoreN (lv' := [(6, .null), (5, .null), (4, .ref (ad pp)), (0, .ref (ad 0)), (1, .int ib), (2, .int (nI k)), (3, .int (nI w))]) hx hb dX8_read_20 hl (by decide) rfl (fun ls hl => ?_)
    refine lv_aload hx hb dX8_read_22 (lv_at hl 2 rfl) ?_
    refine lv_ifnull hx hb dX8_read_24 ?_
    refine lv_aloadN hx hb dX8_read_27 (lv_at hl 1 rfl) ?_
    refine lv_ifnullN (tgt := 37) hx hb dX8_read_29 (by decide) ?_
    refine lv_iconst (v := (-1)) hx hb dX8_read_37 (by decide) ?_
    exact m_iret hx hb hrt hlocks hB (Nat.le_refl _) (Nat.le_refl _) dX8_read_38 ⟨rfl, rfl, rfl, rfl⟩
  · skip
    refine lv_aload_n hx hb dX8_read_0 rfl (lv_at hl 0 rfl) ?_
    refine lv_iload_n hx hb dX8_read_1 rfl (lv_at hl 2 rfl) ?_
    refine m_callVE (ci := 8) (As := [.int (nI k)]) (rest := []) ((by have h9 := c_X_paperNumber_t l D ty L ad g pn qn nw tr pf k m_0 m_6 h_0 h_6 hk; rw [hpp] at h9; exact h9 : m_E l yX8_paperNumber wsX8_paperNumber 1 21 D ty [.ref (ad 0), .int (nI k)] L ad g (some (.ref (ad pp))) g)) ⟨hx, hb, hml, hown, hts⟩ (cwV 1 hts gX8_read_X8_paperNumber rfl rfl rfl (by decide +kernel) ⟨Nat.le_of_ble_eq_true rfl, Nat.le_of_ble_eq_true rfl⟩) hB m_0 h_0 rfl rfl hl.1 rfl (Nat.le_of_ble_eq_true rfl) dX8_read_2 ⟨Nat.le_of_ble_eq_true rfl, Nat.le_of_ble_eq_true rfl⟩ (fun H locs hB => ?_)
    refine lv_astore (lv' := [(4, .ref (ad pp)), (0, .ref (ad 0)), (1, .int ib), (2, .int (nI k)), (3, .int (nI w))]) hx hb dX8_read_5 hl (by decide) rfl (fun ls hl => ?_)
    refine lv_aload hx hb dX8_read_7 (lv_at hl 0 rfl) ?_
    refine lv_iload_n hx hb dX8_read_9 rfl (lv_at hl 4 rfl) ?_
    refine m_callSE (As := [.ref (ad pp), .int (nI w)]) (rest := []) ((by have h9 := c_X_textOf1_t l D ty L ad g pp pt vn fo wd tf w m_pp m_pt h_pp h_pt hw4; rw [htf] at h9; exact h9 : m_E l yX8_textOf wsX8_textOf 2 42 D ty [.ref (ad pp), .int (nI w)] L ad g (some (.ref r9)) g)) ⟨hx, hb, hml, hown, hts⟩ (va_cwS 2 hts gX8_read_X8_textOf rfl rfl rfl (by decide +kernel) ⟨Nat.le_of_ble_eq_true rfl, Nat.le_of_ble_eq_true rfl⟩) hB rfl hl.1 rfl (Nat.le_of_ble_eq_true rfl) dX8_read_10 ⟨Nat.le_of_ble_eq_true rfl, Nat.le_of_ble_eq_true rfl⟩ (fun H locs hB => ?_)
    refine lv_astore (lv' := [(5, .ref r9), (4, .ref (ad pp)), (0, .ref (ad 0)), (1, .int ib), (2, .int (nI k)), (3, .int (nI w))]) hx hb dX8_read_13 hl (by decide) rfl (fun ls hl => ?_)
    refine lv_aload_n hx hb dX8_read_15 rfl (lv_at hl 2 rfl) ?_
    refine lv_iload_n hx hb dX8_read_16 rfl (lv_at hl 3 rfl) ?_
    refine m_callVE (ci := 8) (As := [.int ib]) (rest := []) (c_X_lastView_f l D ty L ad g pn qn nw tr vf ib m_0 m_7 h_0 h_7 hib) ⟨hx, hb, hml, hown, hts⟩ (cwV 1 hts gX8_read_X8_lastViewOf rfl rfl rfl (by decide +kernel) ⟨Nat.le_of_ble_eq_true rfl, Nat.le_of_ble_eq_true rfl⟩) hB m_0 h_0 rfl rfl hl.1 rfl (Nat.le_of_ble_eq_true rfl) dX8_read_17 ⟨Nat.le_of_ble_eq_true rfl, Nat.le_of_ble_eq_true rfl⟩ (fun H locs hB => ?_)
    refine lv_astoreN (lv' := [(6, .null), (5, .ref r9), (4, .ref (ad pp)), (0, .ref (ad 0)), (1, .int ib), (2, .int (nI k)), (3, .int (nI w))]) hx hb dX8_read_20 hl (by decide) rfl (fun ls hl => ?_)
    refine lv_aload hx hb dX8_read_22 (lv_at hl 2 rfl) ?_
    refine lv_ifnull hx hb dX8_read_24 ?_
    refine lv_aload hx hb dX8_read_27 (lv_at hl 1 rfl) ?_
    refine lv_ifnull hx hb dX8_read_29 ?_
    refine lv_aloadN hx hb dX8_read_32 (lv_at hl 0 rfl) ?_
    refine lv_ifnonnullN hx hb dX8_read_34 ?_
    refine lv_iconst (v := (-1)) hx hb dX8_read_37 (by decide) ?_
    exact m_iret hx hb hrt hlocks hB (Nat.le_refl _) (Nat.le_refl _) dX8_read_38 ⟨rfl, rfl, rfl, rfl⟩
set_option maxHeartbeats 1000000 in
set_option maxRecDepth 100000 in
theorem c_X_read1_no (l : Launch) (D : va_G) (ty : Nat → ClassId) (L : List Nat) (ad : Nat → Nat) (g : Nat → va_E) (pn qn : Nat) (nw : Int32) (tr : Int64) (pf : Nat → Option Nat) (vf : Nat → Option Nat) (r ra n0 b : Nat) (bs0 : Nat → Int32) (fs fe : Nat → Int32) (pp pt vn : Nat) (wd : Int32) (tf : Nat → Option Nat) (k f w t ro a bl n : Nat) (bs bk : Nat → Int32) (m_0 : 0 ∈ L) (m_3 : 3 ∈ L) (m_4 : 4 ∈ L) (m_5 : 5 ∈ L) (m_6 : 6 ∈ L) (m_7 : 7 ∈ L) (m_r : r ∈ L) (m_ra : ra ∈ L) (m_pp : pp ∈ L) (m_pt : pt ∈ L) (m_t : t ∈ L) (m_ro : ro ∈ L) (m_a : a ∈ L) (m_bl : bl ∈ L) (h_0 : g 0 = .inr (8, [.ref (ad 1), .ref (ad 3), .ref (ad 6), .int (nI pn), .ref (ad 7), .ref (ad 20), .ref (ad 22), .ref (ad 28), .int (nI qn), .ref (ad 29), .int nw, .long tr])) (h_3 : g 3 = .inr (4, [.ref (ad 4), .ref (ad 5)])) (h_4 : g 4 = .inl (ty 0, 12, .inl fs)) (h_5 : g 5 = .inl (ty 0, 12, .inl fe)) (h_6 : g 6 = .inl (ty 4, 8, .inr (.inr (.inr (.inr pf))))) (h_7 : g 7 = .inl (ty 6, 6, .inr (.inr (.inr (.inr vf))))) (h_r : g r = .inr (5, [.ref (ad ra), .int (nI n0)])) (h_ra : g ra = .inl (ty 2, 80, .inl bs0)) (h_pp : g pp = .inr (1, [.int (nI f), .ref (ad pt), .int (nI vn), .int wd])) (h_pt : g pt = .inl (ty 7, 4, .inr (.inr (.inr (.inr tf))))) (h_t : g t = .inr (7, [.ref (ad ro), .ref (ad bl)])) (h_ro : g ro = .inr (5, [.ref (ad a), .int (nI n)])) (h_a : g a = .inl (ty 2, n, .inl bs)) (h_bl : g bl = .inl (ty 3, n, .inl bk)) (hb6 : b < 6) (hvr : vf b = some (ad r)) (hk : k < 8) (hpp : pf k = some (ad pp)) (hw4 : w < 4) (htf : tf w = some (ad t)) (hf4 : f < 4) (hwd : wd = 0 ∨ wd = 1) (hs : (opn wd fs fe (b % 3 * 4 + f) nw) = false) : m_E l yX8_read wsX8_read 5 113 D ty [.ref (ad 0), .int (nI b), .int (nI k), .int (nI w)] L ad g (some (.int (-4))) g := by
  intro sz
  refine Met.ofW (cc := cX8_read) (maxL := 7) (ret := (some .int)) (by decide) rfl ?_
  intro p e s m args below meth c s₁ B hml hv
  have hx := B.exec
  have hb := B.bytes
  have hrt := B.returns
  have hts := atoms_spec (ws := wsX8_read) B.pre
  have hown : s.vm.findClass RX8 = some m.cls := findClass_of_methodNamed B.named
  have hlocks := B.notSynchronized
  obtain ⟨rfl, hB⟩ := m_start hv
  generalize va_A (m_w L ad g) sz = A at hB ⊢
  generalize s.heap = H at hB ⊢
  generalize ([] : List Loc) = locs at hB ⊢
  have hl := lv_entry ([.ref (ad 0), .int (nI b), .int (nI k), .int (nI w)]) (n := 7) (Nat.le_of_ble_eq_true rfl)
  rw [lg_entry_eq]
  generalize (lg_sl ([.ref (ad 0), .int (nI b), .int (nI k), .int (nI w)]) ++ List.replicate (7 - (lg_sl ([.ref (ad 0), .int (nI b), .int (nI k), .int (nI w)])).length) Slot.unset).toArray = ls at hl ⊢
  have hl : lv_has ls 7 [(0, .ref (ad 0)), (1, .int (nI b)), (2, .int (nI k)), (3, .int (nI w))] := hl
  refine lv_aload_n hx hb dX8_read_0 rfl (lv_at hl 0 rfl) ?_
  refine lv_iload_n hx hb dX8_read_1 rfl (lv_at hl 2 rfl) ?_
  refine m_callVE (ci := 8) (As := [.int (nI k)]) (rest := []) ((by have h9 := c_X_paperNumber_t l D ty L ad g pn qn nw tr pf k m_0 m_6 h_0 h_6 hk; rw [hpp] at h9; exact h9 : m_E l yX8_paperNumber wsX8_paperNumber 1 21 D ty [.ref (ad 0), .int (nI k)] L ad g (some (.ref (ad pp))) g)) ⟨hx, hb, hml, hown, hts⟩ (cwV 1 hts gX8_read_X8_paperNumber rfl rfl rfl (by decide +kernel) ⟨Nat.le_of_ble_eq_true rfl, Nat.le_of_ble_eq_true rfl⟩) hB m_0 h_0 rfl rfl hl.1 rfl (Nat.le_of_ble_eq_true rfl) dX8_read_2 ⟨Nat.le_of_ble_eq_true rfl, Nat.le_of_ble_eq_true rfl⟩ (fun H locs hB => ?_)
  refine lv_astore (lv' := [(4, .ref (ad pp)), (0, .ref (ad 0)), (1, .int (nI b)), (2, .int (nI k)), (3, .int (nI w))]) hx hb dX8_read_5 hl (by decide) rfl (fun ls hl => ?_)
  refine lv_aload hx hb dX8_read_7 (lv_at hl 0 rfl) ?_
  refine lv_iload_n hx hb dX8_read_9 rfl (lv_at hl 4 rfl) ?_
  refine m_callSE (As := [.ref (ad pp), .int (nI w)]) (rest := []) ((by have h9 := c_X_textOf1_t l D ty L ad g pp pt vn (nI f) wd tf w m_pp m_pt h_pp h_pt hw4; rw [htf] at h9; exact h9 : m_E l yX8_textOf wsX8_textOf 2 42 D ty [.ref (ad pp), .int (nI w)] L ad g (some (.ref (ad t))) g)) ⟨hx, hb, hml, hown, hts⟩ (va_cwS 2 hts gX8_read_X8_textOf rfl rfl rfl (by decide +kernel) ⟨Nat.le_of_ble_eq_true rfl, Nat.le_of_ble_eq_true rfl⟩) hB rfl hl.1 rfl (Nat.le_of_ble_eq_true rfl) dX8_read_10 ⟨Nat.le_of_ble_eq_true rfl, Nat.le_of_ble_eq_true rfl⟩ (fun H locs hB => ?_)
  refine lv_astore (lv' := [(5, .ref (ad t)), (4, .ref (ad pp)), (0, .ref (ad 0)), (1, .int (nI b)), (2, .int (nI k)), (3, .int (nI w))]) hx hb dX8_read_13 hl (by decide) rfl (fun ls hl => ?_)
  refine lv_aload_n hx hb dX8_read_15 rfl (lv_at hl 2 rfl) ?_
  refine lv_iload_n hx hb dX8_read_16 rfl (lv_at hl 3 rfl) ?_
  refine m_callVE (ci := 8) (As := [.int (nI b)]) (rest := []) ((by have h9 := c_X_lastView_t l D ty L ad g pn qn nw tr vf b m_0 m_7 h_0 h_7 hb6; rw [hvr] at h9; exact h9 : m_E l yX8_lastViewOf wsX8_lastViewOf 1 21 D ty [.ref (ad 0), .int (nI b)] L ad g (some (.ref (ad r))) g)) ⟨hx, hb, hml, hown, hts⟩ (cwV 1 hts gX8_read_X8_lastViewOf rfl rfl rfl (by decide +kernel) ⟨Nat.le_of_ble_eq_true rfl, Nat.le_of_ble_eq_true rfl⟩) hB m_0 h_0 rfl rfl hl.1 rfl (Nat.le_of_ble_eq_true rfl) dX8_read_17 ⟨Nat.le_of_ble_eq_true rfl, Nat.le_of_ble_eq_true rfl⟩ (fun H locs hB => ?_)
  refine lv_astore (lv' := [(6, .ref (ad r)), (5, .ref (ad t)), (4, .ref (ad pp)), (0, .ref (ad 0)), (1, .int (nI b)), (2, .int (nI k)), (3, .int (nI w))]) hx hb dX8_read_20 hl (by decide) rfl (fun ls hl => ?_)
  refine lv_aload hx hb dX8_read_22 (lv_at hl 2 rfl) ?_
  refine lv_ifnull hx hb dX8_read_24 ?_
  refine lv_aload hx hb dX8_read_27 (lv_at hl 1 rfl) ?_
  refine lv_ifnull hx hb dX8_read_29 ?_
  refine lv_aload hx hb dX8_read_32 (lv_at hl 0 rfl) ?_
  refine lv_ifnonnull (tgt := 39) hx hb dX8_read_34 (by decide) ?_
  refine lv_aload_n hx hb dX8_read_39 rfl (lv_at hl 3 rfl) ?_
  refine lv_aload hx hb dX8_read_40 (lv_at hl 2 rfl) ?_
  refine lv_iload_n hx hb dX8_read_42 rfl (lv_at hl 4 rfl) ?_
  refine m_callVE (ci := 8) (As := [.ref (ad pp), .int (nI b)]) (rest := []) (c_X_isOpen1 l D ty L ad g pn qn nw tr fs fe pp pt vn wd b f m_0 m_3 m_4 m_5 m_pp h_0 h_3 h_4 h_5 h_pp hb6 hf4 hwd) ⟨hx, hb, hml, hown, hts⟩ (cwV 2 hts gX8_read_X8_isOpen rfl rfl rfl (by decide +kernel) ⟨Nat.le_of_ble_eq_true rfl, Nat.le_of_ble_eq_true rfl⟩) hB m_0 h_0 rfl rfl hl.1 rfl (Nat.le_of_ble_eq_true rfl) dX8_read_43 ⟨Nat.le_of_ble_eq_true rfl, Nat.le_of_ble_eq_true rfl⟩ (fun H locs hB => ?_)
  refine b_if_ne_f 52 hx hb dX8_read_46 (by decide) (by rw [hs]; decide) ?_
  refine lv_bipush (v := (-4)) hx hb dX8_read_49 (by decide) ?_
  exact m_iret hx hb hrt hlocks hB (Nat.le_refl _) (Nat.le_refl _) dX8_read_51 ⟨rfl, rfl, rfl, rfl⟩
set_option maxRecDepth 20000 in
theorem oc_X8_read_X2_copyFor : Cond.code yX2_copyFor cX2_copyFor 5 none ∈ wsX8_read := List.mem_of_getElem? (i := 63) rfl
set_option maxHeartbeats 1000000 in
set_option maxRecDepth 100000 in
theorem c_X_read1_full (l : Launch) (D : va_G) (ty : Nat → ClassId) (L : List Nat) (ad : Nat → Nat) (g : Nat → va_E) (pn qn : Nat) (nw : Int32) (tr : Int64) (pf : Nat → Option Nat) (vf : Nat → Option Nat) (r ra n0 b : Nat) (bs0 : Nat → Int32) (fs fe : Nat → Int32) (pp pt vn : Nat) (wd : Int32) (tf : Nat → Option Nat) (k f w t ro a bl n : Nat) (bs bk : Nat → Int32) (fv : Nat → Int32) (en : Nat) (lo : Int32) (f0 f1 f2 f3 : Nat → Int32) (f4 : Nat → Int64) (m_0 : 0 ∈ L) (m_3 : 3 ∈ L) (m_4 : 4 ∈ L) (m_5 : 5 ∈ L) (m_6 : 6 ∈ L) (m_7 : 7 ∈ L) (m_r : r ∈ L) (m_ra : ra ∈ L) (m_pp : pp ∈ L) (m_pt : pt ∈ L) (m_t : t ∈ L) (m_ro : ro ∈ L) (m_a : a ∈ L) (m_bl : bl ∈ L) (m_22 : 22 ∈ L) (m_23 : 23 ∈ L) (m_24 : 24 ∈ L) (m_25 : 25 ∈ L) (m_26 : 26 ∈ L) (m_27 : 27 ∈ L) (h_0 : g 0 = .inr (8, [.ref (ad 1), .ref (ad 3), .ref (ad 6), .int (nI pn), .ref (ad 7), .ref (ad 20), .ref (ad 22), .ref (ad 28), .int (nI qn), .ref (ad 29), .int nw, .long tr])) (h_3 : g 3 = .inr (4, [.ref (ad 4), .ref (ad 5)])) (h_4 : g 4 = .inl (ty 0, 12, .inl fs)) (h_5 : g 5 = .inl (ty 0, 12, .inl fe)) (h_6 : g 6 = .inl (ty 4, 8, .inr (.inr (.inr (.inr pf))))) (h_7 : g 7 = .inl (ty 6, 6, .inr (.inr (.inr (.inr vf))))) (h_r : g r = .inr (5, [.ref (ad ra), .int (nI n0)])) (h_ra : g ra = .inl (ty 2, 80, .inl bs0)) (h_pp : g pp = .inr (1, [.int (nI f), .ref (ad pt), .int (nI vn), .int wd])) (h_pt : g pt = .inl (ty 7, 4, .inr (.inr (.inr (.inr tf))))) (h_t : g t = .inr (7, [.ref (ad ro), .ref (ad bl)])) (h_ro : g ro = .inr (5, [.ref (ad a), .int (nI n)])) (h_a : g a = .inl (ty 2, n, .inl bs)) (h_bl : g bl = .inl (ty 3, n, .inl bk)) (h_22 : g 22 = .inr (6, [.ref (ad 23), .ref (ad 24), .ref (ad 25), .ref (ad 26), .ref (ad 27), .int (nI en), .int lo])) (h_23 : g 23 = .inl (ty 0, 200, .inl f0)) (h_24 : g 24 = .inl (ty 0, 200, .inl f1)) (h_25 : g 25 = .inl (ty 0, 200, .inl f2)) (h_26 : g 26 = .inl (ty 0, 200, .inl f3)) (h_27 : g 27 = .inl (ty 1, 200, .inr (.inl f4))) (hb6 : b < 6) (hvr : vf b = some (ad r)) (hk : k < 8) (hpp : pf k = some (ad pp)) (hw4 : w < 4) (htf : tf w = some (ad t)) (hf4 : f < 4) (hwd : wd = 0 ∨ wd = 1) (hs : (opn wd fs fe (b % 3 * 4 + f) nw) = true) (hn40 : n ≤ 40) (hbk : ∀ i, i < n → bk i = 0 ∨ bk i = 1) (hfv : ∀ i, i < n → fv i = pl (bs i) (bk i)) (h8 : ∀ i, i < n → (fv i).toInt8.toInt32 = fv i) (hr8 : 8 ≤ r ∧ r < 14) (hra8 : 14 ≤ ra ∧ ra < 20) (hb_pp : 30 ≤ pp) (hb_pt : 30 ≤ pt) (hb_t : 30 ≤ t) (hb_ro : 30 ≤ ro) (hb_a : 30 ≤ a) (hb_bl : 30 ≤ bl) (hen : en = 200) : m_E l yX8_read wsX8_read 5 113 D ty [.ref (ad 0), .int (nI b), .int (nI k), .int (nI w)] L ad g (some (.int (nI (mkN true (nI b) fv n)))) (va_up (va_up (va_up g ra (.inl (ty 2, 80, .inl (mkF true (nI b) fv bs0 n)))) r (.inr (5, [.ref (ad ra), .int (nI (mkN true (nI b) fv n))]))) 22 (.inr (6, [.ref (ad 23), .ref (ad 24), .ref (ad 25), .ref (ad 26), .ref (ad 27), .int (nI en), .int (lo + 1)]))) := by
  intro sz
  refine Met.ofW (cc := cX8_read) (maxL := 7) (ret := (some .int)) (by decide) rfl ?_
  intro p e s m args below meth c s₁ B hml hv
  have hx := B.exec
  have hb := B.bytes
  have hrt := B.returns
  have hts := atoms_spec (ws := wsX8_read) B.pre
  have hown : s.vm.findClass RX8 = some m.cls := findClass_of_methodNamed B.named
  have hlocks := B.notSynchronized
  obtain ⟨rfl, hB⟩ := m_start hv
  generalize va_A (m_w L ad g) sz = A at hB ⊢
  generalize s.heap = H at hB ⊢
  generalize ([] : List Loc) = locs at hB ⊢
  have hl := lv_entry ([.ref (ad 0), .int (nI b), .int (nI k), .int (nI w)]) (n := 7) (Nat.le_of_ble_eq_true rfl)
  rw [lg_entry_eq]
  generalize (lg_sl ([.ref (ad 0), .int (nI b), .int (nI k), .int (nI w)]) ++ List.replicate (7 - (lg_sl ([.ref (ad 0), .int (nI b), .int (nI k), .int (nI w)])).length) Slot.unset).toArray = ls at hl ⊢
  have hl : lv_has ls 7 [(0, .ref (ad 0)), (1, .int (nI b)), (2, .int (nI k)), (3, .int (nI w))] := hl
  refine lv_aload_n hx hb dX8_read_0 rfl (lv_at hl 0 rfl) ?_
  refine lv_iload_n hx hb dX8_read_1 rfl (lv_at hl 2 rfl) ?_
  refine m_callVE (ci := 8) (As := [.int (nI k)]) (rest := []) ((by have h9 := c_X_paperNumber_t l D ty L ad g pn qn nw tr pf k m_0 m_6 h_0 h_6 hk; rw [hpp] at h9; exact h9 : m_E l yX8_paperNumber wsX8_paperNumber 1 21 D ty [.ref (ad 0), .int (nI k)] L ad g (some (.ref (ad pp))) g)) ⟨hx, hb, hml, hown, hts⟩ (cwV 1 hts gX8_read_X8_paperNumber rfl rfl rfl (by decide +kernel) ⟨Nat.le_of_ble_eq_true rfl, Nat.le_of_ble_eq_true rfl⟩) hB m_0 h_0 rfl rfl hl.1 rfl (Nat.le_of_ble_eq_true rfl) dX8_read_2 ⟨Nat.le_of_ble_eq_true rfl, Nat.le_of_ble_eq_true rfl⟩ (fun H locs hB => ?_)
  refine lv_astore (lv' := [(4, .ref (ad pp)), (0, .ref (ad 0)), (1, .int (nI b)), (2, .int (nI k)), (3, .int (nI w))]) hx hb dX8_read_5 hl (by decide) rfl (fun ls hl => ?_)
  refine lv_aload hx hb dX8_read_7 (lv_at hl 0 rfl) ?_
  refine lv_iload_n hx hb dX8_read_9 rfl (lv_at hl 4 rfl) ?_
  refine m_callSE (As := [.ref (ad pp), .int (nI w)]) (rest := []) ((by have h9 := c_X_textOf1_t l D ty L ad g pp pt vn (nI f) wd tf w m_pp m_pt h_pp h_pt hw4; rw [htf] at h9; exact h9 : m_E l yX8_textOf wsX8_textOf 2 42 D ty [.ref (ad pp), .int (nI w)] L ad g (some (.ref (ad t))) g)) ⟨hx, hb, hml, hown, hts⟩ (va_cwS 2 hts gX8_read_X8_textOf rfl rfl rfl (by decide +kernel) ⟨Nat.le_of_ble_eq_true rfl, Nat.le_of_ble_eq_true rfl⟩) hB rfl hl.1 rfl (Nat.le_of_ble_eq_true rfl) dX8_read_10 ⟨Nat.le_of_ble_eq_true rfl, Nat.le_of_ble_eq_true rfl⟩ (fun H locs hB => ?_)
  refine lv_astore (lv' := [(5, .ref (ad t)), (4, .ref (ad pp)), (0, .ref (ad 0)), (1, .int (nI b)), (2, .int (nI k)), (3, .int (nI w))]) hx hb dX8_read_13 hl (by decide) rfl (fun ls hl => ?_)
  refine lv_aload_n hx hb dX8_read_15 rfl (lv_at hl 2 rfl) ?_
  refine lv_iload_n hx hb dX8_read_16 rfl (lv_at hl 3 rfl) ?_
  refine m_callVE (ci := 8) (As := [.int (nI b)]) (rest := []) ((by have h9 := c_X_lastView_t l D ty L ad g pn qn nw tr vf b m_0 m_7 h_0 h_7 hb6; rw [hvr] at h9; exact h9 : m_E l yX8_lastViewOf wsX8_lastViewOf 1 21 D ty [.ref (ad 0), .int (nI b)] L ad g (some (.ref (ad r))) g)) ⟨hx, hb, hml, hown, hts⟩ (cwV 1 hts gX8_read_X8_lastViewOf rfl rfl rfl (by decide +kernel) ⟨Nat.le_of_ble_eq_true rfl, Nat.le_of_ble_eq_true rfl⟩) hB m_0 h_0 rfl rfl hl.1 rfl (Nat.le_of_ble_eq_true rfl) dX8_read_17 ⟨Nat.le_of_ble_eq_true rfl, Nat.le_of_ble_eq_true rfl⟩ (fun H locs hB => ?_)
  refine lv_astore (lv' := [(6, .ref (ad r)), (5, .ref (ad t)), (4, .ref (ad pp)), (0, .ref (ad 0)), (1, .int (nI b)), (2, .int (nI k)), (3, .int (nI w))]) hx hb dX8_read_20 hl (by decide) rfl (fun ls hl => ?_)
  refine lv_aload hx hb dX8_read_22 (lv_at hl 2 rfl) ?_
  refine lv_ifnull hx hb dX8_read_24 ?_
  refine lv_aload hx hb dX8_read_27 (lv_at hl 1 rfl) ?_
  refine lv_ifnull hx hb dX8_read_29 ?_
  refine lv_aload hx hb dX8_read_32 (lv_at hl 0 rfl) ?_
  refine lv_ifnonnull (tgt := 39) hx hb dX8_read_34 (by decide) ?_
  refine lv_aload_n hx hb dX8_read_39 rfl (lv_at hl 3 rfl) ?_
  refine lv_aload hx hb dX8_read_40 (lv_at hl 2 rfl) ?_
  refine lv_iload_n hx hb dX8_read_42 rfl (lv_at hl 4 rfl) ?_
  refine m_callVE (ci := 8) (As := [.ref (ad pp), .int (nI b)]) (rest := []) (c_X_isOpen1 l D ty L ad g pn qn nw tr fs fe pp pt vn wd b f m_0 m_3 m_4 m_5 m_pp h_0 h_3 h_4 h_5 h_pp hb6 hf4 hwd) ⟨hx, hb, hml, hown, hts⟩ (cwV 2 hts gX8_read_X8_isOpen rfl rfl rfl (by decide +kernel) ⟨Nat.le_of_ble_eq_true rfl, Nat.le_of_ble_eq_true rfl⟩) hB m_0 h_0 rfl rfl hl.1 rfl (Nat.le_of_ble_eq_true rfl) dX8_read_43 ⟨Nat.le_of_ble_eq_true rfl, Nat.le_of_ble_eq_true rfl⟩ (fun H locs hB => ?_)
  refine b_if_ne_t 52 hx hb dX8_read_46 (by decide) (by rw [hs]; decide) ?_
  refine lv_aload hx hb dX8_read_52 (lv_at hl 2 rfl) ?_
  refine lv_iload_n hx hb dX8_read_54 rfl (lv_at hl 4 rfl) ?_
  refine lv_aload hx hb dX8_read_55 (lv_at hl 1 rfl) ?_
  refine lv_aload hx hb dX8_read_57 (lv_at hl 0 rfl) ?_
  refine m_callUZ (ci := 1) (As := [.int (nI b), .ref (ad t), .ref (ad r)]) (rest := []) (c_Marked_copy l D ty L ad g pp (nI b) t ro a bl n bs bk r ra n0 bs0 fv m_t m_ro m_a m_bl m_r m_ra h_t h_ro h_a h_bl h_r h_ra hn40 hbk hfv h8 (by omega) (by omega) (by omega) (by omega) (by omega) (by omega) (by omega) (by omega) (by omega)) ⟨hx, hb, hml, hown, hts⟩ (va_cwO 3 hts gX8_read_X1_copyFor_u158X1 rfl rfl rfl oc_X8_read_X2_copyFor (by decide +kernel) ⟨Nat.le_of_ble_eq_true rfl, Nat.le_of_ble_eq_true rfl⟩) hB m_pp h_pp rfl rfl hl.1 rfl (Nat.le_of_ble_eq_true rfl) dX8_read_59 ⟨Nat.le_of_ble_eq_true rfl, Nat.le_of_ble_eq_true rfl⟩ (fun H locs hB => ?_)
  replace hB : m_B D ty A s L ad (va_up (va_up g ra (.inl (ty 2, 80, .inl (mkF true (nI b) fv bs0 n)))) r (.inr (5, [.ref (ad ra), .int (nI (mkN true (nI b) fv n))]))) H locs := hB
  refine lv_aload_n hx hb dX8_read_62 rfl (lv_at hl 3 rfl) ?_
  refine m_get (C := RX8) (T := TX8) (N := 12) (ci := 8) hx hb hts in_X8_read_X8 hown hB m_0 ((va_up_ne _ _ (by omega)).trans ((va_up_ne _ _ (by omega)).trans h_0)) rfl 6 (by decide) (hts (.fieldLink RX8 41 "PaperRoom" "seen" "LPaperRoom$Seen;") (by decide +kernel)) (fun _ h9 => h9) rfl dX8_read_63 ?_
  refine lv_aload_n hx hb dX8_read_66 rfl (lv_at hl 3 rfl) ?_
  refine m_get (C := RX8) (T := TX8) (N := 12) (ci := 8) hx hb hts in_X8_read_X8 hown hB m_0 ((va_up_ne _ _ (by omega)).trans ((va_up_ne _ _ (by omega)).trans h_0)) rfl 10 (by decide) (hts (.fieldLink RX8 122 "PaperRoom" "now" "I") (by decide +kernel)) (fun _ h9 => h9) rfl dX8_read_67 ?_
  refine lv_iload_n hx hb dX8_read_70 rfl (lv_at hl 4 rfl) ?_
  refine lv_iload_n hx hb dX8_read_71 rfl (lv_at hl 5 rfl) ?_
  refine lv_iload_n hx hb dX8_read_72 rfl (lv_at hl 6 rfl) ?_
  refine m_callVZ (ci := 6) (As := [.int nw, .int (nI b), .int (nI k), .int (nI w)]) (rest := []) (c_Seen_note_full l D ty L ad _ 22 23 24 25 26 27 en lo nw (nI b) (nI k) (nI w) m_22 ((va_up_ne _ _ (by omega)).trans ((va_up_ne _ _ (by omega)).trans h_22)) hen) ⟨hx, hb, hml, hown, hts⟩ (cwV 4 hts gX8_read_X6_note rfl rfl rfl (by decide +kernel) ⟨Nat.le_of_ble_eq_true rfl, Nat.le_of_ble_eq_true rfl⟩) hB m_22 ((va_up_ne _ _ (by omega)).trans ((va_up_ne _ _ (by omega)).trans h_22)) rfl rfl hl.1 rfl (Nat.le_of_ble_eq_true rfl) dX8_read_73 ⟨Nat.le_of_ble_eq_true rfl, Nat.le_of_ble_eq_true rfl⟩ (fun H locs hB => ?_)
  replace hB : m_B D ty A s L ad (va_up (va_up (va_up g ra (.inl (ty 2, 80, .inl (mkF true (nI b) fv bs0 n)))) r (.inr (5, [.ref (ad ra), .int (nI (mkN true (nI b) fv n))]))) 22 (.inr (6, [.ref (ad 23), .ref (ad 24), .ref (ad 25), .ref (ad 26), .ref (ad 27), .int (nI en), .int (lo + 1)]))) H locs := hB
  refine lv_aload hx hb dX8_read_76 (lv_at hl 0 rfl) ?_
  refine m_callVE (ci := 5) (As := []) (rest := []) (c_Row_length l D ty L ad _ r ra (mkN true (nI b) fv n) m_r ((va_up_ne _ _ (by omega)).trans (va_up_self _ _ _))) ⟨hx, hb, hml, hown, hts⟩ (cwV 0 hts gX8_read_X5_length rfl rfl rfl (by decide +kernel) ⟨Nat.le_of_ble_eq_true rfl, Nat.le_of_ble_eq_true rfl⟩) hB m_r ((va_up_ne _ _ (by omega)).trans (va_up_self _ _ _)) rfl rfl hl.1 rfl (Nat.le_of_ble_eq_true rfl) dX8_read_78 ⟨Nat.le_of_ble_eq_true rfl, Nat.le_of_ble_eq_true rfl⟩ (fun H locs hB => ?_)
  exact m_iret hx hb hrt hlocks hB (Nat.le_refl _) (Nat.le_refl _) dX8_read_81 ⟨rfl, rfl, rfl, rfl⟩
set_option maxHeartbeats 1000000 in
set_option maxRecDepth 100000 in
theorem c_X_read1_ok0 (l : Launch) (D : va_G) (ty : Nat → ClassId) (L : List Nat) (ad : Nat → Nat) (g : Nat → va_E) (pn qn : Nat) (nw : Int32) (tr : Int64) (pf : Nat → Option Nat) (vf : Nat → Option Nat) (r ra n0 b : Nat) (bs0 : Nat → Int32) (fs fe : Nat → Int32) (pp pt vn : Nat) (wd : Int32) (tf : Nat → Option Nat) (k f w t ro a bl n : Nat) (bs bk : Nat → Int32) (fv : Nat → Int32) (en : Nat) (lo : Int32) (f0 f1 f2 f3 : Nat → Int32) (f4 : Nat → Int64) (m_0 : 0 ∈ L) (m_3 : 3 ∈ L) (m_4 : 4 ∈ L) (m_5 : 5 ∈ L) (m_6 : 6 ∈ L) (m_7 : 7 ∈ L) (m_r : r ∈ L) (m_ra : ra ∈ L) (m_pp : pp ∈ L) (m_pt : pt ∈ L) (m_t : t ∈ L) (m_ro : ro ∈ L) (m_a : a ∈ L) (m_bl : bl ∈ L) (m_22 : 22 ∈ L) (m_23 : 23 ∈ L) (m_24 : 24 ∈ L) (m_25 : 25 ∈ L) (m_26 : 26 ∈ L) (m_27 : 27 ∈ L) (h_0 : g 0 = .inr (8, [.ref (ad 1), .ref (ad 3), .ref (ad 6), .int (nI pn), .ref (ad 7), .ref (ad 20), .ref (ad 22), .ref (ad 28), .int (nI qn), .ref (ad 29), .int nw, .long tr])) (h_3 : g 3 = .inr (4, [.ref (ad 4), .ref (ad 5)])) (h_4 : g 4 = .inl (ty 0, 12, .inl fs)) (h_5 : g 5 = .inl (ty 0, 12, .inl fe)) (h_6 : g 6 = .inl (ty 4, 8, .inr (.inr (.inr (.inr pf))))) (h_7 : g 7 = .inl (ty 6, 6, .inr (.inr (.inr (.inr vf))))) (h_r : g r = .inr (5, [.ref (ad ra), .int (nI n0)])) (h_ra : g ra = .inl (ty 2, 80, .inl bs0)) (h_pp : g pp = .inr (1, [.int (nI f), .ref (ad pt), .int (nI vn), .int wd])) (h_pt : g pt = .inl (ty 7, 4, .inr (.inr (.inr (.inr tf))))) (h_t : g t = .inr (7, [.ref (ad ro), .ref (ad bl)])) (h_ro : g ro = .inr (5, [.ref (ad a), .int (nI n)])) (h_a : g a = .inl (ty 2, n, .inl bs)) (h_bl : g bl = .inl (ty 3, n, .inl bk)) (h_22 : g 22 = .inr (6, [.ref (ad 23), .ref (ad 24), .ref (ad 25), .ref (ad 26), .ref (ad 27), .int (nI en), .int lo])) (h_23 : g 23 = .inl (ty 0, 200, .inl f0)) (h_24 : g 24 = .inl (ty 0, 200, .inl f1)) (h_25 : g 25 = .inl (ty 0, 200, .inl f2)) (h_26 : g 26 = .inl (ty 0, 200, .inl f3)) (h_27 : g 27 = .inl (ty 1, 200, .inr (.inl f4))) (hb6 : b < 6) (hvr : vf b = some (ad r)) (hk : k < 8) (hpp : pf k = some (ad pp)) (hw4 : w < 4) (htf : tf w = some (ad t)) (hf4 : f < 4) (hwd : wd = 0 ∨ wd = 1) (hs : (opn wd fs fe (b % 3 * 4 + f) nw) = true) (hn40 : n ≤ 40) (hbk : ∀ i, i < n → bk i = 0 ∨ bk i = 1) (hfv : ∀ i, i < n → fv i = pl (bs i) (bk i)) (h8 : ∀ i, i < n → (fv i).toInt8.toInt32 = fv i) (hr8 : 8 ≤ r ∧ r < 14) (hra8 : 14 ≤ ra ∧ ra < 20) (hb_pp : 30 ≤ pp) (hb_pt : 30 ≤ pt) (hb_t : 30 ≤ t) (hb_ro : 30 ≤ ro) (hb_a : 30 ≤ a) (hb_bl : 30 ≤ bl) (hen : en = 0) : m_E l yX8_read wsX8_read 5 113 D ty [.ref (ad 0), .int (nI b), .int (nI k), .int (nI w)] L ad g (some (.int (nI (mkN true (nI b) fv n)))) (va_up (va_up (va_up (va_up (va_up (va_up (va_up (va_up g ra (.inl (ty 2, 80, .inl (mkF true (nI b) fv bs0 n)))) r (.inr (5, [.ref (ad ra), .int (nI (mkN true (nI b) fv n))]))) 23 (.inl (ty 0, 200, .inl (upd f0 en nw)))) 24 (.inl (ty 0, 200, .inl (upd f1 en (nI b))))) 25 (.inl (ty 0, 200, .inl (upd f2 en (nI k))))) 26 (.inl (ty 0, 200, .inl (upd f3 en (nI w))))) 27 (.inl (ty 1, 200, .inr (.inl (vp_updL f4 en (lk (7) nw (nI b) (nI k) (nI w))))))) 22 (.inr (6, [.ref (ad 23), .ref (ad 24), .ref (ad 25), .ref (ad 26), .ref (ad 27), .int (nI (en + 1)), .int lo]))) := by
  intro sz
  refine Met.ofW (cc := cX8_read) (maxL := 7) (ret := (some .int)) (by decide) rfl ?_
  intro p e s m args below meth c s₁ B hml hv
  have hx := B.exec
  have hb := B.bytes
  have hrt := B.returns
  have hts := atoms_spec (ws := wsX8_read) B.pre
  have hown : s.vm.findClass RX8 = some m.cls := findClass_of_methodNamed B.named
  have hlocks := B.notSynchronized
  obtain ⟨rfl, hB⟩ := m_start hv
  generalize va_A (m_w L ad g) sz = A at hB ⊢
  generalize s.heap = H at hB ⊢
  generalize ([] : List Loc) = locs at hB ⊢
  have hl := lv_entry ([.ref (ad 0), .int (nI b), .int (nI k), .int (nI w)]) (n := 7) (Nat.le_of_ble_eq_true rfl)
  rw [lg_entry_eq]
  generalize (lg_sl ([.ref (ad 0), .int (nI b), .int (nI k), .int (nI w)]) ++ List.replicate (7 - (lg_sl ([.ref (ad 0), .int (nI b), .int (nI k), .int (nI w)])).length) Slot.unset).toArray = ls at hl ⊢
  have hl : lv_has ls 7 [(0, .ref (ad 0)), (1, .int (nI b)), (2, .int (nI k)), (3, .int (nI w))] := hl
  refine lv_aload_n hx hb dX8_read_0 rfl (lv_at hl 0 rfl) ?_
  refine lv_iload_n hx hb dX8_read_1 rfl (lv_at hl 2 rfl) ?_
  refine m_callVE (ci := 8) (As := [.int (nI k)]) (rest := []) ((by have h9 := c_X_paperNumber_t l D ty L ad g pn qn nw tr pf k m_0 m_6 h_0 h_6 hk; rw [hpp] at h9; exact h9 : m_E l yX8_paperNumber wsX8_paperNumber 1 21 D ty [.ref (ad 0), .int (nI k)] L ad g (some (.ref (ad pp))) g)) ⟨hx, hb, hml, hown, hts⟩ (cwV 1 hts gX8_read_X8_paperNumber rfl rfl rfl (by decide +kernel) ⟨Nat.le_of_ble_eq_true rfl, Nat.le_of_ble_eq_true rfl⟩) hB m_0 h_0 rfl rfl hl.1 rfl (Nat.le_of_ble_eq_true rfl) dX8_read_2 ⟨Nat.le_of_ble_eq_true rfl, Nat.le_of_ble_eq_true rfl⟩ (fun H locs hB => ?_)
  refine lv_astore (lv' := [(4, .ref (ad pp)), (0, .ref (ad 0)), (1, .int (nI b)), (2, .int (nI k)), (3, .int (nI w))]) hx hb dX8_read_5 hl (by decide) rfl (fun ls hl => ?_)
  refine lv_aload hx hb dX8_read_7 (lv_at hl 0 rfl) ?_
  refine lv_iload_n hx hb dX8_read_9 rfl (lv_at hl 4 rfl) ?_
  refine m_callSE (As := [.ref (ad pp), .int (nI w)]) (rest := []) ((by have h9 := c_X_textOf1_t l D ty L ad g pp pt vn (nI f) wd tf w m_pp m_pt h_pp h_pt hw4; rw [htf] at h9; exact h9 : m_E l yX8_textOf wsX8_textOf 2 42 D ty [.ref (ad pp), .int (nI w)] L ad g (some (.ref (ad t))) g)) ⟨hx, hb, hml, hown, hts⟩ (va_cwS 2 hts gX8_read_X8_textOf rfl rfl rfl (by decide +kernel) ⟨Nat.le_of_ble_eq_true rfl, Nat.le_of_ble_eq_true rfl⟩) hB rfl hl.1 rfl (Nat.le_of_ble_eq_true rfl) dX8_read_10 ⟨Nat.le_of_ble_eq_true rfl, Nat.le_of_ble_eq_true rfl⟩ (fun H locs hB => ?_)
  refine lv_astore (lv' := [(5, .ref (ad t)), (4, .ref (ad pp)), (0, .ref (ad 0)), (1, .int (nI b)), (2, .int (nI k)), (3, .int (nI w))]) hx hb dX8_read_13 hl (by decide) rfl (fun ls hl => ?_)
  refine lv_aload_n hx hb dX8_read_15 rfl (lv_at hl 2 rfl) ?_
  refine lv_iload_n hx hb dX8_read_16 rfl (lv_at hl 3 rfl) ?_
  refine m_callVE (ci := 8) (As := [.int (nI b)]) (rest := []) ((by have h9 := c_X_lastView_t l D ty L ad g pn qn nw tr vf b m_0 m_7 h_0 h_7 hb6; rw [hvr] at h9; exact h9 : m_E l yX8_lastViewOf wsX8_lastViewOf 1 21 D ty [.ref (ad 0), .int (nI b)] L ad g (some (.ref (ad r))) g)) ⟨hx, hb, hml, hown, hts⟩ (cwV 1 hts gX8_read_X8_lastViewOf rfl rfl rfl (by decide +kernel) ⟨Nat.le_of_ble_eq_true rfl, Nat.le_of_ble_eq_true rfl⟩) hB m_0 h_0 rfl rfl hl.1 rfl (Nat.le_of_ble_eq_true rfl) dX8_read_17 ⟨Nat.le_of_ble_eq_true rfl, Nat.le_of_ble_eq_true rfl⟩ (fun H locs hB => ?_)
  refine lv_astore (lv' := [(6, .ref (ad r)), (5, .ref (ad t)), (4, .ref (ad pp)), (0, .ref (ad 0)), (1, .int (nI b)), (2, .int (nI k)), (3, .int (nI w))]) hx hb dX8_read_20 hl (by decide) rfl (fun ls hl => ?_)
  refine lv_aload hx hb dX8_read_22 (lv_at hl 2 rfl) ?_
  refine lv_ifnull hx hb dX8_read_24 ?_
  refine lv_aload hx hb dX8_read_27 (lv_at hl 1 rfl) ?_
  refine lv_ifnull hx hb dX8_read_29 ?_
  refine lv_aload hx hb dX8_read_32 (lv_at hl 0 rfl) ?_
  refine lv_ifnonnull (tgt := 39) hx hb dX8_read_34 (by decide) ?_
  refine lv_aload_n hx hb dX8_read_39 rfl (lv_at hl 3 rfl) ?_
  refine lv_aload hx hb dX8_read_40 (lv_at hl 2 rfl) ?_
  refine lv_iload_n hx hb dX8_read_42 rfl (lv_at hl 4 rfl) ?_
  refine m_callVE (ci := 8) (As := [.ref (ad pp), .int (nI b)]) (rest := []) (c_X_isOpen1 l D ty L ad g pn qn nw tr fs fe pp pt vn wd b f m_0 m_3 m_4 m_5 m_pp h_0 h_3 h_4 h_5 h_pp hb6 hf4 hwd) ⟨hx, hb, hml, hown, hts⟩ (cwV 2 hts gX8_read_X8_isOpen rfl rfl rfl (by decide +kernel) ⟨Nat.le_of_ble_eq_true rfl, Nat.le_of_ble_eq_true rfl⟩) hB m_0 h_0 rfl rfl hl.1 rfl (Nat.le_of_ble_eq_true rfl) dX8_read_43 ⟨Nat.le_of_ble_eq_true rfl, Nat.le_of_ble_eq_true rfl⟩ (fun H locs hB => ?_)
  refine b_if_ne_t 52 hx hb dX8_read_46 (by decide) (by rw [hs]; decide) ?_
  refine lv_aload hx hb dX8_read_52 (lv_at hl 2 rfl) ?_
  refine lv_iload_n hx hb dX8_read_54 rfl (lv_at hl 4 rfl) ?_
  refine lv_aload hx hb dX8_read_55 (lv_at hl 1 rfl) ?_
  refine lv_aload hx hb dX8_read_57 (lv_at hl 0 rfl) ?_
  refine m_callUZ (ci := 1) (As := [.int (nI b), .ref (ad t), .ref (ad r)]) (rest := []) (c_Marked_copy l D ty L ad g pp (nI b) t ro a bl n bs bk r ra n0 bs0 fv m_t m_ro m_a m_bl m_r m_ra h_t h_ro h_a h_bl h_r h_ra hn40 hbk hfv h8 (by omega) (by omega) (by omega) (by omega) (by omega) (by omega) (by omega) (by omega) (by omega)) ⟨hx, hb, hml, hown, hts⟩ (va_cwO 3 hts gX8_read_X1_copyFor_u158X1 rfl rfl rfl oc_X8_read_X2_copyFor (by decide +kernel) ⟨Nat.le_of_ble_eq_true rfl, Nat.le_of_ble_eq_true rfl⟩) hB m_pp h_pp rfl rfl hl.1 rfl (Nat.le_of_ble_eq_true rfl) dX8_read_59 ⟨Nat.le_of_ble_eq_true rfl, Nat.le_of_ble_eq_true rfl⟩ (fun H locs hB => ?_)
  replace hB : m_B D ty A s L ad (va_up (va_up g ra (.inl (ty 2, 80, .inl (mkF true (nI b) fv bs0 n)))) r (.inr (5, [.ref (ad ra), .int (nI (mkN true (nI b) fv n))]))) H locs := hB
  refine lv_aload_n hx hb dX8_read_62 rfl (lv_at hl 3 rfl) ?_
  refine m_get (C := RX8) (T := TX8) (N := 12) (ci := 8) hx hb hts in_X8_read_X8 hown hB m_0 ((va_up_ne _ _ (by omega)).trans ((va_up_ne _ _ (by omega)).trans h_0)) rfl 6 (by decide) (hts (.fieldLink RX8 41 "PaperRoom" "seen" "LPaperRoom$Seen;") (by decide +kernel)) (fun _ h9 => h9) rfl dX8_read_63 ?_
  refine lv_aload_n hx hb dX8_read_66 rfl (lv_at hl 3 rfl) ?_
  refine m_get (C := RX8) (T := TX8) (N := 12) (ci := 8) hx hb hts in_X8_read_X8 hown hB m_0 ((va_up_ne _ _ (by omega)).trans ((va_up_ne _ _ (by omega)).trans h_0)) rfl 10 (by decide) (hts (.fieldLink RX8 122 "PaperRoom" "now" "I") (by decide +kernel)) (fun _ h9 => h9) rfl dX8_read_67 ?_
  refine lv_iload_n hx hb dX8_read_70 rfl (lv_at hl 4 rfl) ?_
  refine lv_iload_n hx hb dX8_read_71 rfl (lv_at hl 5 rfl) ?_
  refine lv_iload_n hx hb dX8_read_72 rfl (lv_at hl 6 rfl) ?_
  refine m_callVZ (ci := 6) (As := [.int nw, .int (nI b), .int (nI k), .int (nI w)]) (rest := []) (c_Seen_note_0 l D ty L ad _ 22 23 24 25 26 27 en lo f0 f1 f2 f3 f4 nw (nI b) (nI k) (nI w) m_22 m_23 m_24 m_25 m_26 m_27 ((va_up_ne _ _ (by omega)).trans ((va_up_ne _ _ (by omega)).trans h_22)) ((va_up_ne _ _ (by omega)).trans ((va_up_ne _ _ (by omega)).trans h_23)) ((va_up_ne _ _ (by omega)).trans ((va_up_ne _ _ (by omega)).trans h_24)) ((va_up_ne _ _ (by omega)).trans ((va_up_ne _ _ (by omega)).trans h_25)) ((va_up_ne _ _ (by omega)).trans ((va_up_ne _ _ (by omega)).trans h_26)) ((va_up_ne _ _ (by omega)).trans ((va_up_ne _ _ (by omega)).trans h_27)) hen (by decide) (by decide) (by decide) (by decide) (by decide) (by decide) (by decide) (by decide) (by decide) (by decide) (by decide) (by decide) (by decide) (by decide) (by decide)) ⟨hx, hb, hml, hown, hts⟩ (cwV 4 hts gX8_read_X6_note rfl rfl rfl (by decide +kernel) ⟨Nat.le_of_ble_eq_true rfl, Nat.le_of_ble_eq_true rfl⟩) hB m_22 ((va_up_ne _ _ (by omega)).trans ((va_up_ne _ _ (by omega)).trans h_22)) rfl rfl hl.1 rfl (Nat.le_of_ble_eq_true rfl) dX8_read_73 ⟨Nat.le_of_ble_eq_true rfl, Nat.le_of_ble_eq_true rfl⟩ (fun H locs hB => ?_)
  replace hB : m_B D ty A s L ad (va_up (va_up (va_up (va_up (va_up (va_up (va_up (va_up g ra (.inl (ty 2, 80, .inl (mkF true (nI b) fv bs0 n)))) r (.inr (5, [.ref (ad ra), .int (nI (mkN true (nI b) fv n))]))) 23 (.inl (ty 0, 200, .inl (upd f0 en nw)))) 24 (.inl (ty 0, 200, .inl (upd f1 en (nI b))))) 25 (.inl (ty 0, 200, .inl (upd f2 en (nI k))))) 26 (.inl (ty 0, 200, .inl (upd f3 en (nI w))))) 27 (.inl (ty 1, 200, .inr (.inl (vp_updL f4 en (lk (7) nw (nI b) (nI k) (nI w))))))) 22 (.inr (6, [.ref (ad 23), .ref (ad 24), .ref (ad 25), .ref (ad 26), .ref (ad 27), .int (nI (en + 1)), .int lo]))) H locs := hB
  refine lv_aload hx hb dX8_read_76 (lv_at hl 0 rfl) ?_
  refine m_callVE (ci := 5) (As := []) (rest := []) (c_Row_length l D ty L ad _ r ra (mkN true (nI b) fv n) m_r ((va_up_ne _ _ (by omega)).trans ((va_up_ne _ _ (by omega)).trans ((va_up_ne _ _ (by omega)).trans ((va_up_ne _ _ (by omega)).trans ((va_up_ne _ _ (by omega)).trans ((va_up_ne _ _ (by omega)).trans (va_up_self _ _ _)))))))) ⟨hx, hb, hml, hown, hts⟩ (cwV 0 hts gX8_read_X5_length rfl rfl rfl (by decide +kernel) ⟨Nat.le_of_ble_eq_true rfl, Nat.le_of_ble_eq_true rfl⟩) hB m_r ((va_up_ne _ _ (by omega)).trans ((va_up_ne _ _ (by omega)).trans ((va_up_ne _ _ (by omega)).trans ((va_up_ne _ _ (by omega)).trans ((va_up_ne _ _ (by omega)).trans ((va_up_ne _ _ (by omega)).trans (va_up_self _ _ _))))))) rfl rfl hl.1 rfl (Nat.le_of_ble_eq_true rfl) dX8_read_78 ⟨Nat.le_of_ble_eq_true rfl, Nat.le_of_ble_eq_true rfl⟩ (fun H locs hB => ?_)
  exact m_iret hx hb hrt hlocks hB (Nat.le_refl _) (Nat.le_refl _) dX8_read_81 ⟨rfl, rfl, rfl, rfl⟩
set_option maxHeartbeats 1000000 in
set_option maxRecDepth 100000 in
theorem c_X_read1_ok1 (l : Launch) (D : va_G) (ty : Nat → ClassId) (L : List Nat) (ad : Nat → Nat) (g : Nat → va_E) (pn qn : Nat) (nw : Int32) (tr : Int64) (pf : Nat → Option Nat) (vf : Nat → Option Nat) (r ra n0 b : Nat) (bs0 : Nat → Int32) (fs fe : Nat → Int32) (pp pt vn : Nat) (wd : Int32) (tf : Nat → Option Nat) (k f w t ro a bl n : Nat) (bs bk : Nat → Int32) (fv : Nat → Int32) (en : Nat) (lo : Int32) (f0 f1 f2 f3 : Nat → Int32) (f4 : Nat → Int64) (m_0 : 0 ∈ L) (m_3 : 3 ∈ L) (m_4 : 4 ∈ L) (m_5 : 5 ∈ L) (m_6 : 6 ∈ L) (m_7 : 7 ∈ L) (m_r : r ∈ L) (m_ra : ra ∈ L) (m_pp : pp ∈ L) (m_pt : pt ∈ L) (m_t : t ∈ L) (m_ro : ro ∈ L) (m_a : a ∈ L) (m_bl : bl ∈ L) (m_22 : 22 ∈ L) (m_23 : 23 ∈ L) (m_24 : 24 ∈ L) (m_25 : 25 ∈ L) (m_26 : 26 ∈ L) (m_27 : 27 ∈ L) (h_0 : g 0 = .inr (8, [.ref (ad 1), .ref (ad 3), .ref (ad 6), .int (nI pn), .ref (ad 7), .ref (ad 20), .ref (ad 22), .ref (ad 28), .int (nI qn), .ref (ad 29), .int nw, .long tr])) (h_3 : g 3 = .inr (4, [.ref (ad 4), .ref (ad 5)])) (h_4 : g 4 = .inl (ty 0, 12, .inl fs)) (h_5 : g 5 = .inl (ty 0, 12, .inl fe)) (h_6 : g 6 = .inl (ty 4, 8, .inr (.inr (.inr (.inr pf))))) (h_7 : g 7 = .inl (ty 6, 6, .inr (.inr (.inr (.inr vf))))) (h_r : g r = .inr (5, [.ref (ad ra), .int (nI n0)])) (h_ra : g ra = .inl (ty 2, 80, .inl bs0)) (h_pp : g pp = .inr (1, [.int (nI f), .ref (ad pt), .int (nI vn), .int wd])) (h_pt : g pt = .inl (ty 7, 4, .inr (.inr (.inr (.inr tf))))) (h_t : g t = .inr (7, [.ref (ad ro), .ref (ad bl)])) (h_ro : g ro = .inr (5, [.ref (ad a), .int (nI n)])) (h_a : g a = .inl (ty 2, n, .inl bs)) (h_bl : g bl = .inl (ty 3, n, .inl bk)) (h_22 : g 22 = .inr (6, [.ref (ad 23), .ref (ad 24), .ref (ad 25), .ref (ad 26), .ref (ad 27), .int (nI en), .int lo])) (h_23 : g 23 = .inl (ty 0, 200, .inl f0)) (h_24 : g 24 = .inl (ty 0, 200, .inl f1)) (h_25 : g 25 = .inl (ty 0, 200, .inl f2)) (h_26 : g 26 = .inl (ty 0, 200, .inl f3)) (h_27 : g 27 = .inl (ty 1, 200, .inr (.inl f4))) (hb6 : b < 6) (hvr : vf b = some (ad r)) (hk : k < 8) (hpp : pf k = some (ad pp)) (hw4 : w < 4) (htf : tf w = some (ad t)) (hf4 : f < 4) (hwd : wd = 0 ∨ wd = 1) (hs : (opn wd fs fe (b % 3 * 4 + f) nw) = true) (hn40 : n ≤ 40) (hbk : ∀ i, i < n → bk i = 0 ∨ bk i = 1) (hfv : ∀ i, i < n → fv i = pl (bs i) (bk i)) (h8 : ∀ i, i < n → (fv i).toInt8.toInt32 = fv i) (hr8 : 8 ≤ r ∧ r < 14) (hra8 : 14 ≤ ra ∧ ra < 20) (hb_pp : 30 ≤ pp) (hb_pt : 30 ≤ pt) (hb_t : 30 ≤ t) (hb_ro : 30 ≤ ro) (hb_a : 30 ≤ a) (hb_bl : 30 ≤ bl) (he0 : 0 < en) (hen : en < 200) : m_E l yX8_read wsX8_read 5 113 D ty [.ref (ad 0), .int (nI b), .int (nI k), .int (nI w)] L ad g (some (.int (nI (mkN true (nI b) fv n)))) (va_up (va_up (va_up (va_up (va_up (va_up (va_up (va_up g ra (.inl (ty 2, 80, .inl (mkF true (nI b) fv bs0 n)))) r (.inr (5, [.ref (ad ra), .int (nI (mkN true (nI b) fv n))]))) 23 (.inl (ty 0, 200, .inl (upd f0 en nw)))) 24 (.inl (ty 0, 200, .inl (upd f1 en (nI b))))) 25 (.inl (ty 0, 200, .inl (upd f2 en (nI k))))) 26 (.inl (ty 0, 200, .inl (upd f3 en (nI w))))) 27 (.inl (ty 1, 200, .inr (.inl (vp_updL f4 en (lk (f4 (en - 1)) nw (nI b) (nI k) (nI w))))))) 22 (.inr (6, [.ref (ad 23), .ref (ad 24), .ref (ad 25), .ref (ad 26), .ref (ad 27), .int (nI (en + 1)), .int lo]))) := by
  intro sz
  refine Met.ofW (cc := cX8_read) (maxL := 7) (ret := (some .int)) (by decide) rfl ?_
  intro p e s m args below meth c s₁ B hml hv
  have hx := B.exec
  have hb := B.bytes
  have hrt := B.returns
  have hts := atoms_spec (ws := wsX8_read) B.pre
  have hown : s.vm.findClass RX8 = some m.cls := findClass_of_methodNamed B.named
  have hlocks := B.notSynchronized
  obtain ⟨rfl, hB⟩ := m_start hv
  generalize va_A (m_w L ad g) sz = A at hB ⊢
  generalize s.heap = H at hB ⊢
  generalize ([] : List Loc) = locs at hB ⊢
  have hl := lv_entry ([.ref (ad 0), .int (nI b), .int (nI k), .int (nI w)]) (n := 7) (Nat.le_of_ble_eq_true rfl)
  rw [lg_entry_eq]
  generalize (lg_sl ([.ref (ad 0), .int (nI b), .int (nI k), .int (nI w)]) ++ List.replicate (7 - (lg_sl ([.ref (ad 0), .int (nI b), .int (nI k), .int (nI w)])).length) Slot.unset).toArray = ls at hl ⊢
  have hl : lv_has ls 7 [(0, .ref (ad 0)), (1, .int (nI b)), (2, .int (nI k)), (3, .int (nI w))] := hl
  refine lv_aload_n hx hb dX8_read_0 rfl (lv_at hl 0 rfl) ?_
  refine lv_iload_n hx hb dX8_read_1 rfl (lv_at hl 2 rfl) ?_
  refine m_callVE (ci := 8) (As := [.int (nI k)]) (rest := []) ((by have h9 := c_X_paperNumber_t l D ty L ad g pn qn nw tr pf k m_0 m_6 h_0 h_6 hk; rw [hpp] at h9; exact h9 : m_E l yX8_paperNumber wsX8_paperNumber 1 21 D ty [.ref (ad 0), .int (nI k)] L ad g (some (.ref (ad pp))) g)) ⟨hx, hb, hml, hown, hts⟩ (cwV 1 hts gX8_read_X8_paperNumber rfl rfl rfl (by decide +kernel) ⟨Nat.le_of_ble_eq_true rfl, Nat.le_of_ble_eq_true rfl⟩) hB m_0 h_0 rfl rfl hl.1 rfl (Nat.le_of_ble_eq_true rfl) dX8_read_2 ⟨Nat.le_of_ble_eq_true rfl, Nat.le_of_ble_eq_true rfl⟩ (fun H locs hB => ?_)
  refine lv_astore (lv' := [(4, .ref (ad pp)), (0, .ref (ad 0)), (1, .int (nI b)), (2, .int (nI k)), (3, .int (nI w))]) hx hb dX8_read_5 hl (by decide) rfl (fun ls hl => ?_)
  refine lv_aload hx hb dX8_read_7 (lv_at hl 0 rfl) ?_
  refine lv_iload_n hx hb dX8_read_9 rfl (lv_at hl 4 rfl) ?_
  refine m_callSE (As := [.ref (ad pp), .int (nI w)]) (rest := []) ((by have h9 := c_X_textOf1_t l D ty L ad g pp pt vn (nI f) wd tf w m_pp m_pt h_pp h_pt hw4; rw [htf] at h9; exact h9 : m_E l yX8_textOf wsX8_textOf 2 42 D ty [.ref (ad pp), .int (nI w)] L ad g (some (.ref (ad t))) g)) ⟨hx, hb, hml, hown, hts⟩ (va_cwS 2 hts gX8_read_X8_textOf rfl rfl rfl (by decide +kernel) ⟨Nat.le_of_ble_eq_true rfl, Nat.le_of_ble_eq_true rfl⟩) hB rfl hl.1 rfl (Nat.le_of_ble_eq_true rfl) dX8_read_10 ⟨Nat.le_of_ble_eq_true rfl, Nat.le_of_ble_eq_true rfl⟩ (fun H locs hB => ?_)
  refine lv_astore (lv' := [(5, .ref (ad t)), (4, .ref (ad pp)), (0, .ref (ad 0)), (1, .int (nI b)), (2, .int (nI k)), (3, .int (nI w))]) hx hb dX8_read_13 hl (by decide) rfl (fun ls hl => ?_)
  refine lv_aload_n hx hb dX8_read_15 rfl (lv_at hl 2 rfl) ?_
  refine lv_iload_n hx hb dX8_read_16 rfl (lv_at hl 3 rfl) ?_
  refine m_callVE (ci := 8) (As := [.int (nI b)]) (rest := []) ((by have h9 := c_X_lastView_t l D ty L ad g pn qn nw tr vf b m_0 m_7 h_0 h_7 hb6; rw [hvr] at h9; exact h9 : m_E l yX8_lastViewOf wsX8_lastViewOf 1 21 D ty [.ref (ad 0), .int (nI b)] L ad g (some (.ref (ad r))) g)) ⟨hx, hb, hml, hown, hts⟩ (cwV 1 hts gX8_read_X8_lastViewOf rfl rfl rfl (by decide +kernel) ⟨Nat.le_of_ble_eq_true rfl, Nat.le_of_ble_eq_true rfl⟩) hB m_0 h_0 rfl rfl hl.1 rfl (Nat.le_of_ble_eq_true rfl) dX8_read_17 ⟨Nat.le_of_ble_eq_true rfl, Nat.le_of_ble_eq_true rfl⟩ (fun H locs hB => ?_)
  refine lv_astore (lv' := [(6, .ref (ad r)), (5, .ref (ad t)), (4, .ref (ad pp)), (0, .ref (ad 0)), (1, .int (nI b)), (2, .int (nI k)), (3, .int (nI w))]) hx hb dX8_read_20 hl (by decide) rfl (fun ls hl => ?_)
  refine lv_aload hx hb dX8_read_22 (lv_at hl 2 rfl) ?_
  refine lv_ifnull hx hb dX8_read_24 ?_
  refine lv_aload hx hb dX8_read_27 (lv_at hl 1 rfl) ?_
  refine lv_ifnull hx hb dX8_read_29 ?_
  refine lv_aload hx hb dX8_read_32 (lv_at hl 0 rfl) ?_
  refine lv_ifnonnull (tgt := 39) hx hb dX8_read_34 (by decide) ?_
  refine lv_aload_n hx hb dX8_read_39 rfl (lv_at hl 3 rfl) ?_
  refine lv_aload hx hb dX8_read_40 (lv_at hl 2 rfl) ?_
  refine lv_iload_n hx hb dX8_read_42 rfl (lv_at hl 4 rfl) ?_
  refine m_callVE (ci := 8) (As := [.ref (ad pp), .int (nI b)]) (rest := []) (c_X_isOpen1 l D ty L ad g pn qn nw tr fs fe pp pt vn wd b f m_0 m_3 m_4 m_5 m_pp h_0 h_3 h_4 h_5 h_pp hb6 hf4 hwd) ⟨hx, hb, hml, hown, hts⟩ (cwV 2 hts gX8_read_X8_isOpen rfl rfl rfl (by decide +kernel) ⟨Nat.le_of_ble_eq_true rfl, Nat.le_of_ble_eq_true rfl⟩) hB m_0 h_0 rfl rfl hl.1 rfl (Nat.le_of_ble_eq_true rfl) dX8_read_43 ⟨Nat.le_of_ble_eq_true rfl, Nat.le_of_ble_eq_true rfl⟩ (fun H locs hB => ?_)
  refine b_if_ne_t 52 hx hb dX8_read_46 (by decide) (by rw [hs]; decide) ?_
  refine lv_aload hx hb dX8_read_52 (lv_at hl 2 rfl) ?_
  refine lv_iload_n hx hb dX8_read_54 rfl (lv_at hl 4 rfl) ?_
  refine lv_aload hx hb dX8_read_55 (lv_at hl 1 rfl) ?_
  refine lv_aload hx hb dX8_read_57 (lv_at hl 0 rfl) ?_
  refine m_callUZ (ci := 1) (As := [.int (nI b), .ref (ad t), .ref (ad r)]) (rest := []) (c_Marked_copy l D ty L ad g pp (nI b) t ro a bl n bs bk r ra n0 bs0 fv m_t m_ro m_a m_bl m_r m_ra h_t h_ro h_a h_bl h_r h_ra hn40 hbk hfv h8 (by omega) (by omega) (by omega) (by omega) (by omega) (by omega) (by omega) (by omega) (by omega)) ⟨hx, hb, hml, hown, hts⟩ (va_cwO 3 hts gX8_read_X1_copyFor_u158X1 rfl rfl rfl oc_X8_read_X2_copyFor (by decide +kernel) ⟨Nat.le_of_ble_eq_true rfl, Nat.le_of_ble_eq_true rfl⟩) hB m_pp h_pp rfl rfl hl.1 rfl (Nat.le_of_ble_eq_true rfl) dX8_read_59 ⟨Nat.le_of_ble_eq_true rfl, Nat.le_of_ble_eq_true rfl⟩ (fun H locs hB => ?_)
  replace hB : m_B D ty A s L ad (va_up (va_up g ra (.inl (ty 2, 80, .inl (mkF true (nI b) fv bs0 n)))) r (.inr (5, [.ref (ad ra), .int (nI (mkN true (nI b) fv n))]))) H locs := hB
  refine lv_aload_n hx hb dX8_read_62 rfl (lv_at hl 3 rfl) ?_
  refine m_get (C := RX8) (T := TX8) (N := 12) (ci := 8) hx hb hts in_X8_read_X8 hown hB m_0 ((va_up_ne _ _ (by omega)).trans ((va_up_ne _ _ (by omega)).trans h_0)) rfl 6 (by decide) (hts (.fieldLink RX8 41 "PaperRoom" "seen" "LPaperRoom$Seen;") (by decide +kernel)) (fun _ h9 => h9) rfl dX8_read_63 ?_
  refine lv_aload_n hx hb dX8_read_66 rfl (lv_at hl 3 rfl) ?_
  refine m_get (C := RX8) (T := TX8) (N := 12) (ci := 8) hx hb hts in_X8_read_X8 hown hB m_0 ((va_up_ne _ _ (by omega)).trans ((va_up_ne _ _ (by omega)).trans h_0)) rfl 10 (by decide) (hts (.fieldLink RX8 122 "PaperRoom" "now" "I") (by decide +kernel)) (fun _ h9 => h9) rfl dX8_read_67 ?_
  refine lv_iload_n hx hb dX8_read_70 rfl (lv_at hl 4 rfl) ?_
  refine lv_iload_n hx hb dX8_read_71 rfl (lv_at hl 5 rfl) ?_
  refine lv_iload_n hx hb dX8_read_72 rfl (lv_at hl 6 rfl) ?_
  refine m_callVZ (ci := 6) (As := [.int nw, .int (nI b), .int (nI k), .int (nI w)]) (rest := []) (c_Seen_note_1 l D ty L ad _ 22 23 24 25 26 27 en lo f0 f1 f2 f3 f4 nw (nI b) (nI k) (nI w) m_22 m_23 m_24 m_25 m_26 m_27 ((va_up_ne _ _ (by omega)).trans ((va_up_ne _ _ (by omega)).trans h_22)) ((va_up_ne _ _ (by omega)).trans ((va_up_ne _ _ (by omega)).trans h_23)) ((va_up_ne _ _ (by omega)).trans ((va_up_ne _ _ (by omega)).trans h_24)) ((va_up_ne _ _ (by omega)).trans ((va_up_ne _ _ (by omega)).trans h_25)) ((va_up_ne _ _ (by omega)).trans ((va_up_ne _ _ (by omega)).trans h_26)) ((va_up_ne _ _ (by omega)).trans ((va_up_ne _ _ (by omega)).trans h_27)) he0 hen (by decide) (by decide) (by decide) (by decide) (by decide) (by decide) (by decide) (by decide) (by decide) (by decide) (by decide) (by decide) (by decide) (by decide) (by decide)) ⟨hx, hb, hml, hown, hts⟩ (cwV 4 hts gX8_read_X6_note rfl rfl rfl (by decide +kernel) ⟨Nat.le_of_ble_eq_true rfl, Nat.le_of_ble_eq_true rfl⟩) hB m_22 ((va_up_ne _ _ (by omega)).trans ((va_up_ne _ _ (by omega)).trans h_22)) rfl rfl hl.1 rfl (Nat.le_of_ble_eq_true rfl) dX8_read_73 ⟨Nat.le_of_ble_eq_true rfl, Nat.le_of_ble_eq_true rfl⟩ (fun H locs hB => ?_)
  replace hB : m_B D ty A s L ad (va_up (va_up (va_up (va_up (va_up (va_up (va_up (va_up g ra (.inl (ty 2, 80, .inl (mkF true (nI b) fv bs0 n)))) r (.inr (5, [.ref (ad ra), .int (nI (mkN true (nI b) fv n))]))) 23 (.inl (ty 0, 200, .inl (upd f0 en nw)))) 24 (.inl (ty 0, 200, .inl (upd f1 en (nI b))))) 25 (.inl (ty 0, 200, .inl (upd f2 en (nI k))))) 26 (.inl (ty 0, 200, .inl (upd f3 en (nI w))))) 27 (.inl (ty 1, 200, .inr (.inl (vp_updL f4 en (lk (f4 (en - 1)) nw (nI b) (nI k) (nI w))))))) 22 (.inr (6, [.ref (ad 23), .ref (ad 24), .ref (ad 25), .ref (ad 26), .ref (ad 27), .int (nI (en + 1)), .int lo]))) H locs := hB
  refine lv_aload hx hb dX8_read_76 (lv_at hl 0 rfl) ?_
  refine m_callVE (ci := 5) (As := []) (rest := []) (c_Row_length l D ty L ad _ r ra (mkN true (nI b) fv n) m_r ((va_up_ne _ _ (by omega)).trans ((va_up_ne _ _ (by omega)).trans ((va_up_ne _ _ (by omega)).trans ((va_up_ne _ _ (by omega)).trans ((va_up_ne _ _ (by omega)).trans ((va_up_ne _ _ (by omega)).trans (va_up_self _ _ _)))))))) ⟨hx, hb, hml, hown, hts⟩ (cwV 0 hts gX8_read_X5_length rfl rfl rfl (by decide +kernel) ⟨Nat.le_of_ble_eq_true rfl, Nat.le_of_ble_eq_true rfl⟩) hB m_r ((va_up_ne _ _ (by omega)).trans ((va_up_ne _ _ (by omega)).trans ((va_up_ne _ _ (by omega)).trans ((va_up_ne _ _ (by omega)).trans ((va_up_ne _ _ (by omega)).trans ((va_up_ne _ _ (by omega)).trans (va_up_self _ _ _))))))) rfl rfl hl.1 rfl (Nat.le_of_ble_eq_true rfl) dX8_read_78 ⟨Nat.le_of_ble_eq_true rfl, Nat.le_of_ble_eq_true rfl⟩ (fun H locs hB => ?_)
  exact m_iret hx hb hrt hlocks hB (Nat.le_refl _) (Nat.le_refl _) dX8_read_81 ⟨rfl, rfl, rfl, rfl⟩
set_option maxHeartbeats 1000000 in
set_option maxRecDepth 100000 in
theorem c_X_read2_n (l : Launch) (D : va_G) (ty : Nat → ClassId) (L : List Nat) (ad : Nat → Nat) (g : Nat → va_E) (pn qn : Nat) (nw : Int32) (tr : Int64) (pf : Nat → Option Nat) (vf : Nat → Option Nat) (r ra n0 b : Nat) (bs0 : Nat → Int32) (pp pt vn : Nat) (fo wd : Int32) (tf : Nat → Option Nat) (k : Nat) (w : Nat) (m_0 : 0 ∈ L) (m_6 : 6 ∈ L) (m_7 : 7 ∈ L) (m_r : r ∈ L) (m_ra : ra ∈ L) (m_pp : pp ∈ L) (m_pt : pt ∈ L) (h_0 : g 0 = .inr (8, [.ref (ad 1), .ref (ad 3), .ref (ad 6), .int (nI pn), .ref (ad 7), .ref (ad 20), .ref (ad 22), .ref (ad 28), .int (nI qn), .ref (ad 29), .int nw, .long tr])) (h_6 : g 6 = .inl (ty 4, 8, .inr (.inr (.inr (.inr pf))))) (h_7 : g 7 = .inl (ty 6, 6, .inr (.inr (.inr (.inr vf))))) (h_r : g r = .inr (5, [.ref (ad ra), .int (nI n0)])) (h_ra : g ra = .inl (ty 2, 80, .inl bs0)) (h_pp : g pp = .inr (2, [.int fo, .ref (ad pt), .int (nI vn), .int wd])) (h_pt : g pt = .inl (ty 7, 4, .inr (.inr (.inr (.inr tf))))) (hb6 : b < 6) (hvr : vf b = some (ad r)) (hk : k < 8) (hpp : pf k = some (ad pp)) (hw4 : w < 4) (htf : tf w = none) : m_E l yX8_read wsX8_read 5 113 D ty [.ref (ad 0), .int (nI b), .int (nI k), .int (nI w)] L ad g (some (.int (-1))) g := by
  intro sz
  refine Met.ofW (cc := cX8_read) (maxL := 7) (ret := (some .int)) (by decide) rfl ?_
  intro p e s m args below meth c s₁ B hml hv
  have hx := B.exec
  have hb := B.bytes
  have hrt := B.returns
  have hts := atoms_spec (ws := wsX8_read) B.pre
  have hown : s.vm.findClass RX8 = some m.cls := findClass_of_methodNamed B.named
  have hlocks := B.notSynchronized
  obtain ⟨rfl, hB⟩ := m_start hv
  generalize va_A (m_w L ad g) sz = A at hB ⊢
  generalize s.heap = H at hB ⊢
  generalize ([] : List Loc) = locs at hB ⊢
  have hl := lv_entry ([.ref (ad 0), .int (nI b), .int (nI k), .int (nI w)]) (n := 7) (Nat.le_of_ble_eq_true rfl)
  rw [lg_entry_eq]
  generalize (lg_sl ([.ref (ad 0), .int (nI b), .int (nI k), .int (nI w)]) ++ List.replicate (7 - (lg_sl ([.ref (ad 0), .int (nI b), .int (nI k), .int (nI w)])).length) Slot.unset).toArray = ls at hl ⊢
  have hl : lv_has ls 7 [(0, .ref (ad 0)), (1, .int (nI b)), (2, .int (nI k)), (3, .int (nI w))] := hl
  refine lv_aload_n hx hb dX8_read_0 rfl (lv_at hl 0 rfl) ?_
  refine lv_iload_n hx hb dX8_read_1 rfl (lv_at hl 2 rfl) ?_
  refine m_callVE (ci := 8) (As := [.int (nI k)]) (rest := []) ((by have h9 := c_X_paperNumber_t l D ty L ad g pn qn nw tr pf k m_0 m_6 h_0 h_6 hk; rw [hpp] at h9; exact h9 : m_E l yX8_paperNumber wsX8_paperNumber 1 21 D ty [.ref (ad 0), .int (nI k)] L ad g (some (.ref (ad pp))) g)) ⟨hx, hb, hml, hown, hts⟩ (cwV 1 hts gX8_read_X8_paperNumber rfl rfl rfl (by decide +kernel) ⟨Nat.le_of_ble_eq_true rfl, Nat.le_of_ble_eq_true rfl⟩) hB m_0 h_0 rfl rfl hl.1 rfl (Nat.le_of_ble_eq_true rfl) dX8_read_2 ⟨Nat.le_of_ble_eq_true rfl, Nat.le_of_ble_eq_true rfl⟩ (fun H locs hB => ?_)
  refine lv_astore (lv' := [(4, .ref (ad pp)), (0, .ref (ad 0)), (1, .int (nI b)), (2, .int (nI k)), (3, .int (nI w))]) hx hb dX8_read_5 hl (by decide) rfl (fun ls hl => ?_)
  refine lv_aload hx hb dX8_read_7 (lv_at hl 0 rfl) ?_
  refine lv_iload_n hx hb dX8_read_9 rfl (lv_at hl 4 rfl) ?_
  refine m_callSE (As := [.ref (ad pp), .int (nI w)]) (rest := []) ((by have h9 := c_X_textOf2_t l D ty L ad g pp pt vn fo wd tf w m_pp m_pt h_pp h_pt hw4; rw [htf] at h9; exact h9 : m_E l yX8_textOf wsX8_textOf 2 42 D ty [.ref (ad pp), .int (nI w)] L ad g (some .null) g)) ⟨hx, hb, hml, hown, hts⟩ (va_cwS 2 hts gX8_read_X8_textOf rfl rfl rfl (by decide +kernel) ⟨Nat.le_of_ble_eq_true rfl, Nat.le_of_ble_eq_true rfl⟩) hB rfl hl.1 rfl (Nat.le_of_ble_eq_true rfl) dX8_read_10 ⟨Nat.le_of_ble_eq_true rfl, Nat.le_of_ble_eq_true rfl⟩ (fun H locs hB => ?_)
  refine lv_astoreN (lv' := [(5, .null), (4, .ref (ad pp)), (0, .ref (ad 0)), (1, .int (nI b)), (2, .int (nI k)), (3, .int (nI w))]) hx hb dX8_read_13 hl (by decide) rfl (fun ls hl => ?_)
  refine lv_aload_n hx hb dX8_read_15 rfl (lv_at hl 2 rfl) ?_
  refine lv_iload_n hx hb dX8_read_16 rfl (lv_at hl 3 rfl) ?_
  refine m_callVE (ci := 8) (As := [.int (nI b)]) (rest := []) ((by have h9 := c_X_lastView_t l D ty L ad g pn qn nw tr vf b m_0 m_7 h_0 h_7 hb6; rw [hvr] at h9; exact h9 : m_E l yX8_lastViewOf wsX8_lastViewOf 1 21 D ty [.ref (ad 0), .int (nI b)] L ad g (some (.ref (ad r))) g)) ⟨hx, hb, hml, hown, hts⟩ (cwV 1 hts gX8_read_X8_lastViewOf rfl rfl rfl (by decide +kernel) ⟨Nat.le_of_ble_eq_true rfl, Nat.le_of_ble_eq_true rfl⟩) hB m_0 h_0 rfl rfl hl.1 rfl (Nat.le_of_ble_eq_true rfl) dX8_read_17 ⟨Nat.le_of_ble_eq_true rfl, Nat.le_of_ble_eq_true rfl⟩ (fun H locs hB => ?_)
  refine lv_astore (lv' := [(6, .ref (ad r)), (5, .null), (4, .ref (ad pp)), (0, .ref (ad 0)), (1, .int (nI b)), (2, .int (nI k)), (3, .int (nI w))]) hx hb dX8_read_20 hl (by decide) rfl (fun ls hl => ?_)
  refine lv_aload hx hb dX8_read_22 (lv_at hl 2 rfl) ?_
  refine lv_ifnull hx hb dX8_read_24 ?_
  refine lv_aloadN hx hb dX8_read_27 (lv_at hl 1 rfl) ?_
  refine lv_ifnullN (tgt := 37) hx hb dX8_read_29 (by decide) ?_
  refine lv_iconst (v := (-1)) hx hb dX8_read_37 (by decide) ?_
  exact m_iret hx hb hrt hlocks hB (Nat.le_refl _) (Nat.le_refl _) dX8_read_38 ⟨rfl, rfl, rfl, rfl⟩
set_option maxHeartbeats 1000000 in
set_option maxRecDepth 100000 in
theorem c_X_read2_b (l : Launch) (D : va_G) (ty : Nat → ClassId) (L : List Nat) (ad : Nat → Nat) (g : Nat → va_E) (pn qn : Nat) (nw : Int32) (tr : Int64) (pf : Nat → Option Nat) (vf : Nat → Option Nat) (r ra n0 b : Nat) (bs0 : Nat → Int32) (pp pt vn : Nat) (fo wd : Int32) (tf : Nat → Option Nat) (k : Nat) (v : Int32) (m_0 : 0 ∈ L) (m_6 : 6 ∈ L) (m_7 : 7 ∈ L) (m_r : r ∈ L) (m_ra : ra ∈ L) (m_pp : pp ∈ L) (m_pt : pt ∈ L) (h_0 : g 0 = .inr (8, [.ref (ad 1), .ref (ad 3), .ref (ad 6), .int (nI pn), .ref (ad 7), .ref (ad 20), .ref (ad 22), .ref (ad 28), .int (nI qn), .ref (ad 29), .int nw, .long tr])) (h_6 : g 6 = .inl (ty 4, 8, .inr (.inr (.inr (.inr pf))))) (h_7 : g 7 = .inl (ty 6, 6, .inr (.inr (.inr (.inr vf))))) (h_r : g r = .inr (5, [.ref (ad ra), .int (nI n0)])) (h_ra : g ra = .inl (ty 2, 80, .inl bs0)) (h_pp : g pp = .inr (2, [.int fo, .ref (ad pt), .int (nI vn), .int wd])) (h_pt : g pt = .inl (ty 7, 4, .inr (.inr (.inr (.inr tf))))) (hb6 : b < 6) (hvr : vf b = some (ad r)) (hk : k < 8) (hpp : pf k = some (ad pp)) (hv4 : ¬ (0 ≤ v.toInt ∧ v.toInt < 4)) : m_E l yX8_read wsX8_read 5 113 D ty [.ref (ad 0), .int (nI b), .int (nI k), .int v] L ad g (some (.int (-1))) g := by
  intro sz
  refine Met.ofW (cc := cX8_read) (maxL := 7) (ret := (some .int)) (by decide) rfl ?_
  intro p e s m args below meth c s₁ B hml hv
  have hx := B.exec
  have hb := B.bytes
  have hrt := B.returns
  have hts := atoms_spec (ws := wsX8_read) B.pre
  have hown : s.vm.findClass RX8 = some m.cls := findClass_of_methodNamed B.named
  have hlocks := B.notSynchronized
  obtain ⟨rfl, hB⟩ := m_start hv
  generalize va_A (m_w L ad g) sz = A at hB ⊢
  generalize s.heap = H at hB ⊢
  generalize ([] : List Loc) = locs at hB ⊢
  have hl := lv_entry ([.ref (ad 0), .int (nI b), .int (nI k), .int v]) (n := 7) (Nat.le_of_ble_eq_true rfl)
  rw [lg_entry_eq]
  generalize (lg_sl ([.ref (ad 0), .int (nI b), .int (nI k), .int v]) ++ List.replicate (7 - (lg_sl ([.ref (ad 0), .int (nI b), .int (nI k), .int v])).length) Slot.unset).toArray = ls at hl ⊢
  have hl : lv_has ls 7 [(0, .ref (ad 0)), (1, .int (nI b)), (2, .int (nI k)), (3, .int v)] := hl
  refine lv_aload_n hx hb dX8_read_0 rfl (lv_at hl 0 rfl) ?_
  refine lv_iload_n hx hb dX8_read_1 rfl (lv_at hl 2 rfl) ?_
  refine m_callVE (ci := 8) (As := [.int (nI k)]) (rest := []) ((by have h9 := c_X_paperNumber_t l D ty L ad g pn qn nw tr pf k m_0 m_6 h_0 h_6 hk; rw [hpp] at h9; exact h9 : m_E l yX8_paperNumber wsX8_paperNumber 1 21 D ty [.ref (ad 0), .int (nI k)] L ad g (some (.ref (ad pp))) g)) ⟨hx, hb, hml, hown, hts⟩ (cwV 1 hts gX8_read_X8_paperNumber rfl rfl rfl (by decide +kernel) ⟨Nat.le_of_ble_eq_true rfl, Nat.le_of_ble_eq_true rfl⟩) hB m_0 h_0 rfl rfl hl.1 rfl (Nat.le_of_ble_eq_true rfl) dX8_read_2 ⟨Nat.le_of_ble_eq_true rfl, Nat.le_of_ble_eq_true rfl⟩ (fun H locs hB => ?_)
  refine lv_astore (lv' := [(4, .ref (ad pp)), (0, .ref (ad 0)), (1, .int (nI b)), (2, .int (nI k)), (3, .int v)]) hx hb dX8_read_5 hl (by decide) rfl (fun ls hl => ?_)
  refine lv_aload hx hb dX8_read_7 (lv_at hl 0 rfl) ?_
  refine lv_iload_n hx hb dX8_read_9 rfl (lv_at hl 4 rfl) ?_
  refine m_callSE (As := [.ref (ad pp), .int v]) (rest := []) (c_X_textOf2_f l D ty L ad g pp pt vn fo wd tf v m_pp m_pt h_pp h_pt (by rw [show (nI 4).toInt = 4 by decide]; exact hv4)) ⟨hx, hb, hml, hown, hts⟩ (va_cwS 2 hts gX8_read_X8_textOf rfl rfl rfl (by decide +kernel) ⟨Nat.le_of_ble_eq_true rfl, Nat.le_of_ble_eq_true rfl⟩) hB rfl hl.1 rfl (Nat.le_of_ble_eq_true rfl) dX8_read_10 ⟨Nat.le_of_ble_eq_true rfl, Nat.le_of_ble_eq_true rfl⟩ (fun H locs hB => ?_)
  refine lv_astoreN (lv' := [(5, .null), (4, .ref (ad pp)), (0, .ref (ad 0)), (1, .int (nI b)), (2, .int (nI k)), (3, .int v)]) hx hb dX8_read_13 hl (by decide) rfl (fun ls hl => ?_)
  refine lv_aload_n hx hb dX8_read_15 rfl (lv_at hl 2 rfl) ?_
  refine lv_iload_n hx hb dX8_read_16 rfl (lv_at hl 3 rfl) ?_
  refine m_callVE (ci := 8) (As := [.int (nI b)]) (rest := []) ((by have h9 := c_X_lastView_t l D ty L ad g pn qn nw tr vf b m_0 m_7 h_0 h_7 hb6; rw [hvr] at h9; exact h9 : m_E l yX8_lastViewOf wsX8_lastViewOf 1 21 D ty [.ref (ad 0), .int (nI b)] L ad g (some (.ref (ad r))) g)) ⟨hx, hb, hml, hown, hts⟩ (cwV 1 hts gX8_read_X8_lastViewOf rfl rfl rfl (by decide +kernel) ⟨Nat.le_of_ble_eq_true rfl, Nat.le_of_ble_eq_true rfl⟩) hB m_0 h_0 rfl rfl hl.1 rfl (Nat.le_of_ble_eq_true rfl) dX8_read_17 ⟨Nat.le_of_ble_eq_true rfl, Nat.le_of_ble_eq_true rfl⟩ (fun H locs hB => ?_)
  refine lv_astore (lv' := [(6, .ref (ad r)), (5, .null), (4, .ref (ad pp)), (0, .ref (ad 0)), (1, .int (nI b)), (2, .int (nI k)), (3, .int v)]) hx hb dX8_read_20 hl (by decide) rfl (fun ls hl => ?_)
  refine lv_aload hx hb dX8_read_22 (lv_at hl 2 rfl) ?_
  refine lv_ifnull hx hb dX8_read_24 ?_
  refine lv_aloadN hx hb dX8_read_27 (lv_at hl 1 rfl) ?_
  refine lv_ifnullN (tgt := 37) hx hb dX8_read_29 (by decide) ?_
  refine lv_iconst (v := (-1)) hx hb dX8_read_37 (by decide) ?_
  exact m_iret hx hb hrt hlocks hB (Nat.le_refl _) (Nat.le_refl _) dX8_read_38 ⟨rfl, rfl, rfl, rfl⟩
set_option maxHeartbeats 1000000 in
set_option maxRecDepth 100000 in
theorem c_X_read2_b_b (l : Launch) (D : va_G) (ty : Nat → ClassId) (L : List Nat) (ad : Nat → Nat) (g : Nat → va_E) (pn qn : Nat) (nw : Int32) (tr : Int64) (pf : Nat → Option Nat) (vf : Nat → Option Nat) (pp pt vn : Nat) (fo wd : Int32) (tf : Nat → Option Nat) (k : Nat) (ib v : Int32) (m_0 : 0 ∈ L) (m_6 : 6 ∈ L) (m_7 : 7 ∈ L) (m_pp : pp ∈ L) (m_pt : pt ∈ L) (h_0 : g 0 = .inr (8, [.ref (ad 1), .ref (ad 3), .ref (ad 6), .int (nI pn), .ref (ad 7), .ref (ad 20), .ref (ad 22), .ref (ad 28), .int (nI qn), .ref (ad 29), .int nw, .long tr])) (h_6 : g 6 = .inl (ty 4, 8, .inr (.inr (.inr (.inr pf))))) (h_7 : g 7 = .inl (ty 6, 6, .inr (.inr (.inr (.inr vf))))) (h_pp : g pp = .inr (2, [.int fo, .ref (ad pt), .int (nI vn), .int wd])) (h_pt : g pt = .inl (ty 7, 4, .inr (.inr (.inr (.inr tf))))) (hib : ¬ (0 ≤ ib.toInt ∧ ib.toInt < 6)) (hk : k < 8) (hpp : pf k = some (ad pp)) (hv4 : ¬ (0 ≤ v.toInt ∧ v.toInt < 4)) : m_E l yX8_read wsX8_read 5 113 D ty [.ref (ad 0), .int ib, .int (nI k), .int v] L ad g (some (.int (-1))) g := by
  intro sz
  refine Met.ofW (cc := cX8_read) (maxL := 7) (ret := (some .int)) (by decide) rfl ?_
  intro p e s m args below meth c s₁ B hml hv
  have hx := B.exec
  have hb := B.bytes
  have hrt := B.returns
  have hts := atoms_spec (ws := wsX8_read) B.pre
  have hown : s.vm.findClass RX8 = some m.cls := findClass_of_methodNamed B.named
  have hlocks := B.notSynchronized
  obtain ⟨rfl, hB⟩ := m_start hv
  generalize va_A (m_w L ad g) sz = A at hB ⊢
  generalize s.heap = H at hB ⊢
  generalize ([] : List Loc) = locs at hB ⊢
  have hl := lv_entry ([.ref (ad 0), .int ib, .int (nI k), .int v]) (n := 7) (Nat.le_of_ble_eq_true rfl)
  rw [lg_entry_eq]
  generalize (lg_sl ([.ref (ad 0), .int ib, .int (nI k), .int v]) ++ List.replicate (7 - (lg_sl ([.ref (ad 0), .int ib, .int (nI k), .int v])).length) Slot.unset).toArray = ls at hl ⊢
  have hl : lv_has ls 7 [(0, .ref (ad 0)), (1, .int ib), (2, .int (nI k)), (3, .int v)] := hl
  refine lv_aload_n hx hb dX8_read_0 rfl (lv_at hl 0 rfl) ?_
  refine lv_iload_n hx hb dX8_read_1 rfl (lv_at hl 2 rfl) ?_
  refine m_callVE (ci := 8) (As := [.int (nI k)]) (rest := []) ((by have h9 := c_X_paperNumber_t l D ty L ad g pn qn nw tr pf k m_0 m_6 h_0 h_6 hk; rw [hpp] at h9; exact h9 : m_E l yX8_paperNumber wsX8_paperNumber 1 21 D ty [.ref (ad 0), .int (nI k)] L ad g (some (.ref (ad pp))) g)) ⟨hx, hb, hml, hown, hts⟩ (cwV 1 hts gX8_read_X8_paperNumber rfl rfl rfl (by decide +kernel) ⟨Nat.le_of_ble_eq_true rfl, Nat.le_of_ble_eq_true rfl⟩) hB m_0 h_0 rfl rfl hl.1 rfl (Nat.le_of_ble_eq_true rfl) dX8_read_2 ⟨Nat.le_of_ble_eq_true rfl, Nat.le_of_ble_eq_true rfl⟩ (fun H locs hB => ?_)
  refine lv_astore (lv' := [(4, .ref (ad pp)), (0, .ref (ad 0)), (1, .int ib), (2, .int (nI k)), (3, .int v)]) hx hb dX8_read_5 hl (by decide) rfl (fun ls hl => ?_)
  refine lv_aload hx hb dX8_read_7 (lv_at hl 0 rfl) ?_
  refine lv_iload_n hx hb dX8_read_9 rfl (lv_at hl 4 rfl) ?_
  refine m_callSE (As := [.ref (ad pp), .int v]) (rest := []) (c_X_textOf2_f l D ty L ad g pp pt vn fo wd tf v m_pp m_pt h_pp h_pt (by rw [show (nI 4).toInt = 4 by decide]; exact hv4)) ⟨hx, hb, hml, hown, hts⟩ (va_cwS 2 hts gX8_read_X8_textOf rfl rfl rfl (by decide +kernel) ⟨Nat.le_of_ble_eq_true rfl, Nat.le_of_ble_eq_true rfl⟩) hB rfl hl.1 rfl (Nat.le_of_ble_eq_true rfl) dX8_read_10 ⟨Nat.le_of_ble_eq_true rfl, Nat.le_of_ble_eq_true rfl⟩ (fun H locs hB => ?_)
  refine lv_astoreN (lv' := [(5, .null), (4, .ref (ad pp)), (0, .ref (ad 0)), (1, .int ib), (2, .int (nI k)), (3, .int v)]) hx hb dX8_read_13 hl (by decide) rfl (fun ls hl => ?_)
  refine lv_aload_n hx hb dX8_read_15 rfl (lv_at hl 2 rfl) ?_
  refine lv_iload_n hx hb dX8_read_16 rfl (lv_at hl 3 rfl) ?_
  refine m_callVE (ci := 8) (As := [.int ib]) (rest := []) (c_X_lastView_f l D ty L ad g pn qn nw tr vf ib m_0 m_7 h_0 h_7 hib) ⟨hx, hb, hml, hown, hts⟩ (cwV 1 hts gX8_read_X8_lastViewOf rfl rfl rfl (by decide +kernel) ⟨Nat.le_of_ble_eq_true rfl, Nat.le_of_ble_eq_true rfl⟩) hB m_0 h_0 rfl rfl hl.1 rfl (Nat.le_of_ble_eq_true rfl) dX8_read_17 ⟨Nat.le_of_ble_eq_true rfl, Nat.le_of_ble_eq_true rfl⟩ (fun H locs hB => ?_)
  refine lv_astoreN (lv' := [(6, .null), (5, .null), (4, .ref (ad pp)), (0, .ref (ad 0)), (1, .int ib), (2, .int (nI k)), (3, .int v)]) hx hb dX8_read_20 hl (by decide) rfl (fun ls hl => ?_)
  refine lv_aload hx hb dX8_read_22 (lv_at hl 2 rfl) ?_
  refine lv_ifnull hx hb dX8_read_24 ?_
  refine lv_aloadN hx hb dX8_read_27 (lv_at hl 1 rfl) ?_
  refine lv_ifnullN (tgt := 37) hx hb dX8_read_29 (by decide) ?_
  refine lv_iconst (v := (-1)) hx hb dX8_read_37 (by decide) ?_
  exact m_iret hx hb hrt hlocks hB (Nat.le_refl _) (Nat.le_refl _) dX8_read_38 ⟨rfl, rfl, rfl, rfl⟩
set_option maxHeartbeats 1000000 in
set_option maxRecDepth 100000 in
theorem c_X_read2_b_w (l : Launch) (D : va_G) (ty : Nat → ClassId) (L : List Nat) (ad : Nat → Nat) (g : Nat → va_E) (pn qn : Nat) (nw : Int32) (tr : Int64) (pf : Nat → Option Nat) (vf : Nat → Option Nat) (pp pt vn : Nat) (fo wd : Int32) (tf : Nat → Option Nat) (k : Nat) (w : Nat) (ib : Int32) (m_0 : 0 ∈ L) (m_6 : 6 ∈ L) (m_7 : 7 ∈ L) (m_pp : pp ∈ L) (m_pt : pt ∈ L) (h_0 : g 0 = .inr (8, [.ref (ad 1), .ref (ad 3), .ref (ad 6), .int (nI pn), .ref (ad 7), .ref (ad 20), .ref (ad 22), .ref (ad 28), .int (nI qn), .ref (ad 29), .int nw, .long tr])) (h_6 : g 6 = .inl (ty 4, 8, .inr (.inr (.inr (.inr pf))))) (h_7 : g 7 = .inl (ty 6, 6, .inr (.inr (.inr (.inr vf))))) (h_pp : g pp = .inr (2, [.int fo, .ref (ad pt), .int (nI vn), .int wd])) (h_pt : g pt = .inl (ty 7, 4, .inr (.inr (.inr (.inr tf))))) (hib : ¬ (0 ≤ ib.toInt ∧ ib.toInt < 6)) (hk : k < 8) (hpp : pf k = some (ad pp)) (hw4 : w < 4) : m_E l yX8_read wsX8_read 5 113 D ty [.ref (ad 0), .int ib, .int (nI k), .int (nI w)] L ad g (some (.int (-1))) g := by
  intro sz
  refine Met.ofW (cc := cX8_read) (maxL := 7) (ret := (some .int)) (by decide) rfl ?_
  intro p e s m args below meth c s₁ B hml hv
  have hx := B.exec
  have hb := B.bytes
  have hrt := B.returns
  have hts := atoms_spec (ws := wsX8_read) B.pre
  have hown : s.vm.findClass RX8 = some m.cls := findClass_of_methodNamed B.named
  have hlocks := B.notSynchronized
  obtain ⟨rfl, hB⟩ := m_start hv
  generalize va_A (m_w L ad g) sz = A at hB ⊢
  generalize s.heap = H at hB ⊢
  generalize ([] : List Loc) = locs at hB ⊢
  have hl := lv_entry ([.ref (ad 0), .int ib, .int (nI k), .int (nI w)]) (n := 7) (Nat.le_of_ble_eq_true rfl)
  rw [lg_entry_eq]
  generalize (lg_sl ([.ref (ad 0), .int ib, .int (nI k), .int (nI w)]) ++ List.replicate (7 - (lg_sl ([.ref (ad 0), .int ib, .int (nI k), .int (nI w)])).length) Slot.unset).toArray = ls at hl ⊢
  have hl : lv_has ls 7 [(0, .ref (ad 0)), (1, .int ib), (2, .int (nI k)), (3, .int (nI w))] := hl
  rcases htf : tf w with _ | r9
  · skip
    refine lv_aload_n hx hb dX8_read_0 rfl (lv_at hl 0 rfl) ?_
    refine lv_iload_n hx hb dX8_read_1 rfl (lv_at hl 2 rfl) ?_
    refine m_callVE (ci := 8) (As := [.int (nI k)]) (rest := []) ((by have h9 := c_X_paperNumber_t l D ty L ad g pn qn nw tr pf k m_0 m_6 h_0 h_6 hk; rw [hpp] at h9; exact h9 : m_E l yX8_paperNumber wsX8_paperNumber 1 21 D ty [.ref (ad 0), .int (nI k)] L ad g (some (.ref (ad pp))) g)) ⟨hx, hb, hml, hown, hts⟩ (cwV 1 hts gX8_read_X8_paperNumber rfl rfl rfl (by decide +kernel) ⟨Nat.le_of_ble_eq_true rfl, Nat.le_of_ble_eq_true rfl⟩) hB m_0 h_0 rfl rfl hl.1 rfl (Nat.le_of_ble_eq_true rfl) dX8_read_2 ⟨Nat.le_of_ble_eq_true rfl, Nat.le_of_ble_eq_true rfl⟩ (fun H locs hB => ?_)
    refine lv_astore (lv' := [(4, .ref (ad pp)), (0, .ref (ad 0)), (1, .int ib), (2, .int (nI k)), (3, .int (nI w))]) hx hb dX8_read_5 hl (by decide) rfl (fun ls hl => ?_)
    refine lv_aload hx hb dX8_read_7 (lv_at hl 0 rfl) ?_
    refine lv_iload_n hx hb dX8_read_9 rfl (lv_at hl 4 rfl) ?_
    refine m_callSE (As := [.ref (ad pp), .int (nI w)]) (rest := []) ((by have h9 := c_X_textOf2_t l D ty L ad g pp pt vn fo wd tf w m_pp m_pt h_pp h_pt hw4; rw [htf] at h9; exact h9 : m_E l yX8_textOf wsX8_textOf 2 42 D ty [.ref (ad pp), .int (nI w)] L ad g (some .null) g)) ⟨hx, hb, hml, hown, hts⟩ (va_cwS 2 hts gX8_read_X8_textOf rfl rfl rfl (by decide +kernel) ⟨Nat.le_of_ble_eq_true rfl, Nat.le_of_ble_eq_true rfl⟩) hB rfl hl.1 rfl (Nat.le_of_ble_eq_true rfl) dX8_read_10 ⟨Nat.le_of_ble_eq_true rfl, Nat.le_of_ble_eq_true rfl⟩ (fun H locs hB => ?_)
    refine lv_astoreN (lv' := [(5, .null), (4, .ref (ad pp)), (0, .ref (ad 0)), (1, .int ib), (2, .int (nI k)), (3, .int (nI w))]) hx hb dX8_read_13 hl (by decide) rfl (fun ls hl => ?_)
    refine lv_aload_n hx hb dX8_read_15 rfl (lv_at hl 2 rfl) ?_
    refine lv_iload_n hx hb dX8_read_16 rfl (lv_at hl 3 rfl) ?_
    refine m_callVE (ci := 8) (As := [.int ib]) (rest := []) (c_X_lastView_f l D ty L ad g pn qn nw tr vf ib m_0 m_7 h_0 h_7 hib) ⟨hx, hb, hml, hown, hts⟩ (cwV 1 hts gX8_read_X8_lastViewOf rfl rfl rfl (by decide +kernel) ⟨Nat.le_of_ble_eq_true rfl, Nat.le_of_ble_eq_true rfl⟩) hB m_0 h_0 rfl rfl hl.1 rfl (Nat.le_of_ble_eq_true rfl) dX8_read_17 ⟨Nat.le_of_ble_eq_true rfl, Nat.le_of_ble_eq_true rfl⟩ (fun H locs hB => ?_)
    refine lv_astoreN (lv' := [(6, .null), (5, .null), (4, .ref (ad pp)), (0, .ref (ad 0)), (1, .int ib), (2, .int (nI k)), (3, .int (nI w))]) hx hb dX8_read_20 hl (by decide) rfl (fun ls hl => ?_)
    refine lv_aload hx hb dX8_read_22 (lv_at hl 2 rfl) ?_
    refine lv_ifnull hx hb dX8_read_24 ?_
    refine lv_aloadN hx hb dX8_read_27 (lv_at hl 1 rfl) ?_
    refine lv_ifnullN (tgt := 37) hx hb dX8_read_29 (by decide) ?_
    refine lv_iconst (v := (-1)) hx hb dX8_read_37 (by decide) ?_
    exact m_iret hx hb hrt hlocks hB (Nat.le_refl _) (Nat.le_refl _) dX8_read_38 ⟨rfl, rfl, rfl, rfl⟩
  · skip
    refine lv_aload_n hx hb dX8_read_0 rfl (lv_at hl 0 rfl) ?_
    refine lv_iload_n hx hb dX8_read_1 rfl (lv_at hl 2 rfl) ?_
    refine m_callVE (ci := 8) (As := [.int (nI k)]) (rest := []) ((by have h9 := c_X_paperNumber_t l D ty L ad g pn qn nw tr pf k m_0 m_6 h_0 h_6 hk; rw [hpp] at h9; exact h9 : m_E l yX8_paperNumber wsX8_paperNumber 1 21 D ty [.ref (ad 0), .int (nI k)] L ad g (some (.ref (ad pp))) g)) ⟨hx, hb, hml, hown, hts⟩ (cwV 1 hts gX8_read_X8_paperNumber rfl rfl rfl (by decide +kernel) ⟨Nat.le_of_ble_eq_true rfl, Nat.le_of_ble_eq_true rfl⟩) hB m_0 h_0 rfl rfl hl.1 rfl (Nat.le_of_ble_eq_true rfl) dX8_read_2 ⟨Nat.le_of_ble_eq_true rfl, Nat.le_of_ble_eq_true rfl⟩ (fun H locs hB => ?_)
    refine lv_astore (lv' := [(4, .ref (ad pp)), (0, .ref (ad 0)), (1, .int ib), (2, .int (nI k)), (3, .int (nI w))]) hx hb dX8_read_5 hl (by decide) rfl (fun ls hl => ?_)
    refine lv_aload hx hb dX8_read_7 (lv_at hl 0 rfl) ?_
    refine lv_iload_n hx hb dX8_read_9 rfl (lv_at hl 4 rfl) ?_
    refine m_callSE (As := [.ref (ad pp), .int (nI w)]) (rest := []) ((by have h9 := c_X_textOf2_t l D ty L ad g pp pt vn fo wd tf w m_pp m_pt h_pp h_pt hw4; rw [htf] at h9; exact h9 : m_E l yX8_textOf wsX8_textOf 2 42 D ty [.ref (ad pp), .int (nI w)] L ad g (some (.ref r9)) g)) ⟨hx, hb, hml, hown, hts⟩ (va_cwS 2 hts gX8_read_X8_textOf rfl rfl rfl (by decide +kernel) ⟨Nat.le_of_ble_eq_true rfl, Nat.le_of_ble_eq_true rfl⟩) hB rfl hl.1 rfl (Nat.le_of_ble_eq_true rfl) dX8_read_10 ⟨Nat.le_of_ble_eq_true rfl, Nat.le_of_ble_eq_true rfl⟩ (fun H locs hB => ?_)
    refine lv_astore (lv' := [(5, .ref r9), (4, .ref (ad pp)), (0, .ref (ad 0)), (1, .int ib), (2, .int (nI k)), (3, .int (nI w))]) hx hb dX8_read_13 hl (by decide) rfl (fun ls hl => ?_)
    refine lv_aload_n hx hb dX8_read_15 rfl (lv_at hl 2 rfl) ?_
    refine lv_iload_n hx hb dX8_read_16 rfl (lv_at hl 3 rfl) ?_
    refine m_callVE (ci := 8) (As := [.int ib]) (rest := []) (c_X_lastView_f l D ty L ad g pn qn nw tr vf ib m_0 m_7 h_0 h_7 hib) ⟨hx, hb, hml, hown, hts⟩ (cwV 1 hts gX8_read_X8_lastViewOf rfl rfl rfl (by decide +kernel) ⟨Nat.le_of_ble_eq_true rfl, Nat.le_of_ble_eq_true rfl⟩) hB m_0 h_0 rfl rfl hl.1 rfl (Nat.le_of_ble_eq_true rfl) dX8_read_17 ⟨Nat.le_of_ble_eq_true rfl, Nat.le_of_ble_eq_true rfl⟩ (fun H locs hB => ?_)
    refine lv_astoreN (lv' := [(6, .null), (5, .ref r9), (4, .ref (ad pp)), (0, .ref (ad 0)), (1, .int ib), (2, .int (nI k)), (3, .int (nI w))]) hx hb dX8_read_20 hl (by decide) rfl (fun ls hl => ?_)
    refine lv_aload hx hb dX8_read_22 (lv_at hl 2 rfl) ?_
    refine lv_ifnull hx hb dX8_read_24 ?_
    refine lv_aload hx hb dX8_read_27 (lv_at hl 1 rfl) ?_
    refine lv_ifnull hx hb dX8_read_29 ?_
    refine lv_aloadN hx hb dX8_read_32 (lv_at hl 0 rfl) ?_
    refine lv_ifnonnullN hx hb dX8_read_34 ?_
    refine lv_iconst (v := (-1)) hx hb dX8_read_37 (by decide) ?_
    exact m_iret hx hb hrt hlocks hB (Nat.le_refl _) (Nat.le_refl _) dX8_read_38 ⟨rfl, rfl, rfl, rfl⟩
set_option maxHeartbeats 1000000 in
set_option maxRecDepth 100000 in
theorem c_X_read2_no (l : Launch) (D : va_G) (ty : Nat → ClassId) (L : List Nat) (ad : Nat → Nat) (g : Nat → va_E) (pn qn : Nat) (nw : Int32) (tr : Int64) (pf : Nat → Option Nat) (vf : Nat → Option Nat) (r ra n0 b : Nat) (bs0 : Nat → Int32) (fs fe : Nat → Int32) (pp pt vn : Nat) (wd : Int32) (tf : Nat → Option Nat) (k f w t ro a bl n : Nat) (bs bk : Nat → Int32) (m_0 : 0 ∈ L) (m_3 : 3 ∈ L) (m_4 : 4 ∈ L) (m_5 : 5 ∈ L) (m_6 : 6 ∈ L) (m_7 : 7 ∈ L) (m_r : r ∈ L) (m_ra : ra ∈ L) (m_pp : pp ∈ L) (m_pt : pt ∈ L) (m_t : t ∈ L) (m_ro : ro ∈ L) (m_a : a ∈ L) (m_bl : bl ∈ L) (h_0 : g 0 = .inr (8, [.ref (ad 1), .ref (ad 3), .ref (ad 6), .int (nI pn), .ref (ad 7), .ref (ad 20), .ref (ad 22), .ref (ad 28), .int (nI qn), .ref (ad 29), .int nw, .long tr])) (h_3 : g 3 = .inr (4, [.ref (ad 4), .ref (ad 5)])) (h_4 : g 4 = .inl (ty 0, 12, .inl fs)) (h_5 : g 5 = .inl (ty 0, 12, .inl fe)) (h_6 : g 6 = .inl (ty 4, 8, .inr (.inr (.inr (.inr pf))))) (h_7 : g 7 = .inl (ty 6, 6, .inr (.inr (.inr (.inr vf))))) (h_r : g r = .inr (5, [.ref (ad ra), .int (nI n0)])) (h_ra : g ra = .inl (ty 2, 80, .inl bs0)) (h_pp : g pp = .inr (2, [.int (nI f), .ref (ad pt), .int (nI vn), .int wd])) (h_pt : g pt = .inl (ty 7, 4, .inr (.inr (.inr (.inr tf))))) (h_t : g t = .inr (7, [.ref (ad ro), .ref (ad bl)])) (h_ro : g ro = .inr (5, [.ref (ad a), .int (nI n)])) (h_a : g a = .inl (ty 2, n, .inl bs)) (h_bl : g bl = .inl (ty 3, n, .inl bk)) (hb6 : b < 6) (hvr : vf b = some (ad r)) (hk : k < 8) (hpp : pf k = some (ad pp)) (hw4 : w < 4) (htf : tf w = some (ad t)) (hf4 : f < 4) (hwd : wd = 0 ∨ wd = 1) (hs : (opn wd fs fe (b % 3 * 4 + f) nw) = false) : m_E l yX8_read wsX8_read 5 113 D ty [.ref (ad 0), .int (nI b), .int (nI k), .int (nI w)] L ad g (some (.int (-4))) g := by
  intro sz
  refine Met.ofW (cc := cX8_read) (maxL := 7) (ret := (some .int)) (by decide) rfl ?_
  intro p e s m args below meth c s₁ B hml hv
  have hx := B.exec
  have hb := B.bytes
  have hrt := B.returns
  have hts := atoms_spec (ws := wsX8_read) B.pre
  have hown : s.vm.findClass RX8 = some m.cls := findClass_of_methodNamed B.named
  have hlocks := B.notSynchronized
  obtain ⟨rfl, hB⟩ := m_start hv
  generalize va_A (m_w L ad g) sz = A at hB ⊢
  generalize s.heap = H at hB ⊢
  generalize ([] : List Loc) = locs at hB ⊢
  have hl := lv_entry ([.ref (ad 0), .int (nI b), .int (nI k), .int (nI w)]) (n := 7) (Nat.le_of_ble_eq_true rfl)
  rw [lg_entry_eq]
  generalize (lg_sl ([.ref (ad 0), .int (nI b), .int (nI k), .int (nI w)]) ++ List.replicate (7 - (lg_sl ([.ref (ad 0), .int (nI b), .int (nI k), .int (nI w)])).length) Slot.unset).toArray = ls at hl ⊢
  have hl : lv_has ls 7 [(0, .ref (ad 0)), (1, .int (nI b)), (2, .int (nI k)), (3, .int (nI w))] := hl
  refine lv_aload_n hx hb dX8_read_0 rfl (lv_at hl 0 rfl) ?_
  refine lv_iload_n hx hb dX8_read_1 rfl (lv_at hl 2 rfl) ?_
  refine m_callVE (ci := 8) (As := [.int (nI k)]) (rest := []) ((by have h9 := c_X_paperNumber_t l D ty L ad g pn qn nw tr pf k m_0 m_6 h_0 h_6 hk; rw [hpp] at h9; exact h9 : m_E l yX8_paperNumber wsX8_paperNumber 1 21 D ty [.ref (ad 0), .int (nI k)] L ad g (some (.ref (ad pp))) g)) ⟨hx, hb, hml, hown, hts⟩ (cwV 1 hts gX8_read_X8_paperNumber rfl rfl rfl (by decide +kernel) ⟨Nat.le_of_ble_eq_true rfl, Nat.le_of_ble_eq_true rfl⟩) hB m_0 h_0 rfl rfl hl.1 rfl (Nat.le_of_ble_eq_true rfl) dX8_read_2 ⟨Nat.le_of_ble_eq_true rfl, Nat.le_of_ble_eq_true rfl⟩ (fun H locs hB => ?_)
  refine lv_astore (lv' := [(4, .ref (ad pp)), (0, .ref (ad 0)), (1, .int (nI b)), (2, .int (nI k)), (3, .int (nI w))]) hx hb dX8_read_5 hl (by decide) rfl (fun ls hl => ?_)
  refine lv_aload hx hb dX8_read_7 (lv_at hl 0 rfl) ?_
  refine lv_iload_n hx hb dX8_read_9 rfl (lv_at hl 4 rfl) ?_
  refine m_callSE (As := [.ref (ad pp), .int (nI w)]) (rest := []) ((by have h9 := c_X_textOf2_t l D ty L ad g pp pt vn (nI f) wd tf w m_pp m_pt h_pp h_pt hw4; rw [htf] at h9; exact h9 : m_E l yX8_textOf wsX8_textOf 2 42 D ty [.ref (ad pp), .int (nI w)] L ad g (some (.ref (ad t))) g)) ⟨hx, hb, hml, hown, hts⟩ (va_cwS 2 hts gX8_read_X8_textOf rfl rfl rfl (by decide +kernel) ⟨Nat.le_of_ble_eq_true rfl, Nat.le_of_ble_eq_true rfl⟩) hB rfl hl.1 rfl (Nat.le_of_ble_eq_true rfl) dX8_read_10 ⟨Nat.le_of_ble_eq_true rfl, Nat.le_of_ble_eq_true rfl⟩ (fun H locs hB => ?_)
  refine lv_astore (lv' := [(5, .ref (ad t)), (4, .ref (ad pp)), (0, .ref (ad 0)), (1, .int (nI b)), (2, .int (nI k)), (3, .int (nI w))]) hx hb dX8_read_13 hl (by decide) rfl (fun ls hl => ?_)
  refine lv_aload_n hx hb dX8_read_15 rfl (lv_at hl 2 rfl) ?_
  refine lv_iload_n hx hb dX8_read_16 rfl (lv_at hl 3 rfl) ?_
  refine m_callVE (ci := 8) (As := [.int (nI b)]) (rest := []) ((by have h9 := c_X_lastView_t l D ty L ad g pn qn nw tr vf b m_0 m_7 h_0 h_7 hb6; rw [hvr] at h9; exact h9 : m_E l yX8_lastViewOf wsX8_lastViewOf 1 21 D ty [.ref (ad 0), .int (nI b)] L ad g (some (.ref (ad r))) g)) ⟨hx, hb, hml, hown, hts⟩ (cwV 1 hts gX8_read_X8_lastViewOf rfl rfl rfl (by decide +kernel) ⟨Nat.le_of_ble_eq_true rfl, Nat.le_of_ble_eq_true rfl⟩) hB m_0 h_0 rfl rfl hl.1 rfl (Nat.le_of_ble_eq_true rfl) dX8_read_17 ⟨Nat.le_of_ble_eq_true rfl, Nat.le_of_ble_eq_true rfl⟩ (fun H locs hB => ?_)
  refine lv_astore (lv' := [(6, .ref (ad r)), (5, .ref (ad t)), (4, .ref (ad pp)), (0, .ref (ad 0)), (1, .int (nI b)), (2, .int (nI k)), (3, .int (nI w))]) hx hb dX8_read_20 hl (by decide) rfl (fun ls hl => ?_)
  refine lv_aload hx hb dX8_read_22 (lv_at hl 2 rfl) ?_
  refine lv_ifnull hx hb dX8_read_24 ?_
  refine lv_aload hx hb dX8_read_27 (lv_at hl 1 rfl) ?_
  refine lv_ifnull hx hb dX8_read_29 ?_
  refine lv_aload hx hb dX8_read_32 (lv_at hl 0 rfl) ?_
  refine lv_ifnonnull (tgt := 39) hx hb dX8_read_34 (by decide) ?_
  refine lv_aload_n hx hb dX8_read_39 rfl (lv_at hl 3 rfl) ?_
  refine lv_aload hx hb dX8_read_40 (lv_at hl 2 rfl) ?_
  refine lv_iload_n hx hb dX8_read_42 rfl (lv_at hl 4 rfl) ?_
  refine m_callVE (ci := 8) (As := [.ref (ad pp), .int (nI b)]) (rest := []) (c_X_isOpen2 l D ty L ad g pn qn nw tr fs fe pp pt vn wd b f m_0 m_3 m_4 m_5 m_pp h_0 h_3 h_4 h_5 h_pp hb6 hf4 hwd) ⟨hx, hb, hml, hown, hts⟩ (cwV 2 hts gX8_read_X8_isOpen rfl rfl rfl (by decide +kernel) ⟨Nat.le_of_ble_eq_true rfl, Nat.le_of_ble_eq_true rfl⟩) hB m_0 h_0 rfl rfl hl.1 rfl (Nat.le_of_ble_eq_true rfl) dX8_read_43 ⟨Nat.le_of_ble_eq_true rfl, Nat.le_of_ble_eq_true rfl⟩ (fun H locs hB => ?_)
  refine b_if_ne_f 52 hx hb dX8_read_46 (by decide) (by rw [hs]; decide) ?_
  refine lv_bipush (v := (-4)) hx hb dX8_read_49 (by decide) ?_
  exact m_iret hx hb hrt hlocks hB (Nat.le_refl _) (Nat.le_refl _) dX8_read_51 ⟨rfl, rfl, rfl, rfl⟩
set_option maxHeartbeats 1000000 in
set_option maxRecDepth 100000 in
theorem c_X_read2_full (l : Launch) (D : va_G) (ty : Nat → ClassId) (L : List Nat) (ad : Nat → Nat) (g : Nat → va_E) (pn qn : Nat) (nw : Int32) (tr : Int64) (pf : Nat → Option Nat) (vf : Nat → Option Nat) (r ra n0 b : Nat) (bs0 : Nat → Int32) (fs fe : Nat → Int32) (pp pt vn : Nat) (wd : Int32) (tf : Nat → Option Nat) (k f w t ro a bl n : Nat) (bs bk : Nat → Int32) (fv : Nat → Int32) (en : Nat) (lo : Int32) (f0 f1 f2 f3 : Nat → Int32) (f4 : Nat → Int64) (m_0 : 0 ∈ L) (m_3 : 3 ∈ L) (m_4 : 4 ∈ L) (m_5 : 5 ∈ L) (m_6 : 6 ∈ L) (m_7 : 7 ∈ L) (m_r : r ∈ L) (m_ra : ra ∈ L) (m_pp : pp ∈ L) (m_pt : pt ∈ L) (m_t : t ∈ L) (m_ro : ro ∈ L) (m_a : a ∈ L) (m_bl : bl ∈ L) (m_22 : 22 ∈ L) (m_23 : 23 ∈ L) (m_24 : 24 ∈ L) (m_25 : 25 ∈ L) (m_26 : 26 ∈ L) (m_27 : 27 ∈ L) (h_0 : g 0 = .inr (8, [.ref (ad 1), .ref (ad 3), .ref (ad 6), .int (nI pn), .ref (ad 7), .ref (ad 20), .ref (ad 22), .ref (ad 28), .int (nI qn), .ref (ad 29), .int nw, .long tr])) (h_3 : g 3 = .inr (4, [.ref (ad 4), .ref (ad 5)])) (h_4 : g 4 = .inl (ty 0, 12, .inl fs)) (h_5 : g 5 = .inl (ty 0, 12, .inl fe)) (h_6 : g 6 = .inl (ty 4, 8, .inr (.inr (.inr (.inr pf))))) (h_7 : g 7 = .inl (ty 6, 6, .inr (.inr (.inr (.inr vf))))) (h_r : g r = .inr (5, [.ref (ad ra), .int (nI n0)])) (h_ra : g ra = .inl (ty 2, 80, .inl bs0)) (h_pp : g pp = .inr (2, [.int (nI f), .ref (ad pt), .int (nI vn), .int wd])) (h_pt : g pt = .inl (ty 7, 4, .inr (.inr (.inr (.inr tf))))) (h_t : g t = .inr (7, [.ref (ad ro), .ref (ad bl)])) (h_ro : g ro = .inr (5, [.ref (ad a), .int (nI n)])) (h_a : g a = .inl (ty 2, n, .inl bs)) (h_bl : g bl = .inl (ty 3, n, .inl bk)) (h_22 : g 22 = .inr (6, [.ref (ad 23), .ref (ad 24), .ref (ad 25), .ref (ad 26), .ref (ad 27), .int (nI en), .int lo])) (h_23 : g 23 = .inl (ty 0, 200, .inl f0)) (h_24 : g 24 = .inl (ty 0, 200, .inl f1)) (h_25 : g 25 = .inl (ty 0, 200, .inl f2)) (h_26 : g 26 = .inl (ty 0, 200, .inl f3)) (h_27 : g 27 = .inl (ty 1, 200, .inr (.inl f4))) (hb6 : b < 6) (hvr : vf b = some (ad r)) (hk : k < 8) (hpp : pf k = some (ad pp)) (hw4 : w < 4) (htf : tf w = some (ad t)) (hf4 : f < 4) (hwd : wd = 0 ∨ wd = 1) (hs : (opn wd fs fe (b % 3 * 4 + f) nw) = true) (hn40 : n ≤ 40) (hbk : ∀ i, i < n → bk i = 0 ∨ bk i = 1) (hfv : ∀ i, i < n → fv i = pl (bs i) (bk i)) (h8 : ∀ i, i < n → (fv i).toInt8.toInt32 = fv i) (hr8 : 8 ≤ r ∧ r < 14) (hra8 : 14 ≤ ra ∧ ra < 20) (hb_pp : 30 ≤ pp) (hb_pt : 30 ≤ pt) (hb_t : 30 ≤ t) (hb_ro : 30 ≤ ro) (hb_a : 30 ≤ a) (hb_bl : 30 ≤ bl) (hen : en = 200) : m_E l yX8_read wsX8_read 5 113 D ty [.ref (ad 0), .int (nI b), .int (nI k), .int (nI w)] L ad g (some (.int (nI (mkN false (nI b) fv n)))) (va_up (va_up (va_up g ra (.inl (ty 2, 80, .inl (mkF false (nI b) fv bs0 n)))) r (.inr (5, [.ref (ad ra), .int (nI (mkN false (nI b) fv n))]))) 22 (.inr (6, [.ref (ad 23), .ref (ad 24), .ref (ad 25), .ref (ad 26), .ref (ad 27), .int (nI en), .int (lo + 1)]))) := by
  intro sz
  refine Met.ofW (cc := cX8_read) (maxL := 7) (ret := (some .int)) (by decide) rfl ?_
  intro p e s m args below meth c s₁ B hml hv
  have hx := B.exec
  have hb := B.bytes
  have hrt := B.returns
  have hts := atoms_spec (ws := wsX8_read) B.pre
  have hown : s.vm.findClass RX8 = some m.cls := findClass_of_methodNamed B.named
  have hlocks := B.notSynchronized
  obtain ⟨rfl, hB⟩ := m_start hv
  generalize va_A (m_w L ad g) sz = A at hB ⊢
  generalize s.heap = H at hB ⊢
  generalize ([] : List Loc) = locs at hB ⊢
  have hl := lv_entry ([.ref (ad 0), .int (nI b), .int (nI k), .int (nI w)]) (n := 7) (Nat.le_of_ble_eq_true rfl)
  rw [lg_entry_eq]
  generalize (lg_sl ([.ref (ad 0), .int (nI b), .int (nI k), .int (nI w)]) ++ List.replicate (7 - (lg_sl ([.ref (ad 0), .int (nI b), .int (nI k), .int (nI w)])).length) Slot.unset).toArray = ls at hl ⊢
  have hl : lv_has ls 7 [(0, .ref (ad 0)), (1, .int (nI b)), (2, .int (nI k)), (3, .int (nI w))] := hl
  refine lv_aload_n hx hb dX8_read_0 rfl (lv_at hl 0 rfl) ?_
  refine lv_iload_n hx hb dX8_read_1 rfl (lv_at hl 2 rfl) ?_
  refine m_callVE (ci := 8) (As := [.int (nI k)]) (rest := []) ((by have h9 := c_X_paperNumber_t l D ty L ad g pn qn nw tr pf k m_0 m_6 h_0 h_6 hk; rw [hpp] at h9; exact h9 : m_E l yX8_paperNumber wsX8_paperNumber 1 21 D ty [.ref (ad 0), .int (nI k)] L ad g (some (.ref (ad pp))) g)) ⟨hx, hb, hml, hown, hts⟩ (cwV 1 hts gX8_read_X8_paperNumber rfl rfl rfl (by decide +kernel) ⟨Nat.le_of_ble_eq_true rfl, Nat.le_of_ble_eq_true rfl⟩) hB m_0 h_0 rfl rfl hl.1 rfl (Nat.le_of_ble_eq_true rfl) dX8_read_2 ⟨Nat.le_of_ble_eq_true rfl, Nat.le_of_ble_eq_true rfl⟩ (fun H locs hB => ?_)
  refine lv_astore (lv' := [(4, .ref (ad pp)), (0, .ref (ad 0)), (1, .int (nI b)), (2, .int (nI k)), (3, .int (nI w))]) hx hb dX8_read_5 hl (by decide) rfl (fun ls hl => ?_)
  refine lv_aload hx hb dX8_read_7 (lv_at hl 0 rfl) ?_
  refine lv_iload_n hx hb dX8_read_9 rfl (lv_at hl 4 rfl) ?_
  refine m_callSE (As := [.ref (ad pp), .int (nI w)]) (rest := []) ((by have h9 := c_X_textOf2_t l D ty L ad g pp pt vn (nI f) wd tf w m_pp m_pt h_pp h_pt hw4; rw [htf] at h9; exact h9 : m_E l yX8_textOf wsX8_textOf 2 42 D ty [.ref (ad pp), .int (nI w)] L ad g (some (.ref (ad t))) g)) ⟨hx, hb, hml, hown, hts⟩ (va_cwS 2 hts gX8_read_X8_textOf rfl rfl rfl (by decide +kernel) ⟨Nat.le_of_ble_eq_true rfl, Nat.le_of_ble_eq_true rfl⟩) hB rfl hl.1 rfl (Nat.le_of_ble_eq_true rfl) dX8_read_10 ⟨Nat.le_of_ble_eq_true rfl, Nat.le_of_ble_eq_true rfl⟩ (fun H locs hB => ?_)
  refine lv_astore (lv' := [(5, .ref (ad t)), (4, .ref (ad pp)), (0, .ref (ad 0)), (1, .int (nI b)), (2, .int (nI k)), (3, .int (nI w))]) hx hb dX8_read_13 hl (by decide) rfl (fun ls hl => ?_)
  refine lv_aload_n hx hb dX8_read_15 rfl (lv_at hl 2 rfl) ?_
  refine lv_iload_n hx hb dX8_read_16 rfl (lv_at hl 3 rfl) ?_
  refine m_callVE (ci := 8) (As := [.int (nI b)]) (rest := []) ((by have h9 := c_X_lastView_t l D ty L ad g pn qn nw tr vf b m_0 m_7 h_0 h_7 hb6; rw [hvr] at h9; exact h9 : m_E l yX8_lastViewOf wsX8_lastViewOf 1 21 D ty [.ref (ad 0), .int (nI b)] L ad g (some (.ref (ad r))) g)) ⟨hx, hb, hml, hown, hts⟩ (cwV 1 hts gX8_read_X8_lastViewOf rfl rfl rfl (by decide +kernel) ⟨Nat.le_of_ble_eq_true rfl, Nat.le_of_ble_eq_true rfl⟩) hB m_0 h_0 rfl rfl hl.1 rfl (Nat.le_of_ble_eq_true rfl) dX8_read_17 ⟨Nat.le_of_ble_eq_true rfl, Nat.le_of_ble_eq_true rfl⟩ (fun H locs hB => ?_)
  refine lv_astore (lv' := [(6, .ref (ad r)), (5, .ref (ad t)), (4, .ref (ad pp)), (0, .ref (ad 0)), (1, .int (nI b)), (2, .int (nI k)), (3, .int (nI w))]) hx hb dX8_read_20 hl (by decide) rfl (fun ls hl => ?_)
  refine lv_aload hx hb dX8_read_22 (lv_at hl 2 rfl) ?_
  refine lv_ifnull hx hb dX8_read_24 ?_
  refine lv_aload hx hb dX8_read_27 (lv_at hl 1 rfl) ?_
  refine lv_ifnull hx hb dX8_read_29 ?_
  refine lv_aload hx hb dX8_read_32 (lv_at hl 0 rfl) ?_
  refine lv_ifnonnull (tgt := 39) hx hb dX8_read_34 (by decide) ?_
  refine lv_aload_n hx hb dX8_read_39 rfl (lv_at hl 3 rfl) ?_
  refine lv_aload hx hb dX8_read_40 (lv_at hl 2 rfl) ?_
  refine lv_iload_n hx hb dX8_read_42 rfl (lv_at hl 4 rfl) ?_
  refine m_callVE (ci := 8) (As := [.ref (ad pp), .int (nI b)]) (rest := []) (c_X_isOpen2 l D ty L ad g pn qn nw tr fs fe pp pt vn wd b f m_0 m_3 m_4 m_5 m_pp h_0 h_3 h_4 h_5 h_pp hb6 hf4 hwd) ⟨hx, hb, hml, hown, hts⟩ (cwV 2 hts gX8_read_X8_isOpen rfl rfl rfl (by decide +kernel) ⟨Nat.le_of_ble_eq_true rfl, Nat.le_of_ble_eq_true rfl⟩) hB m_0 h_0 rfl rfl hl.1 rfl (Nat.le_of_ble_eq_true rfl) dX8_read_43 ⟨Nat.le_of_ble_eq_true rfl, Nat.le_of_ble_eq_true rfl⟩ (fun H locs hB => ?_)
  refine b_if_ne_t 52 hx hb dX8_read_46 (by decide) (by rw [hs]; decide) ?_
  refine lv_aload hx hb dX8_read_52 (lv_at hl 2 rfl) ?_
  refine lv_iload_n hx hb dX8_read_54 rfl (lv_at hl 4 rfl) ?_
  refine lv_aload hx hb dX8_read_55 (lv_at hl 1 rfl) ?_
  refine lv_aload hx hb dX8_read_57 (lv_at hl 0 rfl) ?_
  refine m_callVZ (ci := 2) (As := [.int (nI b), .ref (ad t), .ref (ad r)]) (rest := []) (c_Paper_copy l D ty L ad g pp (nI b) t ro a bl n bs bk r ra n0 bs0 fv m_t m_ro m_a m_bl m_r m_ra h_t h_ro h_a h_bl h_r h_ra hn40 hbk hfv h8 (by omega) (by omega) (by omega) (by omega) (by omega) (by omega) (by omega) (by omega) (by omega)) ⟨hx, hb, hml, hown, hts⟩ (cwV 3 hts gX8_read_X2_copyFor rfl rfl rfl (by decide +kernel) ⟨Nat.le_of_ble_eq_true rfl, Nat.le_of_ble_eq_true rfl⟩) hB m_pp h_pp rfl rfl hl.1 rfl (Nat.le_of_ble_eq_true rfl) dX8_read_59 ⟨Nat.le_of_ble_eq_true rfl, Nat.le_of_ble_eq_true rfl⟩ (fun H locs hB => ?_)
  replace hB : m_B D ty A s L ad (va_up (va_up g ra (.inl (ty 2, 80, .inl (mkF false (nI b) fv bs0 n)))) r (.inr (5, [.ref (ad ra), .int (nI (mkN false (nI b) fv n))]))) H locs := hB
  refine lv_aload_n hx hb dX8_read_62 rfl (lv_at hl 3 rfl) ?_
  refine m_get (C := RX8) (T := TX8) (N := 12) (ci := 8) hx hb hts in_X8_read_X8 hown hB m_0 ((va_up_ne _ _ (by omega)).trans ((va_up_ne _ _ (by omega)).trans h_0)) rfl 6 (by decide) (hts (.fieldLink RX8 41 "PaperRoom" "seen" "LPaperRoom$Seen;") (by decide +kernel)) (fun _ h9 => h9) rfl dX8_read_63 ?_
  refine lv_aload_n hx hb dX8_read_66 rfl (lv_at hl 3 rfl) ?_
  refine m_get (C := RX8) (T := TX8) (N := 12) (ci := 8) hx hb hts in_X8_read_X8 hown hB m_0 ((va_up_ne _ _ (by omega)).trans ((va_up_ne _ _ (by omega)).trans h_0)) rfl 10 (by decide) (hts (.fieldLink RX8 122 "PaperRoom" "now" "I") (by decide +kernel)) (fun _ h9 => h9) rfl dX8_read_67 ?_
  refine lv_iload_n hx hb dX8_read_70 rfl (lv_at hl 4 rfl) ?_
  refine lv_iload_n hx hb dX8_read_71 rfl (lv_at hl 5 rfl) ?_
  refine lv_iload_n hx hb dX8_read_72 rfl (lv_at hl 6 rfl) ?_
  refine m_callVZ (ci := 6) (As := [.int nw, .int (nI b), .int (nI k), .int (nI w)]) (rest := []) (c_Seen_note_full l D ty L ad _ 22 23 24 25 26 27 en lo nw (nI b) (nI k) (nI w) m_22 ((va_up_ne _ _ (by omega)).trans ((va_up_ne _ _ (by omega)).trans h_22)) hen) ⟨hx, hb, hml, hown, hts⟩ (cwV 4 hts gX8_read_X6_note rfl rfl rfl (by decide +kernel) ⟨Nat.le_of_ble_eq_true rfl, Nat.le_of_ble_eq_true rfl⟩) hB m_22 ((va_up_ne _ _ (by omega)).trans ((va_up_ne _ _ (by omega)).trans h_22)) rfl rfl hl.1 rfl (Nat.le_of_ble_eq_true rfl) dX8_read_73 ⟨Nat.le_of_ble_eq_true rfl, Nat.le_of_ble_eq_true rfl⟩ (fun H locs hB => ?_)
  replace hB : m_B D ty A s L ad (va_up (va_up (va_up g ra (.inl (ty 2, 80, .inl (mkF false (nI b) fv bs0 n)))) r (.inr (5, [.ref (ad ra), .int (nI (mkN false (nI b) fv n))]))) 22 (.inr (6, [.ref (ad 23), .ref (ad 24), .ref (ad 25), .ref (ad 26), .ref (ad 27), .int (nI en), .int (lo + 1)]))) H locs := hB
  refine lv_aload hx hb dX8_read_76 (lv_at hl 0 rfl) ?_
  refine m_callVE (ci := 5) (As := []) (rest := []) (c_Row_length l D ty L ad _ r ra (mkN false (nI b) fv n) m_r ((va_up_ne _ _ (by omega)).trans (va_up_self _ _ _))) ⟨hx, hb, hml, hown, hts⟩ (cwV 0 hts gX8_read_X5_length rfl rfl rfl (by decide +kernel) ⟨Nat.le_of_ble_eq_true rfl, Nat.le_of_ble_eq_true rfl⟩) hB m_r ((va_up_ne _ _ (by omega)).trans (va_up_self _ _ _)) rfl rfl hl.1 rfl (Nat.le_of_ble_eq_true rfl) dX8_read_78 ⟨Nat.le_of_ble_eq_true rfl, Nat.le_of_ble_eq_true rfl⟩ (fun H locs hB => ?_)
  exact m_iret hx hb hrt hlocks hB (Nat.le_refl _) (Nat.le_refl _) dX8_read_81 ⟨rfl, rfl, rfl, rfl⟩
set_option maxHeartbeats 1000000 in
set_option maxRecDepth 100000 in
theorem c_X_read2_ok0 (l : Launch) (D : va_G) (ty : Nat → ClassId) (L : List Nat) (ad : Nat → Nat) (g : Nat → va_E) (pn qn : Nat) (nw : Int32) (tr : Int64) (pf : Nat → Option Nat) (vf : Nat → Option Nat) (r ra n0 b : Nat) (bs0 : Nat → Int32) (fs fe : Nat → Int32) (pp pt vn : Nat) (wd : Int32) (tf : Nat → Option Nat) (k f w t ro a bl n : Nat) (bs bk : Nat → Int32) (fv : Nat → Int32) (en : Nat) (lo : Int32) (f0 f1 f2 f3 : Nat → Int32) (f4 : Nat → Int64) (m_0 : 0 ∈ L) (m_3 : 3 ∈ L) (m_4 : 4 ∈ L) (m_5 : 5 ∈ L) (m_6 : 6 ∈ L) (m_7 : 7 ∈ L) (m_r : r ∈ L) (m_ra : ra ∈ L) (m_pp : pp ∈ L) (m_pt : pt ∈ L) (m_t : t ∈ L) (m_ro : ro ∈ L) (m_a : a ∈ L) (m_bl : bl ∈ L) (m_22 : 22 ∈ L) (m_23 : 23 ∈ L) (m_24 : 24 ∈ L) (m_25 : 25 ∈ L) (m_26 : 26 ∈ L) (m_27 : 27 ∈ L) (h_0 : g 0 = .inr (8, [.ref (ad 1), .ref (ad 3), .ref (ad 6), .int (nI pn), .ref (ad 7), .ref (ad 20), .ref (ad 22), .ref (ad 28), .int (nI qn), .ref (ad 29), .int nw, .long tr])) (h_3 : g 3 = .inr (4, [.ref (ad 4), .ref (ad 5)])) (h_4 : g 4 = .inl (ty 0, 12, .inl fs)) (h_5 : g 5 = .inl (ty 0, 12, .inl fe)) (h_6 : g 6 = .inl (ty 4, 8, .inr (.inr (.inr (.inr pf))))) (h_7 : g 7 = .inl (ty 6, 6, .inr (.inr (.inr (.inr vf))))) (h_r : g r = .inr (5, [.ref (ad ra), .int (nI n0)])) (h_ra : g ra = .inl (ty 2, 80, .inl bs0)) (h_pp : g pp = .inr (2, [.int (nI f), .ref (ad pt), .int (nI vn), .int wd])) (h_pt : g pt = .inl (ty 7, 4, .inr (.inr (.inr (.inr tf))))) (h_t : g t = .inr (7, [.ref (ad ro), .ref (ad bl)])) (h_ro : g ro = .inr (5, [.ref (ad a), .int (nI n)])) (h_a : g a = .inl (ty 2, n, .inl bs)) (h_bl : g bl = .inl (ty 3, n, .inl bk)) (h_22 : g 22 = .inr (6, [.ref (ad 23), .ref (ad 24), .ref (ad 25), .ref (ad 26), .ref (ad 27), .int (nI en), .int lo])) (h_23 : g 23 = .inl (ty 0, 200, .inl f0)) (h_24 : g 24 = .inl (ty 0, 200, .inl f1)) (h_25 : g 25 = .inl (ty 0, 200, .inl f2)) (h_26 : g 26 = .inl (ty 0, 200, .inl f3)) (h_27 : g 27 = .inl (ty 1, 200, .inr (.inl f4))) (hb6 : b < 6) (hvr : vf b = some (ad r)) (hk : k < 8) (hpp : pf k = some (ad pp)) (hw4 : w < 4) (htf : tf w = some (ad t)) (hf4 : f < 4) (hwd : wd = 0 ∨ wd = 1) (hs : (opn wd fs fe (b % 3 * 4 + f) nw) = true) (hn40 : n ≤ 40) (hbk : ∀ i, i < n → bk i = 0 ∨ bk i = 1) (hfv : ∀ i, i < n → fv i = pl (bs i) (bk i)) (h8 : ∀ i, i < n → (fv i).toInt8.toInt32 = fv i) (hr8 : 8 ≤ r ∧ r < 14) (hra8 : 14 ≤ ra ∧ ra < 20) (hb_pp : 30 ≤ pp) (hb_pt : 30 ≤ pt) (hb_t : 30 ≤ t) (hb_ro : 30 ≤ ro) (hb_a : 30 ≤ a) (hb_bl : 30 ≤ bl) (hen : en = 0) : m_E l yX8_read wsX8_read 5 113 D ty [.ref (ad 0), .int (nI b), .int (nI k), .int (nI w)] L ad g (some (.int (nI (mkN false (nI b) fv n)))) (va_up (va_up (va_up (va_up (va_up (va_up (va_up (va_up g ra (.inl (ty 2, 80, .inl (mkF false (nI b) fv bs0 n)))) r (.inr (5, [.ref (ad ra), .int (nI (mkN false (nI b) fv n))]))) 23 (.inl (ty 0, 200, .inl (upd f0 en nw)))) 24 (.inl (ty 0, 200, .inl (upd f1 en (nI b))))) 25 (.inl (ty 0, 200, .inl (upd f2 en (nI k))))) 26 (.inl (ty 0, 200, .inl (upd f3 en (nI w))))) 27 (.inl (ty 1, 200, .inr (.inl (vp_updL f4 en (lk (7) nw (nI b) (nI k) (nI w))))))) 22 (.inr (6, [.ref (ad 23), .ref (ad 24), .ref (ad 25), .ref (ad 26), .ref (ad 27), .int (nI (en + 1)), .int lo]))) := by
  intro sz
  refine Met.ofW (cc := cX8_read) (maxL := 7) (ret := (some .int)) (by decide) rfl ?_
  intro p e s m args below meth c s₁ B hml hv
  have hx := B.exec
  have hb := B.bytes
  have hrt := B.returns
  have hts := atoms_spec (ws := wsX8_read) B.pre
  have hown : s.vm.findClass RX8 = some m.cls := findClass_of_methodNamed B.named
  have hlocks := B.notSynchronized
  obtain ⟨rfl, hB⟩ := m_start hv
  generalize va_A (m_w L ad g) sz = A at hB ⊢
  generalize s.heap = H at hB ⊢
  generalize ([] : List Loc) = locs at hB ⊢
  have hl := lv_entry ([.ref (ad 0), .int (nI b), .int (nI k), .int (nI w)]) (n := 7) (Nat.le_of_ble_eq_true rfl)
  rw [lg_entry_eq]
  generalize (lg_sl ([.ref (ad 0), .int (nI b), .int (nI k), .int (nI w)]) ++ List.replicate (7 - (lg_sl ([.ref (ad 0), .int (nI b), .int (nI k), .int (nI w)])).length) Slot.unset).toArray = ls at hl ⊢
  have hl : lv_has ls 7 [(0, .ref (ad 0)), (1, .int (nI b)), (2, .int (nI k)), (3, .int (nI w))] := hl
  refine lv_aload_n hx hb dX8_read_0 rfl (lv_at hl 0 rfl) ?_
  refine lv_iload_n hx hb dX8_read_1 rfl (lv_at hl 2 rfl) ?_
  refine m_callVE (ci := 8) (As := [.int (nI k)]) (rest := []) ((by have h9 := c_X_paperNumber_t l D ty L ad g pn qn nw tr pf k m_0 m_6 h_0 h_6 hk; rw [hpp] at h9; exact h9 : m_E l yX8_paperNumber wsX8_paperNumber 1 21 D ty [.ref (ad 0), .int (nI k)] L ad g (some (.ref (ad pp))) g)) ⟨hx, hb, hml, hown, hts⟩ (cwV 1 hts gX8_read_X8_paperNumber rfl rfl rfl (by decide +kernel) ⟨Nat.le_of_ble_eq_true rfl, Nat.le_of_ble_eq_true rfl⟩) hB m_0 h_0 rfl rfl hl.1 rfl (Nat.le_of_ble_eq_true rfl) dX8_read_2 ⟨Nat.le_of_ble_eq_true rfl, Nat.le_of_ble_eq_true rfl⟩ (fun H locs hB => ?_)
  refine lv_astore (lv' := [(4, .ref (ad pp)), (0, .ref (ad 0)), (1, .int (nI b)), (2, .int (nI k)), (3, .int (nI w))]) hx hb dX8_read_5 hl (by decide) rfl (fun ls hl => ?_)
  refine lv_aload hx hb dX8_read_7 (lv_at hl 0 rfl) ?_
  refine lv_iload_n hx hb dX8_read_9 rfl (lv_at hl 4 rfl) ?_
  refine m_callSE (As := [.ref (ad pp), .int (nI w)]) (rest := []) ((by have h9 := c_X_textOf2_t l D ty L ad g pp pt vn (nI f) wd tf w m_pp m_pt h_pp h_pt hw4; rw [htf] at h9; exact h9 : m_E l yX8_textOf wsX8_textOf 2 42 D ty [.ref (ad pp), .int (nI w)] L ad g (some (.ref (ad t))) g)) ⟨hx, hb, hml, hown, hts⟩ (va_cwS 2 hts gX8_read_X8_textOf rfl rfl rfl (by decide +kernel) ⟨Nat.le_of_ble_eq_true rfl, Nat.le_of_ble_eq_true rfl⟩) hB rfl hl.1 rfl (Nat.le_of_ble_eq_true rfl) dX8_read_10 ⟨Nat.le_of_ble_eq_true rfl, Nat.le_of_ble_eq_true rfl⟩ (fun H locs hB => ?_)
  refine lv_astore (lv' := [(5, .ref (ad t)), (4, .ref (ad pp)), (0, .ref (ad 0)), (1, .int (nI b)), (2, .int (nI k)), (3, .int (nI w))]) hx hb dX8_read_13 hl (by decide) rfl (fun ls hl => ?_)
  refine lv_aload_n hx hb dX8_read_15 rfl (lv_at hl 2 rfl) ?_
  refine lv_iload_n hx hb dX8_read_16 rfl (lv_at hl 3 rfl) ?_
  refine m_callVE (ci := 8) (As := [.int (nI b)]) (rest := []) ((by have h9 := c_X_lastView_t l D ty L ad g pn qn nw tr vf b m_0 m_7 h_0 h_7 hb6; rw [hvr] at h9; exact h9 : m_E l yX8_lastViewOf wsX8_lastViewOf 1 21 D ty [.ref (ad 0), .int (nI b)] L ad g (some (.ref (ad r))) g)) ⟨hx, hb, hml, hown, hts⟩ (cwV 1 hts gX8_read_X8_lastViewOf rfl rfl rfl (by decide +kernel) ⟨Nat.le_of_ble_eq_true rfl, Nat.le_of_ble_eq_true rfl⟩) hB m_0 h_0 rfl rfl hl.1 rfl (Nat.le_of_ble_eq_true rfl) dX8_read_17 ⟨Nat.le_of_ble_eq_true rfl, Nat.le_of_ble_eq_true rfl⟩ (fun H locs hB => ?_)
  refine lv_astore (lv' := [(6, .ref (ad r)), (5, .ref (ad t)), (4, .ref (ad pp)), (0, .ref (ad 0)), (1, .int (nI b)), (2, .int (nI k)), (3, .int (nI w))]) hx hb dX8_read_20 hl (by decide) rfl (fun ls hl => ?_)
  refine lv_aload hx hb dX8_read_22 (lv_at hl 2 rfl) ?_
  refine lv_ifnull hx hb dX8_read_24 ?_
  refine lv_aload hx hb dX8_read_27 (lv_at hl 1 rfl) ?_
  refine lv_ifnull hx hb dX8_read_29 ?_
  refine lv_aload hx hb dX8_read_32 (lv_at hl 0 rfl) ?_
  refine lv_ifnonnull (tgt := 39) hx hb dX8_read_34 (by decide) ?_
  refine lv_aload_n hx hb dX8_read_39 rfl (lv_at hl 3 rfl) ?_
  refine lv_aload hx hb dX8_read_40 (lv_at hl 2 rfl) ?_
  refine lv_iload_n hx hb dX8_read_42 rfl (lv_at hl 4 rfl) ?_
  refine m_callVE (ci := 8) (As := [.ref (ad pp), .int (nI b)]) (rest := []) (c_X_isOpen2 l D ty L ad g pn qn nw tr fs fe pp pt vn wd b f m_0 m_3 m_4 m_5 m_pp h_0 h_3 h_4 h_5 h_pp hb6 hf4 hwd) ⟨hx, hb, hml, hown, hts⟩ (cwV 2 hts gX8_read_X8_isOpen rfl rfl rfl (by decide +kernel) ⟨Nat.le_of_ble_eq_true rfl, Nat.le_of_ble_eq_true rfl⟩) hB m_0 h_0 rfl rfl hl.1 rfl (Nat.le_of_ble_eq_true rfl) dX8_read_43 ⟨Nat.le_of_ble_eq_true rfl, Nat.le_of_ble_eq_true rfl⟩ (fun H locs hB => ?_)
  refine b_if_ne_t 52 hx hb dX8_read_46 (by decide) (by rw [hs]; decide) ?_
  refine lv_aload hx hb dX8_read_52 (lv_at hl 2 rfl) ?_
  refine lv_iload_n hx hb dX8_read_54 rfl (lv_at hl 4 rfl) ?_
  refine lv_aload hx hb dX8_read_55 (lv_at hl 1 rfl) ?_
  refine lv_aload hx hb dX8_read_57 (lv_at hl 0 rfl) ?_
  refine m_callVZ (ci := 2) (As := [.int (nI b), .ref (ad t), .ref (ad r)]) (rest := []) (c_Paper_copy l D ty L ad g pp (nI b) t ro a bl n bs bk r ra n0 bs0 fv m_t m_ro m_a m_bl m_r m_ra h_t h_ro h_a h_bl h_r h_ra hn40 hbk hfv h8 (by omega) (by omega) (by omega) (by omega) (by omega) (by omega) (by omega) (by omega) (by omega)) ⟨hx, hb, hml, hown, hts⟩ (cwV 3 hts gX8_read_X2_copyFor rfl rfl rfl (by decide +kernel) ⟨Nat.le_of_ble_eq_true rfl, Nat.le_of_ble_eq_true rfl⟩) hB m_pp h_pp rfl rfl hl.1 rfl (Nat.le_of_ble_eq_true rfl) dX8_read_59 ⟨Nat.le_of_ble_eq_true rfl, Nat.le_of_ble_eq_true rfl⟩ (fun H locs hB => ?_)
  replace hB : m_B D ty A s L ad (va_up (va_up g ra (.inl (ty 2, 80, .inl (mkF false (nI b) fv bs0 n)))) r (.inr (5, [.ref (ad ra), .int (nI (mkN false (nI b) fv n))]))) H locs := hB
  refine lv_aload_n hx hb dX8_read_62 rfl (lv_at hl 3 rfl) ?_
  refine m_get (C := RX8) (T := TX8) (N := 12) (ci := 8) hx hb hts in_X8_read_X8 hown hB m_0 ((va_up_ne _ _ (by omega)).trans ((va_up_ne _ _ (by omega)).trans h_0)) rfl 6 (by decide) (hts (.fieldLink RX8 41 "PaperRoom" "seen" "LPaperRoom$Seen;") (by decide +kernel)) (fun _ h9 => h9) rfl dX8_read_63 ?_
  refine lv_aload_n hx hb dX8_read_66 rfl (lv_at hl 3 rfl) ?_
  refine m_get (C := RX8) (T := TX8) (N := 12) (ci := 8) hx hb hts in_X8_read_X8 hown hB m_0 ((va_up_ne _ _ (by omega)).trans ((va_up_ne _ _ (by omega)).trans h_0)) rfl 10 (by decide) (hts (.fieldLink RX8 122 "PaperRoom" "now" "I") (by decide +kernel)) (fun _ h9 => h9) rfl dX8_read_67 ?_
  refine lv_iload_n hx hb dX8_read_70 rfl (lv_at hl 4 rfl) ?_
  refine lv_iload_n hx hb dX8_read_71 rfl (lv_at hl 5 rfl) ?_
  refine lv_iload_n hx hb dX8_read_72 rfl (lv_at hl 6 rfl) ?_
  refine m_callVZ (ci := 6) (As := [.int nw, .int (nI b), .int (nI k), .int (nI w)]) (rest := []) (c_Seen_note_0 l D ty L ad _ 22 23 24 25 26 27 en lo f0 f1 f2 f3 f4 nw (nI b) (nI k) (nI w) m_22 m_23 m_24 m_25 m_26 m_27 ((va_up_ne _ _ (by omega)).trans ((va_up_ne _ _ (by omega)).trans h_22)) ((va_up_ne _ _ (by omega)).trans ((va_up_ne _ _ (by omega)).trans h_23)) ((va_up_ne _ _ (by omega)).trans ((va_up_ne _ _ (by omega)).trans h_24)) ((va_up_ne _ _ (by omega)).trans ((va_up_ne _ _ (by omega)).trans h_25)) ((va_up_ne _ _ (by omega)).trans ((va_up_ne _ _ (by omega)).trans h_26)) ((va_up_ne _ _ (by omega)).trans ((va_up_ne _ _ (by omega)).trans h_27)) hen (by decide) (by decide) (by decide) (by decide) (by decide) (by decide) (by decide) (by decide) (by decide) (by decide) (by decide) (by decide) (by decide) (by decide) (by decide)) ⟨hx, hb, hml, hown, hts⟩ (cwV 4 hts gX8_read_X6_note rfl rfl rfl (by decide +kernel) ⟨Nat.le_of_ble_eq_true rfl, Nat.le_of_ble_eq_true rfl⟩) hB m_22 ((va_up_ne _ _ (by omega)).trans ((va_up_ne _ _ (by omega)).trans h_22)) rfl rfl hl.1 rfl (Nat.le_of_ble_eq_true rfl) dX8_read_73 ⟨Nat.le_of_ble_eq_true rfl, Nat.le_of_ble_eq_true rfl⟩ (fun H locs hB => ?_)
  replace hB : m_B D ty A s L ad (va_up (va_up (va_up (va_up (va_up (va_up (va_up (va_up g ra (.inl (ty 2, 80, .inl (mkF false (nI b) fv bs0 n)))) r (.inr (5, [.ref (ad ra), .int (nI (mkN false (nI b) fv n))]))) 23 (.inl (ty 0, 200, .inl (upd f0 en nw)))) 24 (.inl (ty 0, 200, .inl (upd f1 en (nI b))))) 25 (.inl (ty 0, 200, .inl (upd f2 en (nI k))))) 26 (.inl (ty 0, 200, .inl (upd f3 en (nI w))))) 27 (.inl (ty 1, 200, .inr (.inl (vp_updL f4 en (lk (7) nw (nI b) (nI k) (nI w))))))) 22 (.inr (6, [.ref (ad 23), .ref (ad 24), .ref (ad 25), .ref (ad 26), .ref (ad 27), .int (nI (en + 1)), .int lo]))) H locs := hB
  refine lv_aload hx hb dX8_read_76 (lv_at hl 0 rfl) ?_
  refine m_callVE (ci := 5) (As := []) (rest := []) (c_Row_length l D ty L ad _ r ra (mkN false (nI b) fv n) m_r ((va_up_ne _ _ (by omega)).trans ((va_up_ne _ _ (by omega)).trans ((va_up_ne _ _ (by omega)).trans ((va_up_ne _ _ (by omega)).trans ((va_up_ne _ _ (by omega)).trans ((va_up_ne _ _ (by omega)).trans (va_up_self _ _ _)))))))) ⟨hx, hb, hml, hown, hts⟩ (cwV 0 hts gX8_read_X5_length rfl rfl rfl (by decide +kernel) ⟨Nat.le_of_ble_eq_true rfl, Nat.le_of_ble_eq_true rfl⟩) hB m_r ((va_up_ne _ _ (by omega)).trans ((va_up_ne _ _ (by omega)).trans ((va_up_ne _ _ (by omega)).trans ((va_up_ne _ _ (by omega)).trans ((va_up_ne _ _ (by omega)).trans ((va_up_ne _ _ (by omega)).trans (va_up_self _ _ _))))))) rfl rfl hl.1 rfl (Nat.le_of_ble_eq_true rfl) dX8_read_78 ⟨Nat.le_of_ble_eq_true rfl, Nat.le_of_ble_eq_true rfl⟩ (fun H locs hB => ?_)
  exact m_iret hx hb hrt hlocks hB (Nat.le_refl _) (Nat.le_refl _) dX8_read_81 ⟨rfl, rfl, rfl, rfl⟩
set_option maxHeartbeats 1000000 in
set_option maxRecDepth 100000 in
theorem c_X_read2_ok1 (l : Launch) (D : va_G) (ty : Nat → ClassId) (L : List Nat) (ad : Nat → Nat) (g : Nat → va_E) (pn qn : Nat) (nw : Int32) (tr : Int64) (pf : Nat → Option Nat) (vf : Nat → Option Nat) (r ra n0 b : Nat) (bs0 : Nat → Int32) (fs fe : Nat → Int32) (pp pt vn : Nat) (wd : Int32) (tf : Nat → Option Nat) (k f w t ro a bl n : Nat) (bs bk : Nat → Int32) (fv : Nat → Int32) (en : Nat) (lo : Int32) (f0 f1 f2 f3 : Nat → Int32) (f4 : Nat → Int64) (m_0 : 0 ∈ L) (m_3 : 3 ∈ L) (m_4 : 4 ∈ L) (m_5 : 5 ∈ L) (m_6 : 6 ∈ L) (m_7 : 7 ∈ L) (m_r : r ∈ L) (m_ra : ra ∈ L) (m_pp : pp ∈ L) (m_pt : pt ∈ L) (m_t : t ∈ L) (m_ro : ro ∈ L) (m_a : a ∈ L) (m_bl : bl ∈ L) (m_22 : 22 ∈ L) (m_23 : 23 ∈ L) (m_24 : 24 ∈ L) (m_25 : 25 ∈ L) (m_26 : 26 ∈ L) (m_27 : 27 ∈ L) (h_0 : g 0 = .inr (8, [.ref (ad 1), .ref (ad 3), .ref (ad 6), .int (nI pn), .ref (ad 7), .ref (ad 20), .ref (ad 22), .ref (ad 28), .int (nI qn), .ref (ad 29), .int nw, .long tr])) (h_3 : g 3 = .inr (4, [.ref (ad 4), .ref (ad 5)])) (h_4 : g 4 = .inl (ty 0, 12, .inl fs)) (h_5 : g 5 = .inl (ty 0, 12, .inl fe)) (h_6 : g 6 = .inl (ty 4, 8, .inr (.inr (.inr (.inr pf))))) (h_7 : g 7 = .inl (ty 6, 6, .inr (.inr (.inr (.inr vf))))) (h_r : g r = .inr (5, [.ref (ad ra), .int (nI n0)])) (h_ra : g ra = .inl (ty 2, 80, .inl bs0)) (h_pp : g pp = .inr (2, [.int (nI f), .ref (ad pt), .int (nI vn), .int wd])) (h_pt : g pt = .inl (ty 7, 4, .inr (.inr (.inr (.inr tf))))) (h_t : g t = .inr (7, [.ref (ad ro), .ref (ad bl)])) (h_ro : g ro = .inr (5, [.ref (ad a), .int (nI n)])) (h_a : g a = .inl (ty 2, n, .inl bs)) (h_bl : g bl = .inl (ty 3, n, .inl bk)) (h_22 : g 22 = .inr (6, [.ref (ad 23), .ref (ad 24), .ref (ad 25), .ref (ad 26), .ref (ad 27), .int (nI en), .int lo])) (h_23 : g 23 = .inl (ty 0, 200, .inl f0)) (h_24 : g 24 = .inl (ty 0, 200, .inl f1)) (h_25 : g 25 = .inl (ty 0, 200, .inl f2)) (h_26 : g 26 = .inl (ty 0, 200, .inl f3)) (h_27 : g 27 = .inl (ty 1, 200, .inr (.inl f4))) (hb6 : b < 6) (hvr : vf b = some (ad r)) (hk : k < 8) (hpp : pf k = some (ad pp)) (hw4 : w < 4) (htf : tf w = some (ad t)) (hf4 : f < 4) (hwd : wd = 0 ∨ wd = 1) (hs : (opn wd fs fe (b % 3 * 4 + f) nw) = true) (hn40 : n ≤ 40) (hbk : ∀ i, i < n → bk i = 0 ∨ bk i = 1) (hfv : ∀ i, i < n → fv i = pl (bs i) (bk i)) (h8 : ∀ i, i < n → (fv i).toInt8.toInt32 = fv i) (hr8 : 8 ≤ r ∧ r < 14) (hra8 : 14 ≤ ra ∧ ra < 20) (hb_pp : 30 ≤ pp) (hb_pt : 30 ≤ pt) (hb_t : 30 ≤ t) (hb_ro : 30 ≤ ro) (hb_a : 30 ≤ a) (hb_bl : 30 ≤ bl) (he0 : 0 < en) (hen : en < 200) : m_E l yX8_read wsX8_read 5 113 D ty [.ref (ad 0), .int (nI b), .int (nI k), .int (nI w)] L ad g (some (.int (nI (mkN false (nI b) fv n)))) (va_up (va_up (va_up (va_up (va_up (va_up (va_up (va_up g ra (.inl (ty 2, 80, .inl (mkF false (nI b) fv bs0 n)))) r (.inr (5, [.ref (ad ra), .int (nI (mkN false (nI b) fv n))]))) 23 (.inl (ty 0, 200, .inl (upd f0 en nw)))) 24 (.inl (ty 0, 200, .inl (upd f1 en (nI b))))) 25 (.inl (ty 0, 200, .inl (upd f2 en (nI k))))) 26 (.inl (ty 0, 200, .inl (upd f3 en (nI w))))) 27 (.inl (ty 1, 200, .inr (.inl (vp_updL f4 en (lk (f4 (en - 1)) nw (nI b) (nI k) (nI w))))))) 22 (.inr (6, [.ref (ad 23), .ref (ad 24), .ref (ad 25), .ref (ad 26), .ref (ad 27), .int (nI (en + 1)), .int lo]))) := by
  intro sz
  refine Met.ofW (cc := cX8_read) (maxL := 7) (ret := (some .int)) (by decide) rfl ?_
  intro p e s m args below meth c s₁ B hml hv
  have hx := B.exec
  have hb := B.bytes
  have hrt := B.returns
  have hts := atoms_spec (ws := wsX8_read) B.pre
  have hown : s.vm.findClass RX8 = some m.cls := findClass_of_methodNamed B.named
  have hlocks := B.notSynchronized
  obtain ⟨rfl, hB⟩ := m_start hv
  generalize va_A (m_w L ad g) sz = A at hB ⊢
  generalize s.heap = H at hB ⊢
  generalize ([] : List Loc) = locs at hB ⊢
  have hl := lv_entry ([.ref (ad 0), .int (nI b), .int (nI k), .int (nI w)]) (n := 7) (Nat.le_of_ble_eq_true rfl)
  rw [lg_entry_eq]
  generalize (lg_sl ([.ref (ad 0), .int (nI b), .int (nI k), .int (nI w)]) ++ List.replicate (7 - (lg_sl ([.ref (ad 0), .int (nI b), .int (nI k), .int (nI w)])).length) Slot.unset).toArray = ls at hl ⊢
  have hl : lv_has ls 7 [(0, .ref (ad 0)), (1, .int (nI b)), (2, .int (nI k)), (3, .int (nI w))] := hl
  refine lv_aload_n hx hb dX8_read_0 rfl (lv_at hl 0 rfl) ?_
  refine lv_iload_n hx hb dX8_read_1 rfl (lv_at hl 2 rfl) ?_
  refine m_callVE (ci := 8) (As := [.int (nI k)]) (rest := []) ((by have h9 := c_X_paperNumber_t l D ty L ad g pn qn nw tr pf k m_0 m_6 h_0 h_6 hk; rw [hpp] at h9; exact h9 : m_E l yX8_paperNumber wsX8_paperNumber 1 21 D ty [.ref (ad 0), .int (nI k)] L ad g (some (.ref (ad pp))) g)) ⟨hx, hb, hml, hown, hts⟩ (cwV 1 hts gX8_read_X8_paperNumber rfl rfl rfl (by decide +kernel) ⟨Nat.le_of_ble_eq_true rfl, Nat.le_of_ble_eq_true rfl⟩) hB m_0 h_0 rfl rfl hl.1 rfl (Nat.le_of_ble_eq_true rfl) dX8_read_2 ⟨Nat.le_of_ble_eq_true rfl, Nat.le_of_ble_eq_true rfl⟩ (fun H locs hB => ?_)
  refine lv_astore (lv' := [(4, .ref (ad pp)), (0, .ref (ad 0)), (1, .int (nI b)), (2, .int (nI k)), (3, .int (nI w))]) hx hb dX8_read_5 hl (by decide) rfl (fun ls hl => ?_)
  refine lv_aload hx hb dX8_read_7 (lv_at hl 0 rfl) ?_
  refine lv_iload_n hx hb dX8_read_9 rfl (lv_at hl 4 rfl) ?_
  refine m_callSE (As := [.ref (ad pp), .int (nI w)]) (rest := []) ((by have h9 := c_X_textOf2_t l D ty L ad g pp pt vn (nI f) wd tf w m_pp m_pt h_pp h_pt hw4; rw [htf] at h9; exact h9 : m_E l yX8_textOf wsX8_textOf 2 42 D ty [.ref (ad pp), .int (nI w)] L ad g (some (.ref (ad t))) g)) ⟨hx, hb, hml, hown, hts⟩ (va_cwS 2 hts gX8_read_X8_textOf rfl rfl rfl (by decide +kernel) ⟨Nat.le_of_ble_eq_true rfl, Nat.le_of_ble_eq_true rfl⟩) hB rfl hl.1 rfl (Nat.le_of_ble_eq_true rfl) dX8_read_10 ⟨Nat.le_of_ble_eq_true rfl, Nat.le_of_ble_eq_true rfl⟩ (fun H locs hB => ?_)
  refine lv_astore (lv' := [(5, .ref (ad t)), (4, .ref (ad pp)), (0, .ref (ad 0)), (1, .int (nI b)), (2, .int (nI k)), (3, .int (nI w))]) hx hb dX8_read_13 hl (by decide) rfl (fun ls hl => ?_)
  refine lv_aload_n hx hb dX8_read_15 rfl (lv_at hl 2 rfl) ?_
  refine lv_iload_n hx hb dX8_read_16 rfl (lv_at hl 3 rfl) ?_
  refine m_callVE (ci := 8) (As := [.int (nI b)]) (rest := []) ((by have h9 := c_X_lastView_t l D ty L ad g pn qn nw tr vf b m_0 m_7 h_0 h_7 hb6; rw [hvr] at h9; exact h9 : m_E l yX8_lastViewOf wsX8_lastViewOf 1 21 D ty [.ref (ad 0), .int (nI b)] L ad g (some (.ref (ad r))) g)) ⟨hx, hb, hml, hown, hts⟩ (cwV 1 hts gX8_read_X8_lastViewOf rfl rfl rfl (by decide +kernel) ⟨Nat.le_of_ble_eq_true rfl, Nat.le_of_ble_eq_true rfl⟩) hB m_0 h_0 rfl rfl hl.1 rfl (Nat.le_of_ble_eq_true rfl) dX8_read_17 ⟨Nat.le_of_ble_eq_true rfl, Nat.le_of_ble_eq_true rfl⟩ (fun H locs hB => ?_)
  refine lv_astore (lv' := [(6, .ref (ad r)), (5, .ref (ad t)), (4, .ref (ad pp)), (0, .ref (ad 0)), (1, .int (nI b)), (2, .int (nI k)), (3, .int (nI w))]) hx hb dX8_read_20 hl (by decide) rfl (fun ls hl => ?_)
  refine lv_aload hx hb dX8_read_22 (lv_at hl 2 rfl) ?_
  refine lv_ifnull hx hb dX8_read_24 ?_
  refine lv_aload hx hb dX8_read_27 (lv_at hl 1 rfl) ?_
  refine lv_ifnull hx hb dX8_read_29 ?_
  refine lv_aload hx hb dX8_read_32 (lv_at hl 0 rfl) ?_
  refine lv_ifnonnull (tgt := 39) hx hb dX8_read_34 (by decide) ?_
  refine lv_aload_n hx hb dX8_read_39 rfl (lv_at hl 3 rfl) ?_
  refine lv_aload hx hb dX8_read_40 (lv_at hl 2 rfl) ?_
  refine lv_iload_n hx hb dX8_read_42 rfl (lv_at hl 4 rfl) ?_
  refine m_callVE (ci := 8) (As := [.ref (ad pp), .int (nI b)]) (rest := []) (c_X_isOpen2 l D ty L ad g pn qn nw tr fs fe pp pt vn wd b f m_0 m_3 m_4 m_5 m_pp h_0 h_3 h_4 h_5 h_pp hb6 hf4 hwd) ⟨hx, hb, hml, hown, hts⟩ (cwV 2 hts gX8_read_X8_isOpen rfl rfl rfl (by decide +kernel) ⟨Nat.le_of_ble_eq_true rfl, Nat.le_of_ble_eq_true rfl⟩) hB m_0 h_0 rfl rfl hl.1 rfl (Nat.le_of_ble_eq_true rfl) dX8_read_43 ⟨Nat.le_of_ble_eq_true rfl, Nat.le_of_ble_eq_true rfl⟩ (fun H locs hB => ?_)
  refine b_if_ne_t 52 hx hb dX8_read_46 (by decide) (by rw [hs]; decide) ?_
  refine lv_aload hx hb dX8_read_52 (lv_at hl 2 rfl) ?_
  refine lv_iload_n hx hb dX8_read_54 rfl (lv_at hl 4 rfl) ?_
  refine lv_aload hx hb dX8_read_55 (lv_at hl 1 rfl) ?_
  refine lv_aload hx hb dX8_read_57 (lv_at hl 0 rfl) ?_
  refine m_callVZ (ci := 2) (As := [.int (nI b), .ref (ad t), .ref (ad r)]) (rest := []) (c_Paper_copy l D ty L ad g pp (nI b) t ro a bl n bs bk r ra n0 bs0 fv m_t m_ro m_a m_bl m_r m_ra h_t h_ro h_a h_bl h_r h_ra hn40 hbk hfv h8 (by omega) (by omega) (by omega) (by omega) (by omega) (by omega) (by omega) (by omega) (by omega)) ⟨hx, hb, hml, hown, hts⟩ (cwV 3 hts gX8_read_X2_copyFor rfl rfl rfl (by decide +kernel) ⟨Nat.le_of_ble_eq_true rfl, Nat.le_of_ble_eq_true rfl⟩) hB m_pp h_pp rfl rfl hl.1 rfl (Nat.le_of_ble_eq_true rfl) dX8_read_59 ⟨Nat.le_of_ble_eq_true rfl, Nat.le_of_ble_eq_true rfl⟩ (fun H locs hB => ?_)
  replace hB : m_B D ty A s L ad (va_up (va_up g ra (.inl (ty 2, 80, .inl (mkF false (nI b) fv bs0 n)))) r (.inr (5, [.ref (ad ra), .int (nI (mkN false (nI b) fv n))]))) H locs := hB
  refine lv_aload_n hx hb dX8_read_62 rfl (lv_at hl 3 rfl) ?_
  refine m_get (C := RX8) (T := TX8) (N := 12) (ci := 8) hx hb hts in_X8_read_X8 hown hB m_0 ((va_up_ne _ _ (by omega)).trans ((va_up_ne _ _ (by omega)).trans h_0)) rfl 6 (by decide) (hts (.fieldLink RX8 41 "PaperRoom" "seen" "LPaperRoom$Seen;") (by decide +kernel)) (fun _ h9 => h9) rfl dX8_read_63 ?_
  refine lv_aload_n hx hb dX8_read_66 rfl (lv_at hl 3 rfl) ?_
  refine m_get (C := RX8) (T := TX8) (N := 12) (ci := 8) hx hb hts in_X8_read_X8 hown hB m_0 ((va_up_ne _ _ (by omega)).trans ((va_up_ne _ _ (by omega)).trans h_0)) rfl 10 (by decide) (hts (.fieldLink RX8 122 "PaperRoom" "now" "I") (by decide +kernel)) (fun _ h9 => h9) rfl dX8_read_67 ?_
  refine lv_iload_n hx hb dX8_read_70 rfl (lv_at hl 4 rfl) ?_
  refine lv_iload_n hx hb dX8_read_71 rfl (lv_at hl 5 rfl) ?_
  refine lv_iload_n hx hb dX8_read_72 rfl (lv_at hl 6 rfl) ?_
  refine m_callVZ (ci := 6) (As := [.int nw, .int (nI b), .int (nI k), .int (nI w)]) (rest := []) (c_Seen_note_1 l D ty L ad _ 22 23 24 25 26 27 en lo f0 f1 f2 f3 f4 nw (nI b) (nI k) (nI w) m_22 m_23 m_24 m_25 m_26 m_27 ((va_up_ne _ _ (by omega)).trans ((va_up_ne _ _ (by omega)).trans h_22)) ((va_up_ne _ _ (by omega)).trans ((va_up_ne _ _ (by omega)).trans h_23)) ((va_up_ne _ _ (by omega)).trans ((va_up_ne _ _ (by omega)).trans h_24)) ((va_up_ne _ _ (by omega)).trans ((va_up_ne _ _ (by omega)).trans h_25)) ((va_up_ne _ _ (by omega)).trans ((va_up_ne _ _ (by omega)).trans h_26)) ((va_up_ne _ _ (by omega)).trans ((va_up_ne _ _ (by omega)).trans h_27)) he0 hen (by decide) (by decide) (by decide) (by decide) (by decide) (by decide) (by decide) (by decide) (by decide) (by decide) (by decide) (by decide) (by decide) (by decide) (by decide)) ⟨hx, hb, hml, hown, hts⟩ (cwV 4 hts gX8_read_X6_note rfl rfl rfl (by decide +kernel) ⟨Nat.le_of_ble_eq_true rfl, Nat.le_of_ble_eq_true rfl⟩) hB m_22 ((va_up_ne _ _ (by omega)).trans ((va_up_ne _ _ (by omega)).trans h_22)) rfl rfl hl.1 rfl (Nat.le_of_ble_eq_true rfl) dX8_read_73 ⟨Nat.le_of_ble_eq_true rfl, Nat.le_of_ble_eq_true rfl⟩ (fun H locs hB => ?_)
  replace hB : m_B D ty A s L ad (va_up (va_up (va_up (va_up (va_up (va_up (va_up (va_up g ra (.inl (ty 2, 80, .inl (mkF false (nI b) fv bs0 n)))) r (.inr (5, [.ref (ad ra), .int (nI (mkN false (nI b) fv n))]))) 23 (.inl (ty 0, 200, .inl (upd f0 en nw)))) 24 (.inl (ty 0, 200, .inl (upd f1 en (nI b))))) 25 (.inl (ty 0, 200, .inl (upd f2 en (nI k))))) 26 (.inl (ty 0, 200, .inl (upd f3 en (nI w))))) 27 (.inl (ty 1, 200, .inr (.inl (vp_updL f4 en (lk (f4 (en - 1)) nw (nI b) (nI k) (nI w))))))) 22 (.inr (6, [.ref (ad 23), .ref (ad 24), .ref (ad 25), .ref (ad 26), .ref (ad 27), .int (nI (en + 1)), .int lo]))) H locs := hB
  refine lv_aload hx hb dX8_read_76 (lv_at hl 0 rfl) ?_
  refine m_callVE (ci := 5) (As := []) (rest := []) (c_Row_length l D ty L ad _ r ra (mkN false (nI b) fv n) m_r ((va_up_ne _ _ (by omega)).trans ((va_up_ne _ _ (by omega)).trans ((va_up_ne _ _ (by omega)).trans ((va_up_ne _ _ (by omega)).trans ((va_up_ne _ _ (by omega)).trans ((va_up_ne _ _ (by omega)).trans (va_up_self _ _ _)))))))) ⟨hx, hb, hml, hown, hts⟩ (cwV 0 hts gX8_read_X5_length rfl rfl rfl (by decide +kernel) ⟨Nat.le_of_ble_eq_true rfl, Nat.le_of_ble_eq_true rfl⟩) hB m_r ((va_up_ne _ _ (by omega)).trans ((va_up_ne _ _ (by omega)).trans ((va_up_ne _ _ (by omega)).trans ((va_up_ne _ _ (by omega)).trans ((va_up_ne _ _ (by omega)).trans ((va_up_ne _ _ (by omega)).trans (va_up_self _ _ _))))))) rfl rfl hl.1 rfl (Nat.le_of_ble_eq_true rfl) dX8_read_78 ⟨Nat.le_of_ble_eq_true rfl, Nat.le_of_ble_eq_true rfl⟩ (fun H locs hB => ?_)
  exact m_iret hx hb hrt hlocks hB (Nat.le_refl _) (Nat.le_refl _) dX8_read_81 ⟨rfl, rfl, rfl, rfl⟩
