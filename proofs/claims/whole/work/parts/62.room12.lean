set_option maxHeartbeats 1000000 in
set_option maxRecDepth 100000 in
theorem c_X_named_none (l : Launch) (D : va_G) (ty : Nat → ClassId) (L : List Nat) (ad : Nat → Nat) (g : Nat → va_E) (pn qn : Nat) (nw : Int32) (tr : Int64) (pf : Nat → Option Nat) (k : Nat) (v : Int32) (m_0 : 0 ∈ L) (m_6 : 6 ∈ L) (h_0 : g 0 = .inr (8, [.ref (ad 1), .ref (ad 3), .ref (ad 6), .int (nI pn), .ref (ad 7), .ref (ad 20), .ref (ad 22), .ref (ad 28), .int (nI qn), .ref (ad 29), .int nw, .long tr])) (h_6 : g 6 = .inl (ty 4, 8, .inr (.inr (.inr (.inr pf))))) (hk : k < 8) (hpp : pf k = none) : m_E l yX8_named wsX8_named 4 89 D ty [.ref (ad 0), .int (nI k), .int v] L ad g (some (.int (-1))) g := by
  intro sz
  refine Met.ofW (cc := cX8_named) (maxL := 7) (ret := (some .int)) (by decide) rfl ?_
  intro p e s m args below meth c s₁ B hml hv
  have hx := B.exec
  have hb := B.bytes
  have hrt := B.returns
  have hts := atoms_spec (ws := wsX8_named) B.pre
  have hown : s.vm.findClass RX8 = some m.cls := findClass_of_methodNamed B.named
  have hlocks := B.notSynchronized
  obtain ⟨rfl, hB⟩ := m_start hv
  generalize va_A (m_w L ad g) sz = A at hB ⊢
  generalize s.heap = H at hB ⊢
  generalize ([] : List Loc) = locs at hB ⊢
  have hl := lv_entry ([.ref (ad 0), .int (nI k), .int v]) (n := 7) (Nat.le_of_ble_eq_true rfl)
  rw [lg_entry_eq]
  generalize (lg_sl ([.ref (ad 0), .int (nI k), .int v]) ++ List.replicate (7 - (lg_sl ([.ref (ad 0), .int (nI k), .int v])).length) Slot.unset).toArray = ls at hl ⊢
  have hl : lv_has ls 7 [(0, .ref (ad 0)), (1, .int (nI k)), (2, .int v)] := hl
  refine lv_aload_n hx hb dX8_named_0 rfl (lv_at hl 0 rfl) ?_
  refine lv_iload_n hx hb dX8_named_1 rfl (lv_at hl 1 rfl) ?_
  refine m_callVE (ci := 8) (As := [.int (nI k)]) (rest := []) ((by have h9 := c_X_paperNumber_t l D ty L ad g pn qn nw tr pf k m_0 m_6 h_0 h_6 hk; rw [hpp] at h9; exact h9 : m_E l yX8_paperNumber wsX8_paperNumber 1 21 D ty [.ref (ad 0), .int (nI k)] L ad g (some .null) g)) ⟨hx, hb, hml, hown, hts⟩ (cwV 1 hts gX8_named_X8_paperNumber rfl rfl rfl (by decide +kernel) ⟨Nat.le_of_ble_eq_true rfl, Nat.le_of_ble_eq_true rfl⟩) hB m_0 h_0 rfl rfl hl.1 rfl (Nat.le_of_ble_eq_true rfl) dX8_named_2 ⟨Nat.le_of_ble_eq_true rfl, Nat.le_of_ble_eq_true rfl⟩ (fun H locs hB => ?_)
  refine lv_astore_nN (lv' := [(3, .null), (0, .ref (ad 0)), (1, .int (nI k)), (2, .int v)]) hx hb dX8_named_5 rfl hl (by decide) rfl (fun ls hl => ?_)
  refine lv_aload_nN hx hb dX8_named_6 rfl (lv_at hl 0 rfl) ?_
  refine lv_iload_n hx hb dX8_named_7 rfl (lv_at hl 3 rfl) ?_
  refine m_callSE (As := [.null, .int v]) (rest := []) (c_X_textOf_n l D ty L ad g _) ⟨hx, hb, hml, hown, hts⟩ (va_cwS 2 hts gX8_named_X8_textOf rfl rfl rfl (by decide +kernel) ⟨Nat.le_of_ble_eq_true rfl, Nat.le_of_ble_eq_true rfl⟩) hB rfl hl.1 rfl (Nat.le_of_ble_eq_true rfl) dX8_named_8 ⟨Nat.le_of_ble_eq_true rfl, Nat.le_of_ble_eq_true rfl⟩ (fun H locs hB => ?_)
  refine lv_astoreN (lv' := [(4, .null), (3, .null), (0, .ref (ad 0)), (1, .int (nI k)), (2, .int v)]) hx hb dX8_named_11 hl (by decide) rfl (fun ls hl => ?_)
  refine lv_aload_nN hx hb dX8_named_13 rfl (lv_at hl 1 rfl) ?_
  refine lv_ifnullN (tgt := 30) hx hb dX8_named_14 (by decide) ?_
  refine lv_iconst (v := (-1)) hx hb dX8_named_30 (by decide) ?_
  exact m_iret hx hb hrt hlocks hB (Nat.le_refl _) (Nat.le_refl _) dX8_named_31 ⟨rfl, rfl, rfl, rfl⟩
set_option maxHeartbeats 1000000 in
set_option maxRecDepth 100000 in
theorem c_X_named_bad (l : Launch) (D : va_G) (ty : Nat → ClassId) (L : List Nat) (ad : Nat → Nat) (g : Nat → va_E) (pn qn : Nat) (nw : Int32) (tr : Int64) (pf : Nat → Option Nat) (i v : Int32) (m_0 : 0 ∈ L) (m_6 : 6 ∈ L) (h_0 : g 0 = .inr (8, [.ref (ad 1), .ref (ad 3), .ref (ad 6), .int (nI pn), .ref (ad 7), .ref (ad 20), .ref (ad 22), .ref (ad 28), .int (nI qn), .ref (ad 29), .int nw, .long tr])) (h_6 : g 6 = .inl (ty 4, 8, .inr (.inr (.inr (.inr pf))))) (hi : ¬ (0 ≤ i.toInt ∧ i.toInt < 8)) : m_E l yX8_named wsX8_named 4 89 D ty [.ref (ad 0), .int i, .int v] L ad g (some (.int (-1))) g := by
  intro sz
  refine Met.ofW (cc := cX8_named) (maxL := 7) (ret := (some .int)) (by decide) rfl ?_
  intro p e s m args below meth c s₁ B hml hv
  have hx := B.exec
  have hb := B.bytes
  have hrt := B.returns
  have hts := atoms_spec (ws := wsX8_named) B.pre
  have hown : s.vm.findClass RX8 = some m.cls := findClass_of_methodNamed B.named
  have hlocks := B.notSynchronized
  obtain ⟨rfl, hB⟩ := m_start hv
  generalize va_A (m_w L ad g) sz = A at hB ⊢
  generalize s.heap = H at hB ⊢
  generalize ([] : List Loc) = locs at hB ⊢
  have hl := lv_entry ([.ref (ad 0), .int i, .int v]) (n := 7) (Nat.le_of_ble_eq_true rfl)
  rw [lg_entry_eq]
  generalize (lg_sl ([.ref (ad 0), .int i, .int v]) ++ List.replicate (7 - (lg_sl ([.ref (ad 0), .int i, .int v])).length) Slot.unset).toArray = ls at hl ⊢
  have hl : lv_has ls 7 [(0, .ref (ad 0)), (1, .int i), (2, .int v)] := hl
  refine lv_aload_n hx hb dX8_named_0 rfl (lv_at hl 0 rfl) ?_
  refine lv_iload_n hx hb dX8_named_1 rfl (lv_at hl 1 rfl) ?_
  refine m_callVE (ci := 8) (As := [.int i]) (rest := []) (c_X_paperNumber_f l D ty L ad g pn qn nw tr pf i m_0 m_6 h_0 h_6 hi) ⟨hx, hb, hml, hown, hts⟩ (cwV 1 hts gX8_named_X8_paperNumber rfl rfl rfl (by decide +kernel) ⟨Nat.le_of_ble_eq_true rfl, Nat.le_of_ble_eq_true rfl⟩) hB m_0 h_0 rfl rfl hl.1 rfl (Nat.le_of_ble_eq_true rfl) dX8_named_2 ⟨Nat.le_of_ble_eq_true rfl, Nat.le_of_ble_eq_true rfl⟩ (fun H locs hB => ?_)
  refine lv_astore_nN (lv' := [(3, .null), (0, .ref (ad 0)), (1, .int i), (2, .int v)]) hx hb dX8_named_5 rfl hl (by decide) rfl (fun ls hl => ?_)
  refine lv_aload_nN hx hb dX8_named_6 rfl (lv_at hl 0 rfl) ?_
  refine lv_iload_n hx hb dX8_named_7 rfl (lv_at hl 3 rfl) ?_
  refine m_callSE (As := [.null, .int v]) (rest := []) (c_X_textOf_n l D ty L ad g _) ⟨hx, hb, hml, hown, hts⟩ (va_cwS 2 hts gX8_named_X8_textOf rfl rfl rfl (by decide +kernel) ⟨Nat.le_of_ble_eq_true rfl, Nat.le_of_ble_eq_true rfl⟩) hB rfl hl.1 rfl (Nat.le_of_ble_eq_true rfl) dX8_named_8 ⟨Nat.le_of_ble_eq_true rfl, Nat.le_of_ble_eq_true rfl⟩ (fun H locs hB => ?_)
  refine lv_astoreN (lv' := [(4, .null), (3, .null), (0, .ref (ad 0)), (1, .int i), (2, .int v)]) hx hb dX8_named_11 hl (by decide) rfl (fun ls hl => ?_)
  refine lv_aload_nN hx hb dX8_named_13 rfl (lv_at hl 1 rfl) ?_
  refine lv_ifnullN (tgt := 30) hx hb dX8_named_14 (by decide) ?_
  refine lv_iconst (v := (-1)) hx hb dX8_named_30 (by decide) ?_
  exact m_iret hx hb hrt hlocks hB (Nat.le_refl _) (Nat.le_refl _) dX8_named_31 ⟨rfl, rfl, rfl, rfl⟩
set_option maxHeartbeats 1000000 in
set_option maxRecDepth 100000 in
theorem c_X_named0_n (l : Launch) (D : va_G) (ty : Nat → ClassId) (L : List Nat) (ad : Nat → Nat) (g : Nat → va_E) (pn qn : Nat) (nw : Int32) (tr : Int64) (pf : Nat → Option Nat) (pp pt vn : Nat) (fo wd : Int32) (lg : Int32) (tf : Nat → Option Nat) (k : Nat) (w : Nat) (m_0 : 0 ∈ L) (m_6 : 6 ∈ L) (m_pp : pp ∈ L) (m_pt : pt ∈ L) (h_0 : g 0 = .inr (8, [.ref (ad 1), .ref (ad 3), .ref (ad 6), .int (nI pn), .ref (ad 7), .ref (ad 20), .ref (ad 22), .ref (ad 28), .int (nI qn), .ref (ad 29), .int nw, .long tr])) (h_6 : g 6 = .inl (ty 4, 8, .inr (.inr (.inr (.inr pf))))) (h_pp : g pp = .inr (0, [.int fo, .ref (ad pt), .int (nI vn), .int wd, .int lg])) (h_pt : g pt = .inl (ty 7, 4, .inr (.inr (.inr (.inr tf))))) (hk : k < 8) (hpp : pf k = some (ad pp)) (hw4 : w < 4) (htf : tf w = none) : m_E l yX8_named wsX8_named 4 89 D ty [.ref (ad 0), .int (nI k), .int (nI w)] L ad g (some (.int (-1))) g := by
  intro sz
  refine Met.ofW (cc := cX8_named) (maxL := 7) (ret := (some .int)) (by decide) rfl ?_
  intro p e s m args below meth c s₁ B hml hv
  have hx := B.exec
  have hb := B.bytes
  have hrt := B.returns
  have hts := atoms_spec (ws := wsX8_named) B.pre
  have hown : s.vm.findClass RX8 = some m.cls := findClass_of_methodNamed B.named
  have hlocks := B.notSynchronized
  obtain ⟨rfl, hB⟩ := m_start hv
  generalize va_A (m_w L ad g) sz = A at hB ⊢
  generalize s.heap = H at hB ⊢
  generalize ([] : List Loc) = locs at hB ⊢
  have hl := lv_entry ([.ref (ad 0), .int (nI k), .int (nI w)]) (n := 7) (Nat.le_of_ble_eq_true rfl)
  rw [lg_entry_eq]
  generalize (lg_sl ([.ref (ad 0), .int (nI k), .int (nI w)]) ++ List.replicate (7 - (lg_sl ([.ref (ad 0), .int (nI k), .int (nI w)])).length) Slot.unset).toArray = ls at hl ⊢
  have hl : lv_has ls 7 [(0, .ref (ad 0)), (1, .int (nI k)), (2, .int (nI w))] := hl
  refine lv_aload_n hx hb dX8_named_0 rfl (lv_at hl 0 rfl) ?_
  refine lv_iload_n hx hb dX8_named_1 rfl (lv_at hl 1 rfl) ?_
  refine m_callVE (ci := 8) (As := [.int (nI k)]) (rest := []) ((by have h9 := c_X_paperNumber_t l D ty L ad g pn qn nw tr pf k m_0 m_6 h_0 h_6 hk; rw [hpp] at h9; exact h9 : m_E l yX8_paperNumber wsX8_paperNumber 1 21 D ty [.ref (ad 0), .int (nI k)] L ad g (some (.ref (ad pp))) g)) ⟨hx, hb, hml, hown, hts⟩ (cwV 1 hts gX8_named_X8_paperNumber rfl rfl rfl (by decide +kernel) ⟨Nat.le_of_ble_eq_true rfl, Nat.le_of_ble_eq_true rfl⟩) hB m_0 h_0 rfl rfl hl.1 rfl (Nat.le_of_ble_eq_true rfl) dX8_named_2 ⟨Nat.le_of_ble_eq_true rfl, Nat.le_of_ble_eq_true rfl⟩ (fun H locs hB => ?_)
  refine lv_astore_n (lv' := [(3, .ref (ad pp)), (0, .ref (ad 0)), (1, .int (nI k)), (2, .int (nI w))]) hx hb dX8_named_5 rfl hl (by decide) rfl (fun ls hl => ?_)
  refine lv_aload_n hx hb dX8_named_6 rfl (lv_at hl 0 rfl) ?_
  refine lv_iload_n hx hb dX8_named_7 rfl (lv_at hl 3 rfl) ?_
  refine m_callSE (As := [.ref (ad pp), .int (nI w)]) (rest := []) ((by have h9 := c_X_textOf0_t l D ty L ad g pp pt vn fo wd lg tf w m_pp m_pt h_pp h_pt hw4; rw [htf] at h9; exact h9 : m_E l yX8_textOf wsX8_textOf 2 42 D ty [.ref (ad pp), .int (nI w)] L ad g (some .null) g)) ⟨hx, hb, hml, hown, hts⟩ (va_cwS 2 hts gX8_named_X8_textOf rfl rfl rfl (by decide +kernel) ⟨Nat.le_of_ble_eq_true rfl, Nat.le_of_ble_eq_true rfl⟩) hB rfl hl.1 rfl (Nat.le_of_ble_eq_true rfl) dX8_named_8 ⟨Nat.le_of_ble_eq_true rfl, Nat.le_of_ble_eq_true rfl⟩ (fun H locs hB => ?_)
  refine lv_astoreN (lv' := [(4, .null), (3, .ref (ad pp)), (0, .ref (ad 0)), (1, .int (nI k)), (2, .int (nI w))]) hx hb dX8_named_11 hl (by decide) rfl (fun ls hl => ?_)
  refine lv_aload_n hx hb dX8_named_13 rfl (lv_at hl 1 rfl) ?_
  refine lv_ifnull hx hb dX8_named_14 ?_
  refine lv_aloadN hx hb dX8_named_17 (lv_at hl 0 rfl) ?_
  refine lv_ifnullN (tgt := 30) hx hb dX8_named_19 (by decide) ?_
  refine lv_iconst (v := (-1)) hx hb dX8_named_30 (by decide) ?_
  exact m_iret hx hb hrt hlocks hB (Nat.le_refl _) (Nat.le_refl _) dX8_named_31 ⟨rfl, rfl, rfl, rfl⟩
set_option maxHeartbeats 1000000 in
set_option maxRecDepth 100000 in
theorem c_X_named0_b (l : Launch) (D : va_G) (ty : Nat → ClassId) (L : List Nat) (ad : Nat → Nat) (g : Nat → va_E) (pn qn : Nat) (nw : Int32) (tr : Int64) (pf : Nat → Option Nat) (pp pt vn : Nat) (fo wd : Int32) (lg : Int32) (tf : Nat → Option Nat) (k : Nat) (v : Int32) (m_0 : 0 ∈ L) (m_6 : 6 ∈ L) (m_pp : pp ∈ L) (m_pt : pt ∈ L) (h_0 : g 0 = .inr (8, [.ref (ad 1), .ref (ad 3), .ref (ad 6), .int (nI pn), .ref (ad 7), .ref (ad 20), .ref (ad 22), .ref (ad 28), .int (nI qn), .ref (ad 29), .int nw, .long tr])) (h_6 : g 6 = .inl (ty 4, 8, .inr (.inr (.inr (.inr pf))))) (h_pp : g pp = .inr (0, [.int fo, .ref (ad pt), .int (nI vn), .int wd, .int lg])) (h_pt : g pt = .inl (ty 7, 4, .inr (.inr (.inr (.inr tf))))) (hk : k < 8) (hpp : pf k = some (ad pp)) (hv4 : ¬ (0 ≤ v.toInt ∧ v.toInt < 4)) : m_E l yX8_named wsX8_named 4 89 D ty [.ref (ad 0), .int (nI k), .int v] L ad g (some (.int (-1))) g := by
  intro sz
  refine Met.ofW (cc := cX8_named) (maxL := 7) (ret := (some .int)) (by decide) rfl ?_
  intro p e s m args below meth c s₁ B hml hv
  have hx := B.exec
  have hb := B.bytes
  have hrt := B.returns
  have hts := atoms_spec (ws := wsX8_named) B.pre
  have hown : s.vm.findClass RX8 = some m.cls := findClass_of_methodNamed B.named
  have hlocks := B.notSynchronized
  obtain ⟨rfl, hB⟩ := m_start hv
  generalize va_A (m_w L ad g) sz = A at hB ⊢
  generalize s.heap = H at hB ⊢
  generalize ([] : List Loc) = locs at hB ⊢
  have hl := lv_entry ([.ref (ad 0), .int (nI k), .int v]) (n := 7) (Nat.le_of_ble_eq_true rfl)
  rw [lg_entry_eq]
  generalize (lg_sl ([.ref (ad 0), .int (nI k), .int v]) ++ List.replicate (7 - (lg_sl ([.ref (ad 0), .int (nI k), .int v])).length) Slot.unset).toArray = ls at hl ⊢
  have hl : lv_has ls 7 [(0, .ref (ad 0)), (1, .int (nI k)), (2, .int v)] := hl
  refine lv_aload_n hx hb dX8_named_0 rfl (lv_at hl 0 rfl) ?_
  refine lv_iload_n hx hb dX8_named_1 rfl (lv_at hl 1 rfl) ?_
  refine m_callVE (ci := 8) (As := [.int (nI k)]) (rest := []) ((by have h9 := c_X_paperNumber_t l D ty L ad g pn qn nw tr pf k m_0 m_6 h_0 h_6 hk; rw [hpp] at h9; exact h9 : m_E l yX8_paperNumber wsX8_paperNumber 1 21 D ty [.ref (ad 0), .int (nI k)] L ad g (some (.ref (ad pp))) g)) ⟨hx, hb, hml, hown, hts⟩ (cwV 1 hts gX8_named_X8_paperNumber rfl rfl rfl (by decide +kernel) ⟨Nat.le_of_ble_eq_true rfl, Nat.le_of_ble_eq_true rfl⟩) hB m_0 h_0 rfl rfl hl.1 rfl (Nat.le_of_ble_eq_true rfl) dX8_named_2 ⟨Nat.le_of_ble_eq_true rfl, Nat.le_of_ble_eq_true rfl⟩ (fun H locs hB => ?_)
  refine lv_astore_n (lv' := [(3, .ref (ad pp)), (0, .ref (ad 0)), (1, .int (nI k)), (2, .int v)]) hx hb dX8_named_5 rfl hl (by decide) rfl (fun ls hl => ?_)
  refine lv_aload_n hx hb dX8_named_6 rfl (lv_at hl 0 rfl) ?_
  refine lv_iload_n hx hb dX8_named_7 rfl (lv_at hl 3 rfl) ?_
  refine m_callSE (As := [.ref (ad pp), .int v]) (rest := []) (c_X_textOf0_f l D ty L ad g pp pt vn fo wd lg tf v m_pp m_pt h_pp h_pt (by rw [show (nI 4).toInt = 4 by decide]; exact hv4)) ⟨hx, hb, hml, hown, hts⟩ (va_cwS 2 hts gX8_named_X8_textOf rfl rfl rfl (by decide +kernel) ⟨Nat.le_of_ble_eq_true rfl, Nat.le_of_ble_eq_true rfl⟩) hB rfl hl.1 rfl (Nat.le_of_ble_eq_true rfl) dX8_named_8 ⟨Nat.le_of_ble_eq_true rfl, Nat.le_of_ble_eq_true rfl⟩ (fun H locs hB => ?_)
  refine lv_astoreN (lv' := [(4, .null), (3, .ref (ad pp)), (0, .ref (ad 0)), (1, .int (nI k)), (2, .int v)]) hx hb dX8_named_11 hl (by decide) rfl (fun ls hl => ?_)
  refine lv_aload_n hx hb dX8_named_13 rfl (lv_at hl 1 rfl) ?_
  refine lv_ifnull hx hb dX8_named_14 ?_
  refine lv_aloadN hx hb dX8_named_17 (lv_at hl 0 rfl) ?_
  refine lv_ifnullN (tgt := 30) hx hb dX8_named_19 (by decide) ?_
  refine lv_iconst (v := (-1)) hx hb dX8_named_30 (by decide) ?_
  exact m_iret hx hb hrt hlocks hB (Nat.le_refl _) (Nat.le_refl _) dX8_named_31 ⟨rfl, rfl, rfl, rfl⟩
set_option maxRecDepth 20000 in
theorem oc_X8_named_X2_kind : Cond.code yX2_kind cX2_kind 1 (some .int) ∈ wsX8_named := List.mem_of_getElem? (i := 32) rfl
set_option maxHeartbeats 1000000 in
set_option maxRecDepth 100000 in
theorem c_X_named0_k (l : Launch) (D : va_G) (ty : Nat → ClassId) (L : List Nat) (ad : Nat → Nat) (g : Nat → va_E) (pn qn : Nat) (nw : Int32) (tr : Int64) (pf : Nat → Option Nat) (pp pt vn : Nat) (fo wd : Int32) (lg : Int32) (tf : Nat → Option Nat) (k : Nat) (w t : Nat) (m_0 : 0 ∈ L) (m_6 : 6 ∈ L) (m_pp : pp ∈ L) (m_pt : pt ∈ L) (h_0 : g 0 = .inr (8, [.ref (ad 1), .ref (ad 3), .ref (ad 6), .int (nI pn), .ref (ad 7), .ref (ad 20), .ref (ad 22), .ref (ad 28), .int (nI qn), .ref (ad 29), .int nw, .long tr])) (h_6 : g 6 = .inl (ty 4, 8, .inr (.inr (.inr (.inr pf))))) (h_pp : g pp = .inr (0, [.int fo, .ref (ad pt), .int (nI vn), .int wd, .int lg])) (h_pt : g pt = .inl (ty 7, 4, .inr (.inr (.inr (.inr tf))))) (hk : k < 8) (hpp : pf k = some (ad pp)) (hw4 : w < 4) (htf : tf w = some (ad t)) : m_E l yX8_named wsX8_named 4 89 D ty [.ref (ad 0), .int (nI k), .int (nI w)] L ad g (some (.int (-1))) g := by
  intro sz
  refine Met.ofW (cc := cX8_named) (maxL := 7) (ret := (some .int)) (by decide) rfl ?_
  intro p e s m args below meth c s₁ B hml hv
  have hx := B.exec
  have hb := B.bytes
  have hrt := B.returns
  have hts := atoms_spec (ws := wsX8_named) B.pre
  have hown : s.vm.findClass RX8 = some m.cls := findClass_of_methodNamed B.named
  have hlocks := B.notSynchronized
  obtain ⟨rfl, hB⟩ := m_start hv
  generalize va_A (m_w L ad g) sz = A at hB ⊢
  generalize s.heap = H at hB ⊢
  generalize ([] : List Loc) = locs at hB ⊢
  have hl := lv_entry ([.ref (ad 0), .int (nI k), .int (nI w)]) (n := 7) (Nat.le_of_ble_eq_true rfl)
  rw [lg_entry_eq]
  generalize (lg_sl ([.ref (ad 0), .int (nI k), .int (nI w)]) ++ List.replicate (7 - (lg_sl ([.ref (ad 0), .int (nI k), .int (nI w)])).length) Slot.unset).toArray = ls at hl ⊢
  have hl : lv_has ls 7 [(0, .ref (ad 0)), (1, .int (nI k)), (2, .int (nI w))] := hl
  refine lv_aload_n hx hb dX8_named_0 rfl (lv_at hl 0 rfl) ?_
  refine lv_iload_n hx hb dX8_named_1 rfl (lv_at hl 1 rfl) ?_
  refine m_callVE (ci := 8) (As := [.int (nI k)]) (rest := []) ((by have h9 := c_X_paperNumber_t l D ty L ad g pn qn nw tr pf k m_0 m_6 h_0 h_6 hk; rw [hpp] at h9; exact h9 : m_E l yX8_paperNumber wsX8_paperNumber 1 21 D ty [.ref (ad 0), .int (nI k)] L ad g (some (.ref (ad pp))) g)) ⟨hx, hb, hml, hown, hts⟩ (cwV 1 hts gX8_named_X8_paperNumber rfl rfl rfl (by decide +kernel) ⟨Nat.le_of_ble_eq_true rfl, Nat.le_of_ble_eq_true rfl⟩) hB m_0 h_0 rfl rfl hl.1 rfl (Nat.le_of_ble_eq_true rfl) dX8_named_2 ⟨Nat.le_of_ble_eq_true rfl, Nat.le_of_ble_eq_true rfl⟩ (fun H locs hB => ?_)
  refine lv_astore_n (lv' := [(3, .ref (ad pp)), (0, .ref (ad 0)), (1, .int (nI k)), (2, .int (nI w))]) hx hb dX8_named_5 rfl hl (by decide) rfl (fun ls hl => ?_)
  refine lv_aload_n hx hb dX8_named_6 rfl (lv_at hl 0 rfl) ?_
  refine lv_iload_n hx hb dX8_named_7 rfl (lv_at hl 3 rfl) ?_
  refine m_callSE (As := [.ref (ad pp), .int (nI w)]) (rest := []) ((by have h9 := c_X_textOf0_t l D ty L ad g pp pt vn fo wd lg tf w m_pp m_pt h_pp h_pt hw4; rw [htf] at h9; exact h9 : m_E l yX8_textOf wsX8_textOf 2 42 D ty [.ref (ad pp), .int (nI w)] L ad g (some (.ref (ad t))) g)) ⟨hx, hb, hml, hown, hts⟩ (va_cwS 2 hts gX8_named_X8_textOf rfl rfl rfl (by decide +kernel) ⟨Nat.le_of_ble_eq_true rfl, Nat.le_of_ble_eq_true rfl⟩) hB rfl hl.1 rfl (Nat.le_of_ble_eq_true rfl) dX8_named_8 ⟨Nat.le_of_ble_eq_true rfl, Nat.le_of_ble_eq_true rfl⟩ (fun H locs hB => ?_)
  refine lv_astore (lv' := [(4, .ref (ad t)), (3, .ref (ad pp)), (0, .ref (ad 0)), (1, .int (nI k)), (2, .int (nI w))]) hx hb dX8_named_11 hl (by decide) rfl (fun ls hl => ?_)
  refine lv_aload_n hx hb dX8_named_13 rfl (lv_at hl 1 rfl) ?_
  refine lv_ifnull hx hb dX8_named_14 ?_
  refine lv_aload hx hb dX8_named_17 (lv_at hl 0 rfl) ?_
  refine lv_ifnull hx hb dX8_named_19 ?_
  refine lv_aload_n hx hb dX8_named_22 rfl (lv_at hl 1 rfl) ?_
  refine m_callUE (ci := 0) (As := []) (rest := []) (c_Held_kind l D ty L ad g pp pt vn fo wd lg m_pp h_pp) ⟨hx, hb, hml, hown, hts⟩ (va_cwO 0 hts gX8_named_X0_kind_u131X0 rfl rfl rfl oc_X8_named_X2_kind (by decide +kernel) ⟨Nat.le_of_ble_eq_true rfl, Nat.le_of_ble_eq_true rfl⟩) hB m_pp h_pp rfl rfl hl.1 rfl (Nat.le_of_ble_eq_true rfl) dX8_named_23 ⟨Nat.le_of_ble_eq_true rfl, Nat.le_of_ble_eq_true rfl⟩ (fun H locs hB => ?_)
  refine lv_iconst (v := 2) hx hb dX8_named_26 (by decide) ?_
  refine b_icmp_eq_f 32 hx hb dX8_named_27 (by decide) (by decide) ?_
  refine lv_iconst (v := (-1)) hx hb dX8_named_30 (by decide) ?_
  exact m_iret hx hb hrt hlocks hB (Nat.le_refl _) (Nat.le_refl _) dX8_named_31 ⟨rfl, rfl, rfl, rfl⟩
set_option maxHeartbeats 1000000 in
set_option maxRecDepth 100000 in
theorem c_X_named1_n (l : Launch) (D : va_G) (ty : Nat → ClassId) (L : List Nat) (ad : Nat → Nat) (g : Nat → va_E) (pn qn : Nat) (nw : Int32) (tr : Int64) (pf : Nat → Option Nat) (pp pt vn : Nat) (fo wd : Int32) (tf : Nat → Option Nat) (k : Nat) (w : Nat) (m_0 : 0 ∈ L) (m_6 : 6 ∈ L) (m_pp : pp ∈ L) (m_pt : pt ∈ L) (h_0 : g 0 = .inr (8, [.ref (ad 1), .ref (ad 3), .ref (ad 6), .int (nI pn), .ref (ad 7), .ref (ad 20), .ref (ad 22), .ref (ad 28), .int (nI qn), .ref (ad 29), .int nw, .long tr])) (h_6 : g 6 = .inl (ty 4, 8, .inr (.inr (.inr (.inr pf))))) (h_pp : g pp = .inr (1, [.int fo, .ref (ad pt), .int (nI vn), .int wd])) (h_pt : g pt = .inl (ty 7, 4, .inr (.inr (.inr (.inr tf))))) (hk : k < 8) (hpp : pf k = some (ad pp)) (hw4 : w < 4) (htf : tf w = none) : m_E l yX8_named wsX8_named 4 89 D ty [.ref (ad 0), .int (nI k), .int (nI w)] L ad g (some (.int (-1))) g := by
  intro sz
  refine Met.ofW (cc := cX8_named) (maxL := 7) (ret := (some .int)) (by decide) rfl ?_
  intro p e s m args below meth c s₁ B hml hv
  have hx := B.exec
  have hb := B.bytes
  have hrt := B.returns
  have hts := atoms_spec (ws := wsX8_named) B.pre
  have hown : s.vm.findClass RX8 = some m.cls := findClass_of_methodNamed B.named
  have hlocks := B.notSynchronized
  obtain ⟨rfl, hB⟩ := m_start hv
  generalize va_A (m_w L ad g) sz = A at hB ⊢
  generalize s.heap = H at hB ⊢
  generalize ([] : List Loc) = locs at hB ⊢
  have hl := lv_entry ([.ref (ad 0), .int (nI k), .int (nI w)]) (n := 7) (Nat.le_of_ble_eq_true rfl)
  rw [lg_entry_eq]
  generalize (lg_sl ([.ref (ad 0), .int (nI k), .int (nI w)]) ++ List.replicate (7 - (lg_sl ([.ref (ad 0), .int (nI k), .int (nI w)])).length) Slot.unset).toArray = ls at hl ⊢
  have hl : lv_has ls 7 [(0, .ref (ad 0)), (1, .int (nI k)), (2, .int (nI w))] := hl
  refine lv_aload_n hx hb dX8_named_0 rfl (lv_at hl 0 rfl) ?_
  refine lv_iload_n hx hb dX8_named_1 rfl (lv_at hl 1 rfl) ?_
  refine m_callVE (ci := 8) (As := [.int (nI k)]) (rest := []) ((by have h9 := c_X_paperNumber_t l D ty L ad g pn qn nw tr pf k m_0 m_6 h_0 h_6 hk; rw [hpp] at h9; exact h9 : m_E l yX8_paperNumber wsX8_paperNumber 1 21 D ty [.ref (ad 0), .int (nI k)] L ad g (some (.ref (ad pp))) g)) ⟨hx, hb, hml, hown, hts⟩ (cwV 1 hts gX8_named_X8_paperNumber rfl rfl rfl (by decide +kernel) ⟨Nat.le_of_ble_eq_true rfl, Nat.le_of_ble_eq_true rfl⟩) hB m_0 h_0 rfl rfl hl.1 rfl (Nat.le_of_ble_eq_true rfl) dX8_named_2 ⟨Nat.le_of_ble_eq_true rfl, Nat.le_of_ble_eq_true rfl⟩ (fun H locs hB => ?_)
  refine lv_astore_n (lv' := [(3, .ref (ad pp)), (0, .ref (ad 0)), (1, .int (nI k)), (2, .int (nI w))]) hx hb dX8_named_5 rfl hl (by decide) rfl (fun ls hl => ?_)
  refine lv_aload_n hx hb dX8_named_6 rfl (lv_at hl 0 rfl) ?_
  refine lv_iload_n hx hb dX8_named_7 rfl (lv_at hl 3 rfl) ?_
  refine m_callSE (As := [.ref (ad pp), .int (nI w)]) (rest := []) ((by have h9 := c_X_textOf1_t l D ty L ad g pp pt vn fo wd tf w m_pp m_pt h_pp h_pt hw4; rw [htf] at h9; exact h9 : m_E l yX8_textOf wsX8_textOf 2 42 D ty [.ref (ad pp), .int (nI w)] L ad g (some .null) g)) ⟨hx, hb, hml, hown, hts⟩ (va_cwS 2 hts gX8_named_X8_textOf rfl rfl rfl (by decide +kernel) ⟨Nat.le_of_ble_eq_true rfl, Nat.le_of_ble_eq_true rfl⟩) hB rfl hl.1 rfl (Nat.le_of_ble_eq_true rfl) dX8_named_8 ⟨Nat.le_of_ble_eq_true rfl, Nat.le_of_ble_eq_true rfl⟩ (fun H locs hB => ?_)
  refine lv_astoreN (lv' := [(4, .null), (3, .ref (ad pp)), (0, .ref (ad 0)), (1, .int (nI k)), (2, .int (nI w))]) hx hb dX8_named_11 hl (by decide) rfl (fun ls hl => ?_)
  refine lv_aload_n hx hb dX8_named_13 rfl (lv_at hl 1 rfl) ?_
  refine lv_ifnull hx hb dX8_named_14 ?_
  refine lv_aloadN hx hb dX8_named_17 (lv_at hl 0 rfl) ?_
  refine lv_ifnullN (tgt := 30) hx hb dX8_named_19 (by decide) ?_
  refine lv_iconst (v := (-1)) hx hb dX8_named_30 (by decide) ?_
  exact m_iret hx hb hrt hlocks hB (Nat.le_refl _) (Nat.le_refl _) dX8_named_31 ⟨rfl, rfl, rfl, rfl⟩
set_option maxHeartbeats 1000000 in
set_option maxRecDepth 100000 in
theorem c_X_named1_b (l : Launch) (D : va_G) (ty : Nat → ClassId) (L : List Nat) (ad : Nat → Nat) (g : Nat → va_E) (pn qn : Nat) (nw : Int32) (tr : Int64) (pf : Nat → Option Nat) (pp pt vn : Nat) (fo wd : Int32) (tf : Nat → Option Nat) (k : Nat) (v : Int32) (m_0 : 0 ∈ L) (m_6 : 6 ∈ L) (m_pp : pp ∈ L) (m_pt : pt ∈ L) (h_0 : g 0 = .inr (8, [.ref (ad 1), .ref (ad 3), .ref (ad 6), .int (nI pn), .ref (ad 7), .ref (ad 20), .ref (ad 22), .ref (ad 28), .int (nI qn), .ref (ad 29), .int nw, .long tr])) (h_6 : g 6 = .inl (ty 4, 8, .inr (.inr (.inr (.inr pf))))) (h_pp : g pp = .inr (1, [.int fo, .ref (ad pt), .int (nI vn), .int wd])) (h_pt : g pt = .inl (ty 7, 4, .inr (.inr (.inr (.inr tf))))) (hk : k < 8) (hpp : pf k = some (ad pp)) (hv4 : ¬ (0 ≤ v.toInt ∧ v.toInt < 4)) : m_E l yX8_named wsX8_named 4 89 D ty [.ref (ad 0), .int (nI k), .int v] L ad g (some (.int (-1))) g := by
  intro sz
  refine Met.ofW (cc := cX8_named) (maxL := 7) (ret := (some .int)) (by decide) rfl ?_
  intro p e s m args below meth c s₁ B hml hv
  have hx := B.exec
  have hb := B.bytes
  have hrt := B.returns
  have hts := atoms_spec (ws := wsX8_named) B.pre
  have hown : s.vm.findClass RX8 = some m.cls := findClass_of_methodNamed B.named
  have hlocks := B.notSynchronized
  obtain ⟨rfl, hB⟩ := m_start hv
  generalize va_A (m_w L ad g) sz = A at hB ⊢
  generalize s.heap = H at hB ⊢
  generalize ([] : List Loc) = locs at hB ⊢
  have hl := lv_entry ([.ref (ad 0), .int (nI k), .int v]) (n := 7) (Nat.le_of_ble_eq_true rfl)
  rw [lg_entry_eq]
  generalize (lg_sl ([.ref (ad 0), .int (nI k), .int v]) ++ List.replicate (7 - (lg_sl ([.ref (ad 0), .int (nI k), .int v])).length) Slot.unset).toArray = ls at hl ⊢
  have hl : lv_has ls 7 [(0, .ref (ad 0)), (1, .int (nI k)), (2, .int v)] := hl
  refine lv_aload_n hx hb dX8_named_0 rfl (lv_at hl 0 rfl) ?_
  refine lv_iload_n hx hb dX8_named_1 rfl (lv_at hl 1 rfl) ?_
  refine m_callVE (ci := 8) (As := [.int (nI k)]) (rest := []) ((by have h9 := c_X_paperNumber_t l D ty L ad g pn qn nw tr pf k m_0 m_6 h_0 h_6 hk; rw [hpp] at h9; exact h9 : m_E l yX8_paperNumber wsX8_paperNumber 1 21 D ty [.ref (ad 0), .int (nI k)] L ad g (some (.ref (ad pp))) g)) ⟨hx, hb, hml, hown, hts⟩ (cwV 1 hts gX8_named_X8_paperNumber rfl rfl rfl (by decide +kernel) ⟨Nat.le_of_ble_eq_true rfl, Nat.le_of_ble_eq_true rfl⟩) hB m_0 h_0 rfl rfl hl.1 rfl (Nat.le_of_ble_eq_true rfl) dX8_named_2 ⟨Nat.le_of_ble_eq_true rfl, Nat.le_of_ble_eq_true rfl⟩ (fun H locs hB => ?_)
  refine lv_astore_n (lv' := [(3, .ref (ad pp)), (0, .ref (ad 0)), (1, .int (nI k)), (2, .int v)]) hx hb dX8_named_5 rfl hl (by decide) rfl (fun ls hl => ?_)
  refine lv_aload_n hx hb dX8_named_6 rfl (lv_at hl 0 rfl) ?_
  refine lv_iload_n hx hb dX8_named_7 rfl (lv_at hl 3 rfl) ?_
  refine m_callSE (As := [.ref (ad pp), .int v]) (rest := []) (c_X_textOf1_f l D ty L ad g pp pt vn fo wd tf v m_pp m_pt h_pp h_pt (by rw [show (nI 4).toInt = 4 by decide]; exact hv4)) ⟨hx, hb, hml, hown, hts⟩ (va_cwS 2 hts gX8_named_X8_textOf rfl rfl rfl (by decide +kernel) ⟨Nat.le_of_ble_eq_true rfl, Nat.le_of_ble_eq_true rfl⟩) hB rfl hl.1 rfl (Nat.le_of_ble_eq_true rfl) dX8_named_8 ⟨Nat.le_of_ble_eq_true rfl, Nat.le_of_ble_eq_true rfl⟩ (fun H locs hB => ?_)
  refine lv_astoreN (lv' := [(4, .null), (3, .ref (ad pp)), (0, .ref (ad 0)), (1, .int (nI k)), (2, .int v)]) hx hb dX8_named_11 hl (by decide) rfl (fun ls hl => ?_)
  refine lv_aload_n hx hb dX8_named_13 rfl (lv_at hl 1 rfl) ?_
  refine lv_ifnull hx hb dX8_named_14 ?_
  refine lv_aloadN hx hb dX8_named_17 (lv_at hl 0 rfl) ?_
  refine lv_ifnullN (tgt := 30) hx hb dX8_named_19 (by decide) ?_
  refine lv_iconst (v := (-1)) hx hb dX8_named_30 (by decide) ?_
  exact m_iret hx hb hrt hlocks hB (Nat.le_refl _) (Nat.le_refl _) dX8_named_31 ⟨rfl, rfl, rfl, rfl⟩
set_option maxRecDepth 20000 in
theorem in_X8_named_X8 : ∀ w ∈ wsX80, w ∈ wsX8_named := by decide +kernel
set_option maxHeartbeats 1000000 in
set_option maxRecDepth 100000 in
theorem c_X_named1_state (l : Launch) (D : va_G) (ty : Nat → ClassId) (L : List Nat) (ad : Nat → Nat) (g : Nat → va_E) (pn qn : Nat) (nw : Int32) (tr : Int64) (pf : Nat → Option Nat) (pp pt vn : Nat) (fo wd : Int32) (tf : Nat → Option Nat) (k : Nat) (w t dn : Nat) (m_0 : 0 ∈ L) (m_6 : 6 ∈ L) (m_pp : pp ∈ L) (m_pt : pt ∈ L) (m_1 : 1 ∈ L) (h_0 : g 0 = .inr (8, [.ref (ad 1), .ref (ad 3), .ref (ad 6), .int (nI pn), .ref (ad 7), .ref (ad 20), .ref (ad 22), .ref (ad 28), .int (nI qn), .ref (ad 29), .int nw, .long tr])) (h_6 : g 6 = .inl (ty 4, 8, .inr (.inr (.inr (.inr pf))))) (h_pp : g pp = .inr (1, [.int fo, .ref (ad pt), .int (nI vn), .int wd])) (h_pt : g pt = .inl (ty 7, 4, .inr (.inr (.inr (.inr tf))))) (h_1 : g 1 = .inr (5, [.ref (ad 2), .int (nI dn)])) (hk : k < 8) (hpp : pf k = some (ad pp)) (hw4 : w < 4) (htf : tf w = some (ad t)) (hd : dn = 0) : m_E l yX8_named wsX8_named 4 89 D ty [.ref (ad 0), .int (nI k), .int (nI w)] L ad g (some (.int (-2))) g := by
  intro sz
  refine Met.ofW (cc := cX8_named) (maxL := 7) (ret := (some .int)) (by decide) rfl ?_
  intro p e s m args below meth c s₁ B hml hv
  have hx := B.exec
  have hb := B.bytes
  have hrt := B.returns
  have hts := atoms_spec (ws := wsX8_named) B.pre
  have hown : s.vm.findClass RX8 = some m.cls := findClass_of_methodNamed B.named
  have hlocks := B.notSynchronized
  obtain ⟨rfl, hB⟩ := m_start hv
  generalize va_A (m_w L ad g) sz = A at hB ⊢
  generalize s.heap = H at hB ⊢
  generalize ([] : List Loc) = locs at hB ⊢
  have hl := lv_entry ([.ref (ad 0), .int (nI k), .int (nI w)]) (n := 7) (Nat.le_of_ble_eq_true rfl)
  rw [lg_entry_eq]
  generalize (lg_sl ([.ref (ad 0), .int (nI k), .int (nI w)]) ++ List.replicate (7 - (lg_sl ([.ref (ad 0), .int (nI k), .int (nI w)])).length) Slot.unset).toArray = ls at hl ⊢
  have hl : lv_has ls 7 [(0, .ref (ad 0)), (1, .int (nI k)), (2, .int (nI w))] := hl
  refine lv_aload_n hx hb dX8_named_0 rfl (lv_at hl 0 rfl) ?_
  refine lv_iload_n hx hb dX8_named_1 rfl (lv_at hl 1 rfl) ?_
  refine m_callVE (ci := 8) (As := [.int (nI k)]) (rest := []) ((by have h9 := c_X_paperNumber_t l D ty L ad g pn qn nw tr pf k m_0 m_6 h_0 h_6 hk; rw [hpp] at h9; exact h9 : m_E l yX8_paperNumber wsX8_paperNumber 1 21 D ty [.ref (ad 0), .int (nI k)] L ad g (some (.ref (ad pp))) g)) ⟨hx, hb, hml, hown, hts⟩ (cwV 1 hts gX8_named_X8_paperNumber rfl rfl rfl (by decide +kernel) ⟨Nat.le_of_ble_eq_true rfl, Nat.le_of_ble_eq_true rfl⟩) hB m_0 h_0 rfl rfl hl.1 rfl (Nat.le_of_ble_eq_true rfl) dX8_named_2 ⟨Nat.le_of_ble_eq_true rfl, Nat.le_of_ble_eq_true rfl⟩ (fun H locs hB => ?_)
  refine lv_astore_n (lv' := [(3, .ref (ad pp)), (0, .ref (ad 0)), (1, .int (nI k)), (2, .int (nI w))]) hx hb dX8_named_5 rfl hl (by decide) rfl (fun ls hl => ?_)
  refine lv_aload_n hx hb dX8_named_6 rfl (lv_at hl 0 rfl) ?_
  refine lv_iload_n hx hb dX8_named_7 rfl (lv_at hl 3 rfl) ?_
  refine m_callSE (As := [.ref (ad pp), .int (nI w)]) (rest := []) ((by have h9 := c_X_textOf1_t l D ty L ad g pp pt vn fo wd tf w m_pp m_pt h_pp h_pt hw4; rw [htf] at h9; exact h9 : m_E l yX8_textOf wsX8_textOf 2 42 D ty [.ref (ad pp), .int (nI w)] L ad g (some (.ref (ad t))) g)) ⟨hx, hb, hml, hown, hts⟩ (va_cwS 2 hts gX8_named_X8_textOf rfl rfl rfl (by decide +kernel) ⟨Nat.le_of_ble_eq_true rfl, Nat.le_of_ble_eq_true rfl⟩) hB rfl hl.1 rfl (Nat.le_of_ble_eq_true rfl) dX8_named_8 ⟨Nat.le_of_ble_eq_true rfl, Nat.le_of_ble_eq_true rfl⟩ (fun H locs hB => ?_)
  refine lv_astore (lv' := [(4, .ref (ad t)), (3, .ref (ad pp)), (0, .ref (ad 0)), (1, .int (nI k)), (2, .int (nI w))]) hx hb dX8_named_11 hl (by decide) rfl (fun ls hl => ?_)
  refine lv_aload_n hx hb dX8_named_13 rfl (lv_at hl 1 rfl) ?_
  refine lv_ifnull hx hb dX8_named_14 ?_
  refine lv_aload hx hb dX8_named_17 (lv_at hl 0 rfl) ?_
  refine lv_ifnull hx hb dX8_named_19 ?_
  refine lv_aload_n hx hb dX8_named_22 rfl (lv_at hl 1 rfl) ?_
  refine m_callUE (ci := 1) (As := []) (rest := []) (c_Marked_kind l D ty L ad g pp pt vn fo wd m_pp h_pp) ⟨hx, hb, hml, hown, hts⟩ (va_cwO 0 hts gX8_named_X1_kind_u131X1 rfl rfl rfl oc_X8_named_X2_kind (by decide +kernel) ⟨Nat.le_of_ble_eq_true rfl, Nat.le_of_ble_eq_true rfl⟩) hB m_pp h_pp rfl rfl hl.1 rfl (Nat.le_of_ble_eq_true rfl) dX8_named_23 ⟨Nat.le_of_ble_eq_true rfl, Nat.le_of_ble_eq_true rfl⟩ (fun H locs hB => ?_)
  refine lv_iconst (v := 2) hx hb dX8_named_26 (by decide) ?_
  refine b_icmp_eq_t 32 hx hb dX8_named_27 (by decide) (by decide) ?_
  refine lv_aload_n hx hb dX8_named_32 rfl (lv_at hl 2 rfl) ?_
  refine m_get (C := RX8) (T := TX8) (N := 12) (ci := 8) hx hb hts in_X8_named_X8 hown hB m_0 h_0 rfl 0 (by decide) (hts (.fieldLink RX8 14 "PaperRoom" "draft" "LPaperRoom$Row;") (by decide +kernel)) (fun _ h9 => h9) rfl dX8_named_33 ?_
  refine m_callVE (ci := 5) (As := []) (rest := []) (c_Row_length l D ty L ad g 1 2 dn m_1 h_1) ⟨hx, hb, hml, hown, hts⟩ (cwV 0 hts gX8_named_X5_length rfl rfl rfl (by decide +kernel) ⟨Nat.le_of_ble_eq_true rfl, Nat.le_of_ble_eq_true rfl⟩) hB m_1 h_1 rfl rfl hl.1 rfl (Nat.le_of_ble_eq_true rfl) dX8_named_36 ⟨Nat.le_of_ble_eq_true rfl, Nat.le_of_ble_eq_true rfl⟩ (fun H locs hB => ?_)
  refine b_if_ne_f 45 hx hb dX8_named_39 (by decide) (by rw [hd]; decide) ?_
  refine lv_bipush (v := (-2)) hx hb dX8_named_42 (by decide) ?_
  exact m_iret hx hb hrt hlocks hB (Nat.le_refl _) (Nat.le_refl _) dX8_named_44 ⟨rfl, rfl, rfl, rfl⟩
set_option maxHeartbeats 1000000 in
set_option maxRecDepth 100000 in
theorem c_X_named2_n (l : Launch) (D : va_G) (ty : Nat → ClassId) (L : List Nat) (ad : Nat → Nat) (g : Nat → va_E) (pn qn : Nat) (nw : Int32) (tr : Int64) (pf : Nat → Option Nat) (pp pt vn : Nat) (fo wd : Int32) (tf : Nat → Option Nat) (k : Nat) (w : Nat) (m_0 : 0 ∈ L) (m_6 : 6 ∈ L) (m_pp : pp ∈ L) (m_pt : pt ∈ L) (h_0 : g 0 = .inr (8, [.ref (ad 1), .ref (ad 3), .ref (ad 6), .int (nI pn), .ref (ad 7), .ref (ad 20), .ref (ad 22), .ref (ad 28), .int (nI qn), .ref (ad 29), .int nw, .long tr])) (h_6 : g 6 = .inl (ty 4, 8, .inr (.inr (.inr (.inr pf))))) (h_pp : g pp = .inr (2, [.int fo, .ref (ad pt), .int (nI vn), .int wd])) (h_pt : g pt = .inl (ty 7, 4, .inr (.inr (.inr (.inr tf))))) (hk : k < 8) (hpp : pf k = some (ad pp)) (hw4 : w < 4) (htf : tf w = none) : m_E l yX8_named wsX8_named 4 89 D ty [.ref (ad 0), .int (nI k), .int (nI w)] L ad g (some (.int (-1))) g := by
  intro sz
  refine Met.ofW (cc := cX8_named) (maxL := 7) (ret := (some .int)) (by decide) rfl ?_
  intro p e s m args below meth c s₁ B hml hv
  have hx := B.exec
  have hb := B.bytes
  have hrt := B.returns
  have hts := atoms_spec (ws := wsX8_named) B.pre
  have hown : s.vm.findClass RX8 = some m.cls := findClass_of_methodNamed B.named
  have hlocks := B.notSynchronized
  obtain ⟨rfl, hB⟩ := m_start hv
  generalize va_A (m_w L ad g) sz = A at hB ⊢
  generalize s.heap = H at hB ⊢
  generalize ([] : List Loc) = locs at hB ⊢
  have hl := lv_entry ([.ref (ad 0), .int (nI k), .int (nI w)]) (n := 7) (Nat.le_of_ble_eq_true rfl)
  rw [lg_entry_eq]
  generalize (lg_sl ([.ref (ad 0), .int (nI k), .int (nI w)]) ++ List.replicate (7 - (lg_sl ([.ref (ad 0), .int (nI k), .int (nI w)])).length) Slot.unset).toArray = ls at hl ⊢
  have hl : lv_has ls 7 [(0, .ref (ad 0)), (1, .int (nI k)), (2, .int (nI w))] := hl
  refine lv_aload_n hx hb dX8_named_0 rfl (lv_at hl 0 rfl) ?_
  refine lv_iload_n hx hb dX8_named_1 rfl (lv_at hl 1 rfl) ?_
  refine m_callVE (ci := 8) (As := [.int (nI k)]) (rest := []) ((by have h9 := c_X_paperNumber_t l D ty L ad g pn qn nw tr pf k m_0 m_6 h_0 h_6 hk; rw [hpp] at h9; exact h9 : m_E l yX8_paperNumber wsX8_paperNumber 1 21 D ty [.ref (ad 0), .int (nI k)] L ad g (some (.ref (ad pp))) g)) ⟨hx, hb, hml, hown, hts⟩ (cwV 1 hts gX8_named_X8_paperNumber rfl rfl rfl (by decide +kernel) ⟨Nat.le_of_ble_eq_true rfl, Nat.le_of_ble_eq_true rfl⟩) hB m_0 h_0 rfl rfl hl.1 rfl (Nat.le_of_ble_eq_true rfl) dX8_named_2 ⟨Nat.le_of_ble_eq_true rfl, Nat.le_of_ble_eq_true rfl⟩ (fun H locs hB => ?_)
  refine lv_astore_n (lv' := [(3, .ref (ad pp)), (0, .ref (ad 0)), (1, .int (nI k)), (2, .int (nI w))]) hx hb dX8_named_5 rfl hl (by decide) rfl (fun ls hl => ?_)
  refine lv_aload_n hx hb dX8_named_6 rfl (lv_at hl 0 rfl) ?_
  refine lv_iload_n hx hb dX8_named_7 rfl (lv_at hl 3 rfl) ?_
  refine m_callSE (As := [.ref (ad pp), .int (nI w)]) (rest := []) ((by have h9 := c_X_textOf2_t l D ty L ad g pp pt vn fo wd tf w m_pp m_pt h_pp h_pt hw4; rw [htf] at h9; exact h9 : m_E l yX8_textOf wsX8_textOf 2 42 D ty [.ref (ad pp), .int (nI w)] L ad g (some .null) g)) ⟨hx, hb, hml, hown, hts⟩ (va_cwS 2 hts gX8_named_X8_textOf rfl rfl rfl (by decide +kernel) ⟨Nat.le_of_ble_eq_true rfl, Nat.le_of_ble_eq_true rfl⟩) hB rfl hl.1 rfl (Nat.le_of_ble_eq_true rfl) dX8_named_8 ⟨Nat.le_of_ble_eq_true rfl, Nat.le_of_ble_eq_true rfl⟩ (fun H locs hB => ?_)
  refine lv_astoreN (lv' := [(4, .null), (3, .ref (ad pp)), (0, .ref (ad 0)), (1, .int (nI k)), (2, .int (nI w))]) hx hb dX8_named_11 hl (by decide) rfl (fun ls hl => ?_)
  refine lv_aload_n hx hb dX8_named_13 rfl (lv_at hl 1 rfl) ?_
  refine lv_ifnull hx hb dX8_named_14 ?_
  refine lv_aloadN hx hb dX8_named_17 (lv_at hl 0 rfl) ?_
  refine lv_ifnullN (tgt := 30) hx hb dX8_named_19 (by decide) ?_
  refine lv_iconst (v := (-1)) hx hb dX8_named_30 (by decide) ?_
  exact m_iret hx hb hrt hlocks hB (Nat.le_refl _) (Nat.le_refl _) dX8_named_31 ⟨rfl, rfl, rfl, rfl⟩
set_option maxHeartbeats 1000000 in
set_option maxRecDepth 100000 in
theorem c_X_named2_b (l : Launch) (D : va_G) (ty : Nat → ClassId) (L : List Nat) (ad : Nat → Nat) (g : Nat → va_E) (pn qn : Nat) (nw : Int32) (tr : Int64) (pf : Nat → Option Nat) (pp pt vn : Nat) (fo wd : Int32) (tf : Nat → Option Nat) (k : Nat) (v : Int32) (m_0 : 0 ∈ L) (m_6 : 6 ∈ L) (m_pp : pp ∈ L) (m_pt : pt ∈ L) (h_0 : g 0 = .inr (8, [.ref (ad 1), .ref (ad 3), .ref (ad 6), .int (nI pn), .ref (ad 7), .ref (ad 20), .ref (ad 22), .ref (ad 28), .int (nI qn), .ref (ad 29), .int nw, .long tr])) (h_6 : g 6 = .inl (ty 4, 8, .inr (.inr (.inr (.inr pf))))) (h_pp : g pp = .inr (2, [.int fo, .ref (ad pt), .int (nI vn), .int wd])) (h_pt : g pt = .inl (ty 7, 4, .inr (.inr (.inr (.inr tf))))) (hk : k < 8) (hpp : pf k = some (ad pp)) (hv4 : ¬ (0 ≤ v.toInt ∧ v.toInt < 4)) : m_E l yX8_named wsX8_named 4 89 D ty [.ref (ad 0), .int (nI k), .int v] L ad g (some (.int (-1))) g := by
  intro sz
  refine Met.ofW (cc := cX8_named) (maxL := 7) (ret := (some .int)) (by decide) rfl ?_
  intro p e s m args below meth c s₁ B hml hv
  have hx := B.exec
  have hb := B.bytes
  have hrt := B.returns
  have hts := atoms_spec (ws := wsX8_named) B.pre
  have hown : s.vm.findClass RX8 = some m.cls := findClass_of_methodNamed B.named
  have hlocks := B.notSynchronized
  obtain ⟨rfl, hB⟩ := m_start hv
  generalize va_A (m_w L ad g) sz = A at hB ⊢
  generalize s.heap = H at hB ⊢
  generalize ([] : List Loc) = locs at hB ⊢
  have hl := lv_entry ([.ref (ad 0), .int (nI k), .int v]) (n := 7) (Nat.le_of_ble_eq_true rfl)
  rw [lg_entry_eq]
  generalize (lg_sl ([.ref (ad 0), .int (nI k), .int v]) ++ List.replicate (7 - (lg_sl ([.ref (ad 0), .int (nI k), .int v])).length) Slot.unset).toArray = ls at hl ⊢
  have hl : lv_has ls 7 [(0, .ref (ad 0)), (1, .int (nI k)), (2, .int v)] := hl
  refine lv_aload_n hx hb dX8_named_0 rfl (lv_at hl 0 rfl) ?_
  refine lv_iload_n hx hb dX8_named_1 rfl (lv_at hl 1 rfl) ?_
  refine m_callVE (ci := 8) (As := [.int (nI k)]) (rest := []) ((by have h9 := c_X_paperNumber_t l D ty L ad g pn qn nw tr pf k m_0 m_6 h_0 h_6 hk; rw [hpp] at h9; exact h9 : m_E l yX8_paperNumber wsX8_paperNumber 1 21 D ty [.ref (ad 0), .int (nI k)] L ad g (some (.ref (ad pp))) g)) ⟨hx, hb, hml, hown, hts⟩ (cwV 1 hts gX8_named_X8_paperNumber rfl rfl rfl (by decide +kernel) ⟨Nat.le_of_ble_eq_true rfl, Nat.le_of_ble_eq_true rfl⟩) hB m_0 h_0 rfl rfl hl.1 rfl (Nat.le_of_ble_eq_true rfl) dX8_named_2 ⟨Nat.le_of_ble_eq_true rfl, Nat.le_of_ble_eq_true rfl⟩ (fun H locs hB => ?_)
  refine lv_astore_n (lv' := [(3, .ref (ad pp)), (0, .ref (ad 0)), (1, .int (nI k)), (2, .int v)]) hx hb dX8_named_5 rfl hl (by decide) rfl (fun ls hl => ?_)
  refine lv_aload_n hx hb dX8_named_6 rfl (lv_at hl 0 rfl) ?_
  refine lv_iload_n hx hb dX8_named_7 rfl (lv_at hl 3 rfl) ?_
  refine m_callSE (As := [.ref (ad pp), .int v]) (rest := []) (c_X_textOf2_f l D ty L ad g pp pt vn fo wd tf v m_pp m_pt h_pp h_pt (by rw [show (nI 4).toInt = 4 by decide]; exact hv4)) ⟨hx, hb, hml, hown, hts⟩ (va_cwS 2 hts gX8_named_X8_textOf rfl rfl rfl (by decide +kernel) ⟨Nat.le_of_ble_eq_true rfl, Nat.le_of_ble_eq_true rfl⟩) hB rfl hl.1 rfl (Nat.le_of_ble_eq_true rfl) dX8_named_8 ⟨Nat.le_of_ble_eq_true rfl, Nat.le_of_ble_eq_true rfl⟩ (fun H locs hB => ?_)
  refine lv_astoreN (lv' := [(4, .null), (3, .ref (ad pp)), (0, .ref (ad 0)), (1, .int (nI k)), (2, .int v)]) hx hb dX8_named_11 hl (by decide) rfl (fun ls hl => ?_)
  refine lv_aload_n hx hb dX8_named_13 rfl (lv_at hl 1 rfl) ?_
  refine lv_ifnull hx hb dX8_named_14 ?_
  refine lv_aloadN hx hb dX8_named_17 (lv_at hl 0 rfl) ?_
  refine lv_ifnullN (tgt := 30) hx hb dX8_named_19 (by decide) ?_
  refine lv_iconst (v := (-1)) hx hb dX8_named_30 (by decide) ?_
  exact m_iret hx hb hrt hlocks hB (Nat.le_refl _) (Nat.le_refl _) dX8_named_31 ⟨rfl, rfl, rfl, rfl⟩
set_option maxHeartbeats 1000000 in
set_option maxRecDepth 100000 in
theorem c_X_named2_k (l : Launch) (D : va_G) (ty : Nat → ClassId) (L : List Nat) (ad : Nat → Nat) (g : Nat → va_E) (pn qn : Nat) (nw : Int32) (tr : Int64) (pf : Nat → Option Nat) (pp pt vn : Nat) (fo wd : Int32) (tf : Nat → Option Nat) (k : Nat) (w t : Nat) (m_0 : 0 ∈ L) (m_6 : 6 ∈ L) (m_pp : pp ∈ L) (m_pt : pt ∈ L) (h_0 : g 0 = .inr (8, [.ref (ad 1), .ref (ad 3), .ref (ad 6), .int (nI pn), .ref (ad 7), .ref (ad 20), .ref (ad 22), .ref (ad 28), .int (nI qn), .ref (ad 29), .int nw, .long tr])) (h_6 : g 6 = .inl (ty 4, 8, .inr (.inr (.inr (.inr pf))))) (h_pp : g pp = .inr (2, [.int fo, .ref (ad pt), .int (nI vn), .int wd])) (h_pt : g pt = .inl (ty 7, 4, .inr (.inr (.inr (.inr tf))))) (hk : k < 8) (hpp : pf k = some (ad pp)) (hw4 : w < 4) (htf : tf w = some (ad t)) : m_E l yX8_named wsX8_named 4 89 D ty [.ref (ad 0), .int (nI k), .int (nI w)] L ad g (some (.int (-1))) g := by
  intro sz
  refine Met.ofW (cc := cX8_named) (maxL := 7) (ret := (some .int)) (by decide) rfl ?_
  intro p e s m args below meth c s₁ B hml hv
  have hx := B.exec
  have hb := B.bytes
  have hrt := B.returns
  have hts := atoms_spec (ws := wsX8_named) B.pre
  have hown : s.vm.findClass RX8 = some m.cls := findClass_of_methodNamed B.named
  have hlocks := B.notSynchronized
  obtain ⟨rfl, hB⟩ := m_start hv
  generalize va_A (m_w L ad g) sz = A at hB ⊢
  generalize s.heap = H at hB ⊢
  generalize ([] : List Loc) = locs at hB ⊢
  have hl := lv_entry ([.ref (ad 0), .int (nI k), .int (nI w)]) (n := 7) (Nat.le_of_ble_eq_true rfl)
  rw [lg_entry_eq]
  generalize (lg_sl ([.ref (ad 0), .int (nI k), .int (nI w)]) ++ List.replicate (7 - (lg_sl ([.ref (ad 0), .int (nI k), .int (nI w)])).length) Slot.unset).toArray = ls at hl ⊢
  have hl : lv_has ls 7 [(0, .ref (ad 0)), (1, .int (nI k)), (2, .int (nI w))] := hl
  refine lv_aload_n hx hb dX8_named_0 rfl (lv_at hl 0 rfl) ?_
  refine lv_iload_n hx hb dX8_named_1 rfl (lv_at hl 1 rfl) ?_
  refine m_callVE (ci := 8) (As := [.int (nI k)]) (rest := []) ((by have h9 := c_X_paperNumber_t l D ty L ad g pn qn nw tr pf k m_0 m_6 h_0 h_6 hk; rw [hpp] at h9; exact h9 : m_E l yX8_paperNumber wsX8_paperNumber 1 21 D ty [.ref (ad 0), .int (nI k)] L ad g (some (.ref (ad pp))) g)) ⟨hx, hb, hml, hown, hts⟩ (cwV 1 hts gX8_named_X8_paperNumber rfl rfl rfl (by decide +kernel) ⟨Nat.le_of_ble_eq_true rfl, Nat.le_of_ble_eq_true rfl⟩) hB m_0 h_0 rfl rfl hl.1 rfl (Nat.le_of_ble_eq_true rfl) dX8_named_2 ⟨Nat.le_of_ble_eq_true rfl, Nat.le_of_ble_eq_true rfl⟩ (fun H locs hB => ?_)
  refine lv_astore_n (lv' := [(3, .ref (ad pp)), (0, .ref (ad 0)), (1, .int (nI k)), (2, .int (nI w))]) hx hb dX8_named_5 rfl hl (by decide) rfl (fun ls hl => ?_)
  refine lv_aload_n hx hb dX8_named_6 rfl (lv_at hl 0 rfl) ?_
  refine lv_iload_n hx hb dX8_named_7 rfl (lv_at hl 3 rfl) ?_
  refine m_callSE (As := [.ref (ad pp), .int (nI w)]) (rest := []) ((by have h9 := c_X_textOf2_t l D ty L ad g pp pt vn fo wd tf w m_pp m_pt h_pp h_pt hw4; rw [htf] at h9; exact h9 : m_E l yX8_textOf wsX8_textOf 2 42 D ty [.ref (ad pp), .int (nI w)] L ad g (some (.ref (ad t))) g)) ⟨hx, hb, hml, hown, hts⟩ (va_cwS 2 hts gX8_named_X8_textOf rfl rfl rfl (by decide +kernel) ⟨Nat.le_of_ble_eq_true rfl, Nat.le_of_ble_eq_true rfl⟩) hB rfl hl.1 rfl (Nat.le_of_ble_eq_true rfl) dX8_named_8 ⟨Nat.le_of_ble_eq_true rfl, Nat.le_of_ble_eq_true rfl⟩ (fun H locs hB => ?_)
  refine lv_astore (lv' := [(4, .ref (ad t)), (3, .ref (ad pp)), (0, .ref (ad 0)), (1, .int (nI k)), (2, .int (nI w))]) hx hb dX8_named_11 hl (by decide) rfl (fun ls hl => ?_)
  refine lv_aload_n hx hb dX8_named_13 rfl (lv_at hl 1 rfl) ?_
  refine lv_ifnull hx hb dX8_named_14 ?_
  refine lv_aload hx hb dX8_named_17 (lv_at hl 0 rfl) ?_
  refine lv_ifnull hx hb dX8_named_19 ?_
  refine lv_aload_n hx hb dX8_named_22 rfl (lv_at hl 1 rfl) ?_
  refine m_callVE (ci := 2) (As := []) (rest := []) (c_Paper_kind l D ty L ad g pp pt vn fo wd m_pp h_pp) ⟨hx, hb, hml, hown, hts⟩ (cwV 0 hts gX8_named_X2_kind rfl rfl rfl (by decide +kernel) ⟨Nat.le_of_ble_eq_true rfl, Nat.le_of_ble_eq_true rfl⟩) hB m_pp h_pp rfl rfl hl.1 rfl (Nat.le_of_ble_eq_true rfl) dX8_named_23 ⟨Nat.le_of_ble_eq_true rfl, Nat.le_of_ble_eq_true rfl⟩ (fun H locs hB => ?_)
  refine lv_iconst (v := 2) hx hb dX8_named_26 (by decide) ?_
  refine b_icmp_eq_f 32 hx hb dX8_named_27 (by decide) (by decide) ?_
  refine lv_iconst (v := (-1)) hx hb dX8_named_30 (by decide) ?_
  exact m_iret hx hb hrt hlocks hB (Nat.le_refl _) (Nat.le_refl _) dX8_named_31 ⟨rfl, rfl, rfl, rfl⟩
set_option maxRecDepth 20000 in
theorem oc_X8_named_X2_copyFor : Cond.code yX2_copyFor cX2_copyFor 5 none ∈ wsX8_named := List.mem_of_getElem? (i := 50) rfl
set_option maxHeartbeats 1000000 in
set_option maxRecDepth 100000 in
theorem c_X_named_ok (l : Launch) (D : va_G) (ty : Nat → ClassId) (L : List Nat) (ad : Nat → Nat) (g : Nat → va_E) (pn qn : Nat) (nw : Int32) (tr : Int64) (pf : Nat → Option Nat) (pp pt vn : Nat) (fo wd : Int32) (tf : Nat → Option Nat) (k w t ro a bl n dn sl : Nat) (bs bk db sb fv : Nat → Int32) (m_0 : 0 ∈ L) (m_1 : 1 ∈ L) (m_2 : 2 ∈ L) (m_6 : 6 ∈ L) (m_20 : 20 ∈ L) (m_21 : 21 ∈ L) (m_pp : pp ∈ L) (m_pt : pt ∈ L) (m_t : t ∈ L) (m_ro : ro ∈ L) (m_a : a ∈ L) (m_bl : bl ∈ L) (h_0 : g 0 = .inr (8, [.ref (ad 1), .ref (ad 3), .ref (ad 6), .int (nI pn), .ref (ad 7), .ref (ad 20), .ref (ad 22), .ref (ad 28), .int (nI qn), .ref (ad 29), .int nw, .long tr])) (h_1 : g 1 = .inr (5, [.ref (ad 2), .int (nI dn)])) (h_2 : g 2 = .inl (ty 2, 40, .inl db)) (h_6 : g 6 = .inl (ty 4, 8, .inr (.inr (.inr (.inr pf))))) (h_20 : g 20 = .inr (5, [.ref (ad 21), .int (nI sl)])) (h_21 : g 21 = .inl (ty 2, 80, .inl sb)) (h_pp : g pp = .inr (1, [.int fo, .ref (ad pt), .int (nI vn), .int wd])) (h_pt : g pt = .inl (ty 7, 4, .inr (.inr (.inr (.inr tf))))) (h_t : g t = .inr (7, [.ref (ad ro), .ref (ad bl)])) (h_ro : g ro = .inr (5, [.ref (ad a), .int (nI n)])) (h_a : g a = .inl (ty 2, n, .inl bs)) (h_bl : g bl = .inl (ty 3, n, .inl bk)) (hk : k < 8) (hpp : pf k = some (ad pp)) (hw4 : w < 4) (htf : tf w = some (ad t)) (hd : 0 < dn) (hdn : dn ≤ 40) (hn40 : n ≤ 40) (hbk : ∀ i, i < n → bk i = 0 ∨ bk i = 1) (hfv : ∀ i, i < n → fv i = pl (bs i) (bk i)) (h8 : ∀ i, i < n → (fv i).toInt8.toInt32 = fv i) (hb_pp : 30 ≤ pp) (hb_pt : 30 ≤ pt) (hb_t : 30 ≤ t) (hb_ro : 30 ≤ ro) (hb_a : 30 ≤ a) (hb_bl : 30 ≤ bl) : m_C l yX8_named wsX8_named 4 89 0 0 D ty [.ref (ad 0), .int (nI k), .int (nI w)] L ad g (fun v1 L1 ad1 g1 => v1 = some (.int (nmR fv db n dn 6)) ∧ L1 = L ∧ ad1 = ad ∧ (∀ x, x ≠ 20 → x ≠ 21 → g1 x = g x) ∧ ∃ (hh : Nat → Int32) (mk : Nat), g1 20 = .inr (5, [.ref (ad1 21), .int (nI mk)]) ∧ g1 21 = .inl (ty 2, 80, .inl hh)) := by
  intro sz
  refine Met.ofW (cc := cX8_named) (maxL := 7) (ret := (some .int)) (by decide) rfl ?_
  intro p e s m args below meth c s₁ B hml hv
  have hx := B.exec
  have hb := B.bytes
  have hrt := B.returns
  have hts := atoms_spec (ws := wsX8_named) B.pre
  have hown : s.vm.findClass RX8 = some m.cls := findClass_of_methodNamed B.named
  have hlocks := B.notSynchronized
  obtain ⟨rfl, hB⟩ := m_start hv
  generalize va_A (m_w L ad g) sz = A at hB ⊢
  generalize s.heap = H at hB ⊢
  generalize ([] : List Loc) = locs at hB ⊢
  have hl := lv_entry ([.ref (ad 0), .int (nI k), .int (nI w)]) (n := 7) (Nat.le_of_ble_eq_true rfl)
  rw [lg_entry_eq]
  generalize (lg_sl ([.ref (ad 0), .int (nI k), .int (nI w)]) ++ List.replicate (7 - (lg_sl ([.ref (ad 0), .int (nI k), .int (nI w)])).length) Slot.unset).toArray = ls at hl ⊢
  have hl : lv_has ls 7 [(0, .ref (ad 0)), (1, .int (nI k)), (2, .int (nI w))] := hl
  refine lv_aload_n hx hb dX8_named_0 rfl (lv_at hl 0 rfl) ?_
  refine lv_iload_n hx hb dX8_named_1 rfl (lv_at hl 1 rfl) ?_
  refine m_callVE (ci := 8) (As := [.int (nI k)]) (rest := []) ((by have h9 := c_X_paperNumber_t l D ty L ad g pn qn nw tr pf k m_0 m_6 h_0 h_6 hk; rw [hpp] at h9; exact h9 : m_E l yX8_paperNumber wsX8_paperNumber 1 21 D ty [.ref (ad 0), .int (nI k)] L ad g (some (.ref (ad pp))) g)) ⟨hx, hb, hml, hown, hts⟩ (cwV 1 hts gX8_named_X8_paperNumber rfl rfl rfl (by decide +kernel) ⟨Nat.le_of_ble_eq_true rfl, Nat.le_of_ble_eq_true rfl⟩) hB m_0 h_0 rfl rfl hl.1 rfl (Nat.le_of_ble_eq_true rfl) dX8_named_2 ⟨Nat.le_of_ble_eq_true rfl, Nat.le_of_ble_eq_true rfl⟩ (fun H locs hB => ?_)
  refine lv_astore_n (lv' := [(3, .ref (ad pp)), (0, .ref (ad 0)), (1, .int (nI k)), (2, .int (nI w))]) hx hb dX8_named_5 rfl hl (by decide) rfl (fun ls hl => ?_)
  refine lv_aload_n hx hb dX8_named_6 rfl (lv_at hl 0 rfl) ?_
  refine lv_iload_n hx hb dX8_named_7 rfl (lv_at hl 3 rfl) ?_
  refine m_callSE (As := [.ref (ad pp), .int (nI w)]) (rest := []) ((by have h9 := c_X_textOf1_t l D ty L ad g pp pt vn fo wd tf w m_pp m_pt h_pp h_pt hw4; rw [htf] at h9; exact h9 : m_E l yX8_textOf wsX8_textOf 2 42 D ty [.ref (ad pp), .int (nI w)] L ad g (some (.ref (ad t))) g)) ⟨hx, hb, hml, hown, hts⟩ (va_cwS 2 hts gX8_named_X8_textOf rfl rfl rfl (by decide +kernel) ⟨Nat.le_of_ble_eq_true rfl, Nat.le_of_ble_eq_true rfl⟩) hB rfl hl.1 rfl (Nat.le_of_ble_eq_true rfl) dX8_named_8 ⟨Nat.le_of_ble_eq_true rfl, Nat.le_of_ble_eq_true rfl⟩ (fun H locs hB => ?_)
  refine lv_astore (lv' := [(4, .ref (ad t)), (3, .ref (ad pp)), (0, .ref (ad 0)), (1, .int (nI k)), (2, .int (nI w))]) hx hb dX8_named_11 hl (by decide) rfl (fun ls hl => ?_)
  refine lv_aload_n hx hb dX8_named_13 rfl (lv_at hl 1 rfl) ?_
  refine lv_ifnull hx hb dX8_named_14 ?_
  refine lv_aload hx hb dX8_named_17 (lv_at hl 0 rfl) ?_
  refine lv_ifnull hx hb dX8_named_19 ?_
  refine lv_aload_n hx hb dX8_named_22 rfl (lv_at hl 1 rfl) ?_
  refine m_callUE (ci := 1) (As := []) (rest := []) (c_Marked_kind l D ty L ad g pp pt vn fo wd m_pp h_pp) ⟨hx, hb, hml, hown, hts⟩ (va_cwO 0 hts gX8_named_X1_kind_u131X1 rfl rfl rfl oc_X8_named_X2_kind (by decide +kernel) ⟨Nat.le_of_ble_eq_true rfl, Nat.le_of_ble_eq_true rfl⟩) hB m_pp h_pp rfl rfl hl.1 rfl (Nat.le_of_ble_eq_true rfl) dX8_named_23 ⟨Nat.le_of_ble_eq_true rfl, Nat.le_of_ble_eq_true rfl⟩ (fun H locs hB => ?_)
  refine lv_iconst (v := 2) hx hb dX8_named_26 (by decide) ?_
  refine b_icmp_eq_t 32 hx hb dX8_named_27 (by decide) (by decide) ?_
  refine lv_aload_n hx hb dX8_named_32 rfl (lv_at hl 2 rfl) ?_
  refine m_get (C := RX8) (T := TX8) (N := 12) (ci := 8) hx hb hts in_X8_named_X8 hown hB m_0 h_0 rfl 0 (by decide) (hts (.fieldLink RX8 14 "PaperRoom" "draft" "LPaperRoom$Row;") (by decide +kernel)) (fun _ h9 => h9) rfl dX8_named_33 ?_
  refine m_callVE (ci := 5) (As := []) (rest := []) (c_Row_length l D ty L ad g 1 2 dn m_1 h_1) ⟨hx, hb, hml, hown, hts⟩ (cwV 0 hts gX8_named_X5_length rfl rfl rfl (by decide +kernel) ⟨Nat.le_of_ble_eq_true rfl, Nat.le_of_ble_eq_true rfl⟩) hB m_1 h_1 rfl rfl hl.1 rfl (Nat.le_of_ble_eq_true rfl) dX8_named_36 ⟨Nat.le_of_ble_eq_true rfl, Nat.le_of_ble_eq_true rfl⟩ (fun H locs hB => ?_)
  refine b_if_ne_t 45 hx hb dX8_named_39 (by decide) (by rw [nI_toInt (by omega)]; omega) ?_
  refine lv_iconst (v := 0) hx hb dX8_named_45 (by decide) ?_
  refine lv_istore (lv' := [(5, .int 0), (4, .ref (ad t)), (3, .ref (ad pp)), (0, .ref (ad 0)), (1, .int (nI k)), (2, .int (nI w))]) hx hb dX8_named_46 hl (by decide) rfl (fun ls hl => ?_)
  refine lv_iconst (v := 0) hx hb dX8_named_48 (by decide) ?_
  refine lv_istore (lv' := [(6, .int 0), (5, .int 0), (4, .ref (ad t)), (3, .ref (ad pp)), (0, .ref (ad 0)), (1, .int (nI k)), (2, .int (nI w))]) hx hb dX8_named_49 hl (by decide) rfl (fun ls hl => ?_)
  obtain ⟨gk, hh, mk, h20k, h21k, hfk, hBk⟩ : ∃ (gk : Nat → va_E) (hh : Nat → Int32) (mk : Nat), gk 20 = .inr (5, [.ref (ad 21), .int (nI mk)]) ∧ gk 21 = .inl (ty 2, 80, .inl hh) ∧ (∀ x, x ≠ 20 → x ≠ 21 → gk x = g x) ∧ m_B D ty A s L ad gk H locs := ⟨g, sb, sl, h_20, h_21, fun _ _ _ => rfl, hB⟩
  replace hB := hBk
  clear hBk
  replace hl : lv_has ls 7 [(0, .ref (ad 0)), (3, .ref (ad pp)), (4, .ref (ad t)), (5, .int 0), (6, .int 0)] := lv_sub hl [4, 3, 2, 1, 0] rfl
  obtain ⟨i, hi0⟩ : ∃ i : Nat, i = 0 := ⟨0, rfl⟩
  replace hl : lv_has ls 7 [(0, .ref (ad 0)), (3, .ref (ad pp)), (4, .ref (ad t)), (5, .int (nmR fv db n dn i)), (6, .int (nI i))] := by rw [hi0]; exact hl
  obtain ⟨oz, ho⟩ : ∃ oz : Nat, i + oz = 6 := ⟨6 - i, by omega⟩
  clear hi0
  induction oz generalizing i H locs ls gk hh mk with
  | zero =>
    have hoe : i = 6 := by omega
    have tI_i : (nI i).toInt = (i : Int) := nI_toInt (by omega)
    refine lv_iload hx hb dX8_named_51 (lv_at hl 4 rfl) ?_
    refine lv_bipush (v := 6) hx hb dX8_named_53 (by decide) ?_
    refine b_icmp_ge_t 99 hx hb dX8_named_55 (by decide) (by rw [show (6 : Int32).toInt = 6 by decide]; omega) ?_
    refine lv_iload hx hb dX8_named_99 (lv_at hl 3 rfl) ?_
    exact m_iret hx hb hrt hlocks hB (Nat.le_refl _) (Nat.le_refl _) dX8_named_101 ⟨by rw [hoe], rfl, rfl, hfk, ⟨hh, mk, h20k, h21k⟩⟩
  | succ oz iho =>
    have hol : i < 6 := by omega
    have tI_i : (nI i).toInt = (i : Int) := nI_toInt (by omega)
    have hN := mkN_le true (nI i) fv n
    refine lv_iload hx hb dX8_named_51 (lv_at hl 4 rfl) ?_
    refine lv_bipush (v := 6) hx hb dX8_named_53 (by decide) ?_
    refine b_icmp_ge_f 99 hx hb dX8_named_55 (by decide) (by rw [show (6 : Int32).toInt = 6 by decide]; omega) ?_
    refine lv_aload_n hx hb dX8_named_58 rfl (lv_at hl 1 rfl) ?_
    refine lv_iload hx hb dX8_named_59 (lv_at hl 4 rfl) ?_
    refine lv_aload hx hb dX8_named_61 (lv_at hl 2 rfl) ?_
    refine lv_aload_n hx hb dX8_named_63 rfl (lv_at hl 0 rfl) ?_
    refine m_get (C := RX8) (T := TX8) (N := 12) (ci := 8) hx hb hts in_X8_named_X8 hown hB m_0 ((hfk 0 (by omega) (by omega)).trans h_0) rfl 5 (by decide) (hts (.fieldLink RX8 35 "PaperRoom" "sample" "LPaperRoom$Row;") (by decide +kernel)) (fun _ h9 => h9) rfl dX8_named_64 ?_
    refine m_callUZ (ci := 1) (As := [.int (nI i), .ref (ad t), .ref (ad 20)]) (rest := []) (c_Marked_copy l D ty L ad gk pp (nI i) t ro a bl n bs bk 20 21 mk hh fv m_t m_ro m_a m_bl m_20 m_21 ((hfk t (by omega) (by omega)).trans h_t) ((hfk ro (by omega) (by omega)).trans h_ro) ((hfk a (by omega) (by omega)).trans h_a) ((hfk bl (by omega) (by omega)).trans h_bl) h20k h21k hn40 hbk hfv h8 (by omega) (by omega) (by omega) (by omega) (by omega) (by omega) (by omega) (by omega) (by decide)) ⟨hx, hb, hml, hown, hts⟩ (va_cwO 3 hts gX8_named_X1_copyFor_u158X1 rfl rfl rfl oc_X8_named_X2_copyFor (by decide +kernel) ⟨Nat.le_of_ble_eq_true rfl, Nat.le_of_ble_eq_true rfl⟩) hB m_pp ((hfk pp (by omega) (by omega)).trans h_pp) rfl rfl hl.1 rfl (Nat.le_of_ble_eq_true rfl) dX8_named_67 ⟨Nat.le_of_ble_eq_true rfl, Nat.le_of_ble_eq_true rfl⟩ (fun H locs hB => ?_)
    replace hB : m_B D ty A s L ad (va_up (va_up gk 21 (.inl (ty 2, 80, .inl (mkF true (nI i) fv hh n)))) 20 (.inr (5, [.ref (ad 21), .int (nI (mkN true (nI i) fv n))]))) H locs := hB
    obtain ⟨gn, hgn⟩ : ∃ z, z = (va_up (va_up gk 21 (.inl (ty 2, 80, .inl (mkF true (nI i) fv hh n)))) 20 (.inr (5, [.ref (ad 21), .int (nI (mkN true (nI i) fv n))]))) := ⟨_, rfl⟩
    rw [← hgn] at hB
    have Fgn_0 : gn 0 = .inr (8, [.ref (ad 1), .ref (ad 3), .ref (ad 6), .int (nI pn), .ref (ad 7), .ref (ad 20), .ref (ad 22), .ref (ad 28), .int (nI qn), .ref (ad 29), .int nw, .long tr]) := by rw [hgn]; exact ((va_up_ne _ _ (by decide)).trans ((va_up_ne _ _ (by decide)).trans ((hfk 0 (by omega) (by omega)).trans h_0)))
    have Fgn_1 : gn 1 = .inr (5, [.ref (ad 2), .int (nI dn)]) := by rw [hgn]; exact ((va_up_ne _ _ (by decide)).trans ((va_up_ne _ _ (by decide)).trans ((hfk 1 (by omega) (by omega)).trans h_1)))
    have Fgn_2 : gn 2 = .inl (ty 2, 40, .inl db) := by rw [hgn]; exact ((va_up_ne _ _ (by decide)).trans ((va_up_ne _ _ (by decide)).trans ((hfk 2 (by omega) (by omega)).trans h_2)))
    have Fgn_6 : gn 6 = .inl (ty 4, 8, .inr (.inr (.inr (.inr pf)))) := by rw [hgn]; exact ((va_up_ne _ _ (by decide)).trans ((va_up_ne _ _ (by decide)).trans ((hfk 6 (by omega) (by omega)).trans h_6)))
    have Fgn_pp : gn pp = .inr (1, [.int fo, .ref (ad pt), .int (nI vn), .int wd]) := by rw [hgn]; exact ((va_up_ne _ _ (by omega)).trans ((va_up_ne _ _ (by omega)).trans ((hfk pp (by omega) (by omega)).trans h_pp)))
    have Fgn_pt : gn pt = .inl (ty 7, 4, .inr (.inr (.inr (.inr tf)))) := by rw [hgn]; exact ((va_up_ne _ _ (by omega)).trans ((va_up_ne _ _ (by omega)).trans ((hfk pt (by omega) (by omega)).trans h_pt)))
    have Fgn_t : gn t = .inr (7, [.ref (ad ro), .ref (ad bl)]) := by rw [hgn]; exact ((va_up_ne _ _ (by omega)).trans ((va_up_ne _ _ (by omega)).trans ((hfk t (by omega) (by omega)).trans h_t)))
    have Fgn_ro : gn ro = .inr (5, [.ref (ad a), .int (nI n)]) := by rw [hgn]; exact ((va_up_ne _ _ (by omega)).trans ((va_up_ne _ _ (by omega)).trans ((hfk ro (by omega) (by omega)).trans h_ro)))
    have Fgn_a : gn a = .inl (ty 2, n, .inl bs) := by rw [hgn]; exact ((va_up_ne _ _ (by omega)).trans ((va_up_ne _ _ (by omega)).trans ((hfk a (by omega) (by omega)).trans h_a)))
    have Fgn_bl : gn bl = .inl (ty 3, n, .inl bk) := by rw [hgn]; exact ((va_up_ne _ _ (by omega)).trans ((va_up_ne _ _ (by omega)).trans ((hfk bl (by omega) (by omega)).trans h_bl)))
    have Fgn_20 : gn 20 = .inr (5, [.ref (ad 21), .int (nI (mkN true (nI i) fv n))]) := by rw [hgn]; exact (va_up_self _ _ _)
    have Fgn_21 : gn 21 = .inl (ty 2, 80, .inl (mkF true (nI i) fv hh n)) := by rw [hgn]; exact ((va_up_ne _ _ (by decide)).trans (va_up_self _ _ _))
    have hE := nmB_eq fv db hh n dn i
    have hfn : ∀ x, x ≠ 20 → x ≠ 21 → gn x = g x := fun x h20 h21 => by rw [hgn, va_up_ne _ _ h20, va_up_ne _ _ h21]; exact hfk x h20 h21
    have h20n : gn 20 = .inr (5, [.ref (ad 21), .int (nI (mkN true (nI i) fv n))]) := Fgn_20
    have h21n : gn 21 = .inl (ty 2, 80, .inl (mkF true (nI i) fv hh n)) := Fgn_21
    rcases bool2 (decide (dn ≤ (mkN true (nI i) fv n)) && eqp (mkF true (nI i) fv hh n) db dn) with hs | hs
    · skip
      refine lv_aload_n hx hb dX8_named_70 rfl (lv_at hl 0 rfl) ?_
      refine m_get (C := RX8) (T := TX8) (N := 12) (ci := 8) hx hb hts in_X8_named_X8 hown hB m_0 Fgn_0 rfl 5 (by decide) (hts (.fieldLink RX8 35 "PaperRoom" "sample" "LPaperRoom$Row;") (by decide +kernel)) (fun _ h9 => h9) rfl dX8_named_71 ?_
      refine lv_aload_n hx hb dX8_named_74 rfl (lv_at hl 0 rfl) ?_
      refine m_get (C := RX8) (T := TX8) (N := 12) (ci := 8) hx hb hts in_X8_named_X8 hown hB m_0 Fgn_0 rfl 0 (by decide) (hts (.fieldLink RX8 14 "PaperRoom" "draft" "LPaperRoom$Row;") (by decide +kernel)) (fun _ h9 => h9) rfl dX8_named_75 ?_
      refine m_callVE (ci := 5) (As := [.ref (ad 1)]) (rest := []) (c_Row_begins l D ty L ad gn 20 21 (mkN true (nI i) fv n) 80 (mkF true (nI i) fv hh n) 1 2 dn 40 db m_20 m_21 m_1 m_2 Fgn_20 Fgn_21 Fgn_1 Fgn_2 (by omega) (by omega) (by omega) (by omega)) ⟨hx, hb, hml, hown, hts⟩ (cwV 1 hts gX8_named_X5_beginsWith rfl rfl rfl (by decide +kernel) ⟨Nat.le_of_ble_eq_true rfl, Nat.le_of_ble_eq_true rfl⟩) hB m_20 Fgn_20 rfl rfl hl.1 rfl (Nat.le_of_ble_eq_true rfl) dX8_named_78 ⟨Nat.le_of_ble_eq_true rfl, Nat.le_of_ble_eq_true rfl⟩ (fun H locs hB => ?_)
      refine b_if_eq_f 93 hx hb dX8_named_81 (by decide) (by rw [hs]; decide) ?_
      refine lv_iload hx hb dX8_named_84 (lv_at hl 3 rfl) ?_
      refine lv_iconst (v := 1) hx hb dX8_named_86 (by decide) ?_
      refine lv_iload hx hb dX8_named_87 (lv_at hl 4 rfl) ?_
      refine lv_ishl hx hb dX8_named_89 ?_
      refine lv_ior hx hb dX8_named_90 ?_
      refine b_topi (w := nmR fv db n dn (i + 1)) (nmR_1 (hE.trans hs)) ?_
      refine lv_istore (lv' := [(5, .int (nmR fv db n dn (i + 1))), (0, .ref (ad 0)), (3, .ref (ad pp)), (4, .ref (ad t)), (6, .int (nI i))]) hx hb dX8_named_91 hl (by decide) rfl (fun ls hl => ?_)
      refine lv_iinc (v := nI (i + 1)) (lv' := [(6, .int (nI (i + 1))), (5, .int (nmR fv db n dn (i + 1))), (0, .ref (ad 0)), (3, .ref (ad pp)), (4, .ref (ad t))]) hx hb dX8_named_93 hl (k := 4) rfl (nI_add i 1) (by decide) rfl (fun ls hl => ?_)
      refine lv_goto (tgt := 51) hx hb dX8_named_96 (by decide) ?_
      have hl : lv_has ls 7 [(0, .ref (ad 0)), (3, .ref (ad pp)), (4, .ref (ad t)), (5, .int (nmR fv db n dn (i + 1))), (6, .int (nI (i + 1)))] := lv_sub hl [2, 3, 4, 1, 0] rfl
      apply iho (i := (i + 1)) (H := H) (locs := locs) (ls := ls) (gk := gn) (hh := (mkF true (nI i) fv hh n)) (mk := (mkN true (nI i) fv n)) <;> first | omega | exact hB | exact hl | exact h20n | exact h21n | exact hfn
    · skip
      refine lv_aload_n hx hb dX8_named_70 rfl (lv_at hl 0 rfl) ?_
      refine m_get (C := RX8) (T := TX8) (N := 12) (ci := 8) hx hb hts in_X8_named_X8 hown hB m_0 Fgn_0 rfl 5 (by decide) (hts (.fieldLink RX8 35 "PaperRoom" "sample" "LPaperRoom$Row;") (by decide +kernel)) (fun _ h9 => h9) rfl dX8_named_71 ?_
      refine lv_aload_n hx hb dX8_named_74 rfl (lv_at hl 0 rfl) ?_
      refine m_get (C := RX8) (T := TX8) (N := 12) (ci := 8) hx hb hts in_X8_named_X8 hown hB m_0 Fgn_0 rfl 0 (by decide) (hts (.fieldLink RX8 14 "PaperRoom" "draft" "LPaperRoom$Row;") (by decide +kernel)) (fun _ h9 => h9) rfl dX8_named_75 ?_
      refine m_callVE (ci := 5) (As := [.ref (ad 1)]) (rest := []) (c_Row_begins l D ty L ad gn 20 21 (mkN true (nI i) fv n) 80 (mkF true (nI i) fv hh n) 1 2 dn 40 db m_20 m_21 m_1 m_2 Fgn_20 Fgn_21 Fgn_1 Fgn_2 (by omega) (by omega) (by omega) (by omega)) ⟨hx, hb, hml, hown, hts⟩ (cwV 1 hts gX8_named_X5_beginsWith rfl rfl rfl (by decide +kernel) ⟨Nat.le_of_ble_eq_true rfl, Nat.le_of_ble_eq_true rfl⟩) hB m_20 Fgn_20 rfl rfl hl.1 rfl (Nat.le_of_ble_eq_true rfl) dX8_named_78 ⟨Nat.le_of_ble_eq_true rfl, Nat.le_of_ble_eq_true rfl⟩ (fun H locs hB => ?_)
      refine b_if_eq_t 93 hx hb dX8_named_81 (by decide) (by rw [hs]; decide) ?_
      refine lv_iinc (v := nI (i + 1)) (lv' := [(6, .int (nI (i + 1))), (0, .ref (ad 0)), (3, .ref (ad pp)), (4, .ref (ad t)), (5, .int (nmR fv db n dn i))]) hx hb dX8_named_93 hl (k := 4) rfl (nI_add i 1) (by decide) rfl (fun ls hl => ?_)
      refine lv_goto (tgt := 51) hx hb dX8_named_96 (by decide) ?_
      rw [show nmR fv db n dn i = nmR fv db n dn (i + 1) from by rw [← nmR_0 (hE.trans hs), Int32.or_zero]] at hl
      have hl : lv_has ls 7 [(0, .ref (ad 0)), (3, .ref (ad pp)), (4, .ref (ad t)), (5, .int (nmR fv db n dn (i + 1))), (6, .int (nI (i + 1)))] := lv_sub hl [1, 2, 3, 4, 0] rfl
      apply iho (i := (i + 1)) (H := H) (locs := locs) (ls := ls) (gk := gn) (hh := (mkF true (nI i) fv hh n)) (mk := (mkN true (nI i) fv n)) <;> first | omega | exact hB | exact hl | exact h20n | exact h21n | exact hfn
