set_option maxHeartbeats 1000000 in
set_option maxRecDepth 100000 in
theorem c_X_version_none (l : Launch) (D : va_G) (ty : Nat → ClassId) (L : List Nat) (ad : Nat → Nat) (g : Nat → va_E) (pn qn : Nat) (nw : Int32) (tr : Int64) (pf : Nat → Option Nat) (k : Nat) (m_0 : 0 ∈ L) (m_6 : 6 ∈ L) (h_0 : g 0 = .inr (8, [.ref (ad 1), .ref (ad 3), .ref (ad 6), .int (nI pn), .ref (ad 7), .ref (ad 20), .ref (ad 22), .ref (ad 28), .int (nI qn), .ref (ad 29), .int nw, .long tr])) (h_6 : g 6 = .inl (ty 4, 8, .inr (.inr (.inr (.inr pf))))) (hk : k < 8) (hpp : pf k = none) : m_E l yX8_version wsX8_version 4 85 D ty [.ref (ad 0), .int (nI k)] L ad g (some (.int (-1))) g := by
  intro sz
  refine Met.ofW (cc := cX8_version) (maxL := 3) (ret := (some .int)) (by decide) rfl ?_
  intro p e s m args below meth c s₁ B hml hv
  have hx := B.exec
  have hb := B.bytes
  have hrt := B.returns
  have hts := atoms_spec (ws := wsX8_version) B.pre
  have hown : s.vm.findClass RX8 = some m.cls := findClass_of_methodNamed B.named
  have hlocks := B.notSynchronized
  obtain ⟨rfl, hB⟩ := m_start hv
  generalize va_A (m_w L ad g) sz = A at hB ⊢
  generalize s.heap = H at hB ⊢
  generalize ([] : List Loc) = locs at hB ⊢
  have hl := lv_entry ([.ref (ad 0), .int (nI k)]) (n := 3) (Nat.le_of_ble_eq_true rfl)
  rw [lg_entry_eq]
  generalize (lg_sl ([.ref (ad 0), .int (nI k)]) ++ List.replicate (3 - (lg_sl ([.ref (ad 0), .int (nI k)])).length) Slot.unset).toArray = ls at hl ⊢
  have hl : lv_has ls 3 [(0, .ref (ad 0)), (1, .int (nI k))] := hl
  refine lv_aload_n hx hb dX8_version_0 rfl (lv_at hl 0 rfl) ?_
  refine lv_iload_n hx hb dX8_version_1 rfl (lv_at hl 1 rfl) ?_
  refine m_callVE (ci := 8) (As := [.int (nI k)]) (rest := []) ((by have h9 := c_X_paperNumber_t l D ty L ad g pn qn nw tr pf k m_0 m_6 h_0 h_6 hk; rw [hpp] at h9; exact h9 : m_E l yX8_paperNumber wsX8_paperNumber 1 21 D ty [.ref (ad 0), .int (nI k)] L ad g (some .null) g)) ⟨hx, hb, hml, hown, hts⟩ (cwV 1 hts gX8_version_X8_paperNumber rfl rfl rfl (by decide +kernel) ⟨Nat.le_of_ble_eq_true rfl, Nat.le_of_ble_eq_true rfl⟩) hB m_0 h_0 rfl rfl hl.1 rfl (Nat.le_of_ble_eq_true rfl) dX8_version_2 ⟨Nat.le_of_ble_eq_true rfl, Nat.le_of_ble_eq_true rfl⟩ (fun H locs hB => ?_)
  refine lv_astore_nN (lv' := [(2, .null), (0, .ref (ad 0)), (1, .int (nI k))]) hx hb dX8_version_5 rfl hl (by decide) rfl (fun ls hl => ?_)
  refine lv_aload_nN hx hb dX8_version_6 rfl (lv_at hl 0 rfl) ?_
  refine lv_ifnonnullN hx hb dX8_version_7 ?_
  refine lv_iconst (v := (-1)) hx hb dX8_version_10 (by decide) ?_
  exact m_iret hx hb hrt hlocks hB (Nat.le_refl _) (Nat.le_refl _) dX8_version_11 ⟨rfl, rfl, rfl, rfl⟩
set_option maxHeartbeats 1000000 in
set_option maxRecDepth 100000 in
theorem c_X_version_bad (l : Launch) (D : va_G) (ty : Nat → ClassId) (L : List Nat) (ad : Nat → Nat) (g : Nat → va_E) (pn qn : Nat) (nw : Int32) (tr : Int64) (pf : Nat → Option Nat) (i : Int32) (m_0 : 0 ∈ L) (m_6 : 6 ∈ L) (h_0 : g 0 = .inr (8, [.ref (ad 1), .ref (ad 3), .ref (ad 6), .int (nI pn), .ref (ad 7), .ref (ad 20), .ref (ad 22), .ref (ad 28), .int (nI qn), .ref (ad 29), .int nw, .long tr])) (h_6 : g 6 = .inl (ty 4, 8, .inr (.inr (.inr (.inr pf))))) (hi : ¬ (0 ≤ i.toInt ∧ i.toInt < 8)) : m_E l yX8_version wsX8_version 4 85 D ty [.ref (ad 0), .int i] L ad g (some (.int (-1))) g := by
  intro sz
  refine Met.ofW (cc := cX8_version) (maxL := 3) (ret := (some .int)) (by decide) rfl ?_
  intro p e s m args below meth c s₁ B hml hv
  have hx := B.exec
  have hb := B.bytes
  have hrt := B.returns
  have hts := atoms_spec (ws := wsX8_version) B.pre
  have hown : s.vm.findClass RX8 = some m.cls := findClass_of_methodNamed B.named
  have hlocks := B.notSynchronized
  obtain ⟨rfl, hB⟩ := m_start hv
  generalize va_A (m_w L ad g) sz = A at hB ⊢
  generalize s.heap = H at hB ⊢
  generalize ([] : List Loc) = locs at hB ⊢
  have hl := lv_entry ([.ref (ad 0), .int i]) (n := 3) (Nat.le_of_ble_eq_true rfl)
  rw [lg_entry_eq]
  generalize (lg_sl ([.ref (ad 0), .int i]) ++ List.replicate (3 - (lg_sl ([.ref (ad 0), .int i])).length) Slot.unset).toArray = ls at hl ⊢
  have hl : lv_has ls 3 [(0, .ref (ad 0)), (1, .int i)] := hl
  refine lv_aload_n hx hb dX8_version_0 rfl (lv_at hl 0 rfl) ?_
  refine lv_iload_n hx hb dX8_version_1 rfl (lv_at hl 1 rfl) ?_
  refine m_callVE (ci := 8) (As := [.int i]) (rest := []) (c_X_paperNumber_f l D ty L ad g pn qn nw tr pf i m_0 m_6 h_0 h_6 hi) ⟨hx, hb, hml, hown, hts⟩ (cwV 1 hts gX8_version_X8_paperNumber rfl rfl rfl (by decide +kernel) ⟨Nat.le_of_ble_eq_true rfl, Nat.le_of_ble_eq_true rfl⟩) hB m_0 h_0 rfl rfl hl.1 rfl (Nat.le_of_ble_eq_true rfl) dX8_version_2 ⟨Nat.le_of_ble_eq_true rfl, Nat.le_of_ble_eq_true rfl⟩ (fun H locs hB => ?_)
  refine lv_astore_nN (lv' := [(2, .null), (0, .ref (ad 0)), (1, .int i)]) hx hb dX8_version_5 rfl hl (by decide) rfl (fun ls hl => ?_)
  refine lv_aload_nN hx hb dX8_version_6 rfl (lv_at hl 0 rfl) ?_
  refine lv_ifnonnullN hx hb dX8_version_7 ?_
  refine lv_iconst (v := (-1)) hx hb dX8_version_10 (by decide) ?_
  exact m_iret hx hb hrt hlocks hB (Nat.le_refl _) (Nat.le_refl _) dX8_version_11 ⟨rfl, rfl, rfl, rfl⟩
set_option maxRecDepth 20000 in
theorem in_X8_version_X8 : ∀ w ∈ wsX80, w ∈ wsX8_version := by decide +kernel
set_option maxHeartbeats 1000000 in
set_option maxRecDepth 100000 in
theorem c_X_version0_s1 (l : Launch) (D : va_G) (ty : Nat → ClassId) (L : List Nat) (ad : Nat → Nat) (g : Nat → va_E) (pn qn : Nat) (nw : Int32) (tr : Int64) (pf : Nat → Option Nat) (pp pt vn : Nat) (fo wd : Int32) (lg : Int32) (k dn : Nat) (m_0 : 0 ∈ L) (m_1 : 1 ∈ L) (m_6 : 6 ∈ L) (m_pp : pp ∈ L) (h_0 : g 0 = .inr (8, [.ref (ad 1), .ref (ad 3), .ref (ad 6), .int (nI pn), .ref (ad 7), .ref (ad 20), .ref (ad 22), .ref (ad 28), .int (nI qn), .ref (ad 29), .int nw, .long tr])) (h_1 : g 1 = .inr (5, [.ref (ad 2), .int (nI dn)])) (h_6 : g 6 = .inl (ty 4, 8, .inr (.inr (.inr (.inr pf))))) (h_pp : g pp = .inr (0, [.int fo, .ref (ad pt), .int (nI vn), .int wd, .int lg])) (hk : k < 8) (hpp : pf k = some (ad pp)) (hd : dn = 0) : m_E l yX8_version wsX8_version 4 85 D ty [.ref (ad 0), .int (nI k)] L ad g (some (.int (-2))) g := by
  intro sz
  refine Met.ofW (cc := cX8_version) (maxL := 3) (ret := (some .int)) (by decide) rfl ?_
  intro p e s m args below meth c s₁ B hml hv
  have hx := B.exec
  have hb := B.bytes
  have hrt := B.returns
  have hts := atoms_spec (ws := wsX8_version) B.pre
  have hown : s.vm.findClass RX8 = some m.cls := findClass_of_methodNamed B.named
  have hlocks := B.notSynchronized
  obtain ⟨rfl, hB⟩ := m_start hv
  generalize va_A (m_w L ad g) sz = A at hB ⊢
  generalize s.heap = H at hB ⊢
  generalize ([] : List Loc) = locs at hB ⊢
  have hl := lv_entry ([.ref (ad 0), .int (nI k)]) (n := 3) (Nat.le_of_ble_eq_true rfl)
  rw [lg_entry_eq]
  generalize (lg_sl ([.ref (ad 0), .int (nI k)]) ++ List.replicate (3 - (lg_sl ([.ref (ad 0), .int (nI k)])).length) Slot.unset).toArray = ls at hl ⊢
  have hl : lv_has ls 3 [(0, .ref (ad 0)), (1, .int (nI k))] := hl
  refine lv_aload_n hx hb dX8_version_0 rfl (lv_at hl 0 rfl) ?_
  refine lv_iload_n hx hb dX8_version_1 rfl (lv_at hl 1 rfl) ?_
  refine m_callVE (ci := 8) (As := [.int (nI k)]) (rest := []) ((by have h9 := c_X_paperNumber_t l D ty L ad g pn qn nw tr pf k m_0 m_6 h_0 h_6 hk; rw [hpp] at h9; exact h9 : m_E l yX8_paperNumber wsX8_paperNumber 1 21 D ty [.ref (ad 0), .int (nI k)] L ad g (some (.ref (ad pp))) g)) ⟨hx, hb, hml, hown, hts⟩ (cwV 1 hts gX8_version_X8_paperNumber rfl rfl rfl (by decide +kernel) ⟨Nat.le_of_ble_eq_true rfl, Nat.le_of_ble_eq_true rfl⟩) hB m_0 h_0 rfl rfl hl.1 rfl (Nat.le_of_ble_eq_true rfl) dX8_version_2 ⟨Nat.le_of_ble_eq_true rfl, Nat.le_of_ble_eq_true rfl⟩ (fun H locs hB => ?_)
  refine lv_astore_n (lv' := [(2, .ref (ad pp)), (0, .ref (ad 0)), (1, .int (nI k))]) hx hb dX8_version_5 rfl hl (by decide) rfl (fun ls hl => ?_)
  refine lv_aload_n hx hb dX8_version_6 rfl (lv_at hl 0 rfl) ?_
  refine lv_ifnonnull (tgt := 12) hx hb dX8_version_7 (by decide) ?_
  refine lv_aload_n hx hb dX8_version_12 rfl (lv_at hl 1 rfl) ?_
  refine m_get (C := RX8) (T := TX8) (N := 12) (ci := 8) hx hb hts in_X8_version_X8 hown hB m_0 h_0 rfl 0 (by decide) (hts (.fieldLink RX8 14 "PaperRoom" "draft" "LPaperRoom$Row;") (by decide +kernel)) (fun _ h9 => h9) rfl dX8_version_13 ?_
  refine m_callVE (ci := 5) (As := []) (rest := []) (c_Row_length l D ty L ad g 1 2 dn m_1 h_1) ⟨hx, hb, hml, hown, hts⟩ (cwV 0 hts gX8_version_X5_length rfl rfl rfl (by decide +kernel) ⟨Nat.le_of_ble_eq_true rfl, Nat.le_of_ble_eq_true rfl⟩) hB m_1 h_1 rfl rfl hl.1 rfl (Nat.le_of_ble_eq_true rfl) dX8_version_16 ⟨Nat.le_of_ble_eq_true rfl, Nat.le_of_ble_eq_true rfl⟩ (fun H locs hB => ?_)
  refine b_if_eq_t 29 hx hb dX8_version_19 (by decide) (by rw [hd]; decide) ?_
  refine lv_bipush (v := (-2)) hx hb dX8_version_29 (by decide) ?_
  exact m_iret hx hb hrt hlocks hB (Nat.le_refl _) (Nat.le_refl _) dX8_version_31 ⟨rfl, rfl, rfl, rfl⟩
set_option maxHeartbeats 1000000 in
set_option maxRecDepth 100000 in
theorem c_X_version0_s2 (l : Launch) (D : va_G) (ty : Nat → ClassId) (L : List Nat) (ad : Nat → Nat) (g : Nat → va_E) (pn qn : Nat) (nw : Int32) (tr : Int64) (pf : Nat → Option Nat) (pp pt vn : Nat) (fo wd : Int32) (lg : Int32) (k dn : Nat) (m_0 : 0 ∈ L) (m_1 : 1 ∈ L) (m_6 : 6 ∈ L) (m_pp : pp ∈ L) (h_0 : g 0 = .inr (8, [.ref (ad 1), .ref (ad 3), .ref (ad 6), .int (nI pn), .ref (ad 7), .ref (ad 20), .ref (ad 22), .ref (ad 28), .int (nI qn), .ref (ad 29), .int nw, .long tr])) (h_1 : g 1 = .inr (5, [.ref (ad 2), .int (nI dn)])) (h_6 : g 6 = .inl (ty 4, 8, .inr (.inr (.inr (.inr pf))))) (h_pp : g pp = .inr (0, [.int fo, .ref (ad pt), .int (nI vn), .int wd, .int lg])) (hk : k < 8) (hpp : pf k = some (ad pp)) (hd : 0 < dn) (hdn : dn ≤ 40) (hwd : wd = 1) : m_E l yX8_version wsX8_version 4 85 D ty [.ref (ad 0), .int (nI k)] L ad g (some (.int (-2))) g := by
  intro sz
  refine Met.ofW (cc := cX8_version) (maxL := 3) (ret := (some .int)) (by decide) rfl ?_
  intro p e s m args below meth c s₁ B hml hv
  have hx := B.exec
  have hb := B.bytes
  have hrt := B.returns
  have hts := atoms_spec (ws := wsX8_version) B.pre
  have hown : s.vm.findClass RX8 = some m.cls := findClass_of_methodNamed B.named
  have hlocks := B.notSynchronized
  obtain ⟨rfl, hB⟩ := m_start hv
  generalize va_A (m_w L ad g) sz = A at hB ⊢
  generalize s.heap = H at hB ⊢
  generalize ([] : List Loc) = locs at hB ⊢
  have hl := lv_entry ([.ref (ad 0), .int (nI k)]) (n := 3) (Nat.le_of_ble_eq_true rfl)
  rw [lg_entry_eq]
  generalize (lg_sl ([.ref (ad 0), .int (nI k)]) ++ List.replicate (3 - (lg_sl ([.ref (ad 0), .int (nI k)])).length) Slot.unset).toArray = ls at hl ⊢
  have hl : lv_has ls 3 [(0, .ref (ad 0)), (1, .int (nI k))] := hl
  refine lv_aload_n hx hb dX8_version_0 rfl (lv_at hl 0 rfl) ?_
  refine lv_iload_n hx hb dX8_version_1 rfl (lv_at hl 1 rfl) ?_
  refine m_callVE (ci := 8) (As := [.int (nI k)]) (rest := []) ((by have h9 := c_X_paperNumber_t l D ty L ad g pn qn nw tr pf k m_0 m_6 h_0 h_6 hk; rw [hpp] at h9; exact h9 : m_E l yX8_paperNumber wsX8_paperNumber 1 21 D ty [.ref (ad 0), .int (nI k)] L ad g (some (.ref (ad pp))) g)) ⟨hx, hb, hml, hown, hts⟩ (cwV 1 hts gX8_version_X8_paperNumber rfl rfl rfl (by decide +kernel) ⟨Nat.le_of_ble_eq_true rfl, Nat.le_of_ble_eq_true rfl⟩) hB m_0 h_0 rfl rfl hl.1 rfl (Nat.le_of_ble_eq_true rfl) dX8_version_2 ⟨Nat.le_of_ble_eq_true rfl, Nat.le_of_ble_eq_true rfl⟩ (fun H locs hB => ?_)
  refine lv_astore_n (lv' := [(2, .ref (ad pp)), (0, .ref (ad 0)), (1, .int (nI k))]) hx hb dX8_version_5 rfl hl (by decide) rfl (fun ls hl => ?_)
  refine lv_aload_n hx hb dX8_version_6 rfl (lv_at hl 0 rfl) ?_
  refine lv_ifnonnull (tgt := 12) hx hb dX8_version_7 (by decide) ?_
  refine lv_aload_n hx hb dX8_version_12 rfl (lv_at hl 1 rfl) ?_
  refine m_get (C := RX8) (T := TX8) (N := 12) (ci := 8) hx hb hts in_X8_version_X8 hown hB m_0 h_0 rfl 0 (by decide) (hts (.fieldLink RX8 14 "PaperRoom" "draft" "LPaperRoom$Row;") (by decide +kernel)) (fun _ h9 => h9) rfl dX8_version_13 ?_
  refine m_callVE (ci := 5) (As := []) (rest := []) (c_Row_length l D ty L ad g 1 2 dn m_1 h_1) ⟨hx, hb, hml, hown, hts⟩ (cwV 0 hts gX8_version_X5_length rfl rfl rfl (by decide +kernel) ⟨Nat.le_of_ble_eq_true rfl, Nat.le_of_ble_eq_true rfl⟩) hB m_1 h_1 rfl rfl hl.1 rfl (Nat.le_of_ble_eq_true rfl) dX8_version_16 ⟨Nat.le_of_ble_eq_true rfl, Nat.le_of_ble_eq_true rfl⟩ (fun H locs hB => ?_)
  refine b_if_eq_f 29 hx hb dX8_version_19 (by decide) (by rw [nI_toInt (by omega)]; omega) ?_
  refine lv_aload_n hx hb dX8_version_22 rfl (lv_at hl 0 rfl) ?_
  refine m_callUE (ci := 0) (As := []) (rest := []) (c_Held_isWithdrawn l D ty L ad g pp pt vn fo wd lg m_pp h_pp (by rw [hwd]; decide)) ⟨hx, hb, hml, hown, hts⟩ (va_cwU 0 hts gX8_version_X2_isWithdrawn_u96X0 rfl rfl rfl rfl (by decide +kernel) ⟨Nat.le_of_ble_eq_true rfl, Nat.le_of_ble_eq_true rfl⟩) hB m_pp h_pp rfl rfl hl.1 rfl (Nat.le_of_ble_eq_true rfl) dX8_version_23 ⟨Nat.le_of_ble_eq_true rfl, Nat.le_of_ble_eq_true rfl⟩ (fun H locs hB => ?_)
  refine b_if_eq_f 32 hx hb dX8_version_26 (by decide) (by rw [hwd]; decide) ?_
  refine lv_bipush (v := (-2)) hx hb dX8_version_29 (by decide) ?_
  exact m_iret hx hb hrt hlocks hB (Nat.le_refl _) (Nat.le_refl _) dX8_version_31 ⟨rfl, rfl, rfl, rfl⟩
set_option maxHeartbeats 1000000 in
set_option maxRecDepth 100000 in
theorem c_X_version0_full (l : Launch) (D : va_G) (ty : Nat → ClassId) (L : List Nat) (ad : Nat → Nat) (g : Nat → va_E) (pn qn : Nat) (nw : Int32) (tr : Int64) (pf : Nat → Option Nat) (pp pt vn : Nat) (fo wd : Int32) (lg : Int32) (k dn : Nat) (tf : Nat → Option Nat) (m_0 : 0 ∈ L) (m_1 : 1 ∈ L) (m_6 : 6 ∈ L) (m_pp : pp ∈ L) (m_pt : pt ∈ L) (h_0 : g 0 = .inr (8, [.ref (ad 1), .ref (ad 3), .ref (ad 6), .int (nI pn), .ref (ad 7), .ref (ad 20), .ref (ad 22), .ref (ad 28), .int (nI qn), .ref (ad 29), .int nw, .long tr])) (h_1 : g 1 = .inr (5, [.ref (ad 2), .int (nI dn)])) (h_6 : g 6 = .inl (ty 4, 8, .inr (.inr (.inr (.inr pf))))) (h_pp : g pp = .inr (0, [.int fo, .ref (ad pt), .int (nI vn), .int wd, .int lg])) (h_pt : g pt = .inl (ty 7, 4, .inr (.inr (.inr (.inr tf))))) (hk : k < 8) (hpp : pf k = some (ad pp)) (hd : 0 < dn) (hdn : dn ≤ 40) (hwd : wd = 0) (hvn : vn = 4) : m_E l yX8_version wsX8_version 4 85 D ty [.ref (ad 0), .int (nI k)] L ad g (some (.int (-3))) g := by
  intro sz
  refine Met.ofW (cc := cX8_version) (maxL := 3) (ret := (some .int)) (by decide) rfl ?_
  intro p e s m args below meth c s₁ B hml hv
  have hx := B.exec
  have hb := B.bytes
  have hrt := B.returns
  have hts := atoms_spec (ws := wsX8_version) B.pre
  have hown : s.vm.findClass RX8 = some m.cls := findClass_of_methodNamed B.named
  have hlocks := B.notSynchronized
  obtain ⟨rfl, hB⟩ := m_start hv
  generalize va_A (m_w L ad g) sz = A at hB ⊢
  generalize s.heap = H at hB ⊢
  generalize ([] : List Loc) = locs at hB ⊢
  have hl := lv_entry ([.ref (ad 0), .int (nI k)]) (n := 3) (Nat.le_of_ble_eq_true rfl)
  rw [lg_entry_eq]
  generalize (lg_sl ([.ref (ad 0), .int (nI k)]) ++ List.replicate (3 - (lg_sl ([.ref (ad 0), .int (nI k)])).length) Slot.unset).toArray = ls at hl ⊢
  have hl : lv_has ls 3 [(0, .ref (ad 0)), (1, .int (nI k))] := hl
  refine lv_aload_n hx hb dX8_version_0 rfl (lv_at hl 0 rfl) ?_
  refine lv_iload_n hx hb dX8_version_1 rfl (lv_at hl 1 rfl) ?_
  refine m_callVE (ci := 8) (As := [.int (nI k)]) (rest := []) ((by have h9 := c_X_paperNumber_t l D ty L ad g pn qn nw tr pf k m_0 m_6 h_0 h_6 hk; rw [hpp] at h9; exact h9 : m_E l yX8_paperNumber wsX8_paperNumber 1 21 D ty [.ref (ad 0), .int (nI k)] L ad g (some (.ref (ad pp))) g)) ⟨hx, hb, hml, hown, hts⟩ (cwV 1 hts gX8_version_X8_paperNumber rfl rfl rfl (by decide +kernel) ⟨Nat.le_of_ble_eq_true rfl, Nat.le_of_ble_eq_true rfl⟩) hB m_0 h_0 rfl rfl hl.1 rfl (Nat.le_of_ble_eq_true rfl) dX8_version_2 ⟨Nat.le_of_ble_eq_true rfl, Nat.le_of_ble_eq_true rfl⟩ (fun H locs hB => ?_)
  refine lv_astore_n (lv' := [(2, .ref (ad pp)), (0, .ref (ad 0)), (1, .int (nI k))]) hx hb dX8_version_5 rfl hl (by decide) rfl (fun ls hl => ?_)
  refine lv_aload_n hx hb dX8_version_6 rfl (lv_at hl 0 rfl) ?_
  refine lv_ifnonnull (tgt := 12) hx hb dX8_version_7 (by decide) ?_
  refine lv_aload_n hx hb dX8_version_12 rfl (lv_at hl 1 rfl) ?_
  refine m_get (C := RX8) (T := TX8) (N := 12) (ci := 8) hx hb hts in_X8_version_X8 hown hB m_0 h_0 rfl 0 (by decide) (hts (.fieldLink RX8 14 "PaperRoom" "draft" "LPaperRoom$Row;") (by decide +kernel)) (fun _ h9 => h9) rfl dX8_version_13 ?_
  refine m_callVE (ci := 5) (As := []) (rest := []) (c_Row_length l D ty L ad g 1 2 dn m_1 h_1) ⟨hx, hb, hml, hown, hts⟩ (cwV 0 hts gX8_version_X5_length rfl rfl rfl (by decide +kernel) ⟨Nat.le_of_ble_eq_true rfl, Nat.le_of_ble_eq_true rfl⟩) hB m_1 h_1 rfl rfl hl.1 rfl (Nat.le_of_ble_eq_true rfl) dX8_version_16 ⟨Nat.le_of_ble_eq_true rfl, Nat.le_of_ble_eq_true rfl⟩ (fun H locs hB => ?_)
  refine b_if_eq_f 29 hx hb dX8_version_19 (by decide) (by rw [nI_toInt (by omega)]; omega) ?_
  refine lv_aload_n hx hb dX8_version_22 rfl (lv_at hl 0 rfl) ?_
  refine m_callUE (ci := 0) (As := []) (rest := []) (c_Held_isWithdrawn l D ty L ad g pp pt vn fo wd lg m_pp h_pp (by rw [hwd]; decide)) ⟨hx, hb, hml, hown, hts⟩ (va_cwU 0 hts gX8_version_X2_isWithdrawn_u96X0 rfl rfl rfl rfl (by decide +kernel) ⟨Nat.le_of_ble_eq_true rfl, Nat.le_of_ble_eq_true rfl⟩) hB m_pp h_pp rfl rfl hl.1 rfl (Nat.le_of_ble_eq_true rfl) dX8_version_23 ⟨Nat.le_of_ble_eq_true rfl, Nat.le_of_ble_eq_true rfl⟩ (fun H locs hB => ?_)
  refine b_if_eq_t 32 hx hb dX8_version_26 (by decide) (by rw [hwd]; decide) ?_
  refine lv_aload_n hx hb dX8_version_32 rfl (lv_at hl 0 rfl) ?_
  refine m_callUE (ci := 0) (As := []) (rest := []) (c_Held_isFull l D ty L ad g pp pt vn fo wd lg tf m_pp m_pt h_pp h_pt (by omega)) ⟨hx, hb, hml, hown, hts⟩ (va_cwU 0 hts gX8_version_X2_isFull_u100X0 rfl rfl rfl rfl (by decide +kernel) ⟨Nat.le_of_ble_eq_true rfl, Nat.le_of_ble_eq_true rfl⟩) hB m_pp h_pp rfl rfl hl.1 rfl (Nat.le_of_ble_eq_true rfl) dX8_version_33 ⟨Nat.le_of_ble_eq_true rfl, Nat.le_of_ble_eq_true rfl⟩ (fun H locs hB => ?_)
  refine b_if_eq_f 42 hx hb dX8_version_36 (by decide) (by rw [dt hvn]; decide) ?_
  refine lv_bipush (v := (-3)) hx hb dX8_version_39 (by decide) ?_
  exact m_iret hx hb hrt hlocks hB (Nat.le_refl _) (Nat.le_refl _) dX8_version_41 ⟨rfl, rfl, rfl, rfl⟩
set_option maxHeartbeats 1000000 in
set_option maxRecDepth 100000 in
theorem c_X_version0_ok (l : Launch) (D : va_G) (ty : Nat → ClassId) (L : List Nat) (ad : Nat → Nat) (g : Nat → va_E) (pn qn : Nat) (nw : Int32) (tr : Int64) (pf : Nat → Option Nat) (pp pt vn : Nat) (fo wd : Int32) (lg : Int32) (k dn : Nat) (tf : Nat → Option Nat) (t ro a bl : Nat) (db : Nat → Int32) (hL0 : ∀ r, r < 30 → r ∈ L) (m_pp : pp ∈ L) (m_pt : pt ∈ L) (h_0 : g 0 = .inr (8, [.ref (ad 1), .ref (ad 3), .ref (ad 6), .int (nI pn), .ref (ad 7), .ref (ad 20), .ref (ad 22), .ref (ad 28), .int (nI qn), .ref (ad 29), .int nw, .long tr])) (h_1 : g 1 = .inr (5, [.ref (ad 2), .int (nI dn)])) (h_2 : g 2 = .inl (ty 2, 40, .inl db)) (h_6 : g 6 = .inl (ty 4, 8, .inr (.inr (.inr (.inr pf))))) (h_pp : g pp = .inr (0, [.int fo, .ref (ad pt), .int (nI vn), .int wd, .int lg])) (h_pt : g pt = .inl (ty 7, 4, .inr (.inr (.inr (.inr tf))))) (hk : k < 8) (hpp : pf k = some (ad pp)) (hd : 0 < dn) (hdn : dn ≤ 40) (hwd : wd = 0) (hv4 : vn < 4) (h30 : 30 ≤ pp) (h31 : 30 ≤ pt) (ne_pp_pt : pp ≠ pt) (n_t : t ∉ L) (n_ro : ro ∉ L) (n_a : a ∉ L) (n_bl : bl ∉ L) (h8 : ∀ k, k < dn → (db k).toInt8.toInt32 = db k) (ne_t_ro : t ≠ ro) (ne_t_a : t ≠ a) (ne_t_bl : t ≠ bl) (ne_ro_a : ro ≠ a) (ne_ro_bl : ro ≠ bl) (ne_a_bl : a ≠ bl) (hb_t : 30 ≤ t) (hb_ro : 30 ≤ ro) (hb_a : 30 ≤ a) (hb_bl : 30 ≤ bl) : m_C l yX8_version wsX8_version 4 85 4 124 D ty [.ref (ad 0), .int (nI k)] L ad g (fun v1 L1 ad1 g1 => v1 = some (.int (nI vn)) ∧ L1 = ((((L ++ [t]) ++ [ro]) ++ [a]) ++ [bl]) ∧ (∀ x ∈ L, ad x = ad1 x) ∧ (∀ x ∈ L, x ≠ 1 → x ≠ pt → x ≠ pp → g1 x = g x) ∧ g1 1 = .inr (5, [.ref (ad1 2), .int 0]) ∧ g1 t = .inr (7, [.ref (ad1 ro), .ref (ad1 bl)]) ∧ g1 ro = .inr (5, [.ref (ad1 a), .int (nI dn)]) ∧ g1 a = .inl (ty 2, dn, .inl (cpf db dn)) ∧ g1 bl = .inl (ty 3, dn, .inl (fun _ => 0)) ∧ g1 pt = .inl (ty 7, 4, .inr (.inr (.inr (.inr (va_up tf vn (some (ad1 t))))))) ∧ g1 pp = .inr (0, [.int fo, .ref (ad1 pt), .int (nI (vn + 1)), .int wd, .int lg])) := by
  intro sz
  refine Met.ofW (cc := cX8_version) (maxL := 3) (ret := (some .int)) (by decide) rfl ?_
  intro p e s m args below meth c s₁ B hml hv
  have hx := B.exec
  have hb := B.bytes
  have hrt := B.returns
  have hts := atoms_spec (ws := wsX8_version) B.pre
  have hown : s.vm.findClass RX8 = some m.cls := findClass_of_methodNamed B.named
  have hlocks := B.notSynchronized
  obtain ⟨rfl, hB⟩ := m_start hv
  generalize va_A (m_w L ad g) sz = A at hB ⊢
  generalize s.heap = H at hB ⊢
  generalize ([] : List Loc) = locs at hB ⊢
  have hl := lv_entry ([.ref (ad 0), .int (nI k)]) (n := 3) (Nat.le_of_ble_eq_true rfl)
  rw [lg_entry_eq]
  generalize (lg_sl ([.ref (ad 0), .int (nI k)]) ++ List.replicate (3 - (lg_sl ([.ref (ad 0), .int (nI k)])).length) Slot.unset).toArray = ls at hl ⊢
  have hl : lv_has ls 3 [(0, .ref (ad 0)), (1, .int (nI k))] := hl
  have ne_pp_t : pp ≠ t := fun e9 => n_t (by rw [← e9]; exact m_pp)
  have ne_pt_t : pt ≠ t := fun e9 => n_t (by rw [← e9]; exact m_pt)
  have ne_pp_ro : pp ≠ ro := fun e9 => n_ro (by rw [← e9]; exact m_pp)
  have ne_pt_ro : pt ≠ ro := fun e9 => n_ro (by rw [← e9]; exact m_pt)
  have ne_pp_a : pp ≠ a := fun e9 => n_a (by rw [← e9]; exact m_pp)
  have ne_pt_a : pt ≠ a := fun e9 => n_a (by rw [← e9]; exact m_pt)
  have ne_pp_bl : pp ≠ bl := fun e9 => n_bl (by rw [← e9]; exact m_pp)
  have ne_pt_bl : pt ≠ bl := fun e9 => n_bl (by rw [← e9]; exact m_pt)
  refine lv_aload_n hx hb dX8_version_0 rfl (lv_at hl 0 rfl) ?_
  refine lv_iload_n hx hb dX8_version_1 rfl (lv_at hl 1 rfl) ?_
  refine m_callVE (ci := 8) (As := [.int (nI k)]) (rest := []) ((by have h9 := c_X_paperNumber_t l D ty L ad g pn qn nw tr pf k (hL0 0 (by decide)) (hL0 6 (by decide)) h_0 h_6 hk; rw [hpp] at h9; exact h9 : m_E l yX8_paperNumber wsX8_paperNumber 1 21 D ty [.ref (ad 0), .int (nI k)] L ad g (some (.ref (ad pp))) g)) ⟨hx, hb, hml, hown, hts⟩ (cwV 1 hts gX8_version_X8_paperNumber rfl rfl rfl (by decide +kernel) ⟨Nat.le_of_ble_eq_true rfl, Nat.le_of_ble_eq_true rfl⟩) hB (hL0 0 (by decide)) h_0 rfl rfl hl.1 rfl (Nat.le_of_ble_eq_true rfl) dX8_version_2 ⟨Nat.le_of_ble_eq_true rfl, Nat.le_of_ble_eq_true rfl⟩ (fun H locs hB => ?_)
  refine lv_astore_n (lv' := [(2, .ref (ad pp)), (0, .ref (ad 0)), (1, .int (nI k))]) hx hb dX8_version_5 rfl hl (by decide) rfl (fun ls hl => ?_)
  refine lv_aload_n hx hb dX8_version_6 rfl (lv_at hl 0 rfl) ?_
  refine lv_ifnonnull (tgt := 12) hx hb dX8_version_7 (by decide) ?_
  refine lv_aload_n hx hb dX8_version_12 rfl (lv_at hl 1 rfl) ?_
  refine m_get (C := RX8) (T := TX8) (N := 12) (ci := 8) hx hb hts in_X8_version_X8 hown hB (hL0 0 (by decide)) h_0 rfl 0 (by decide) (hts (.fieldLink RX8 14 "PaperRoom" "draft" "LPaperRoom$Row;") (by decide +kernel)) (fun _ h9 => h9) rfl dX8_version_13 ?_
  refine m_callVE (ci := 5) (As := []) (rest := []) (c_Row_length l D ty L ad g 1 2 dn (hL0 1 (by decide)) h_1) ⟨hx, hb, hml, hown, hts⟩ (cwV 0 hts gX8_version_X5_length rfl rfl rfl (by decide +kernel) ⟨Nat.le_of_ble_eq_true rfl, Nat.le_of_ble_eq_true rfl⟩) hB (hL0 1 (by decide)) h_1 rfl rfl hl.1 rfl (Nat.le_of_ble_eq_true rfl) dX8_version_16 ⟨Nat.le_of_ble_eq_true rfl, Nat.le_of_ble_eq_true rfl⟩ (fun H locs hB => ?_)
  refine b_if_eq_f 29 hx hb dX8_version_19 (by decide) (by rw [nI_toInt (by omega)]; omega) ?_
  refine lv_aload_n hx hb dX8_version_22 rfl (lv_at hl 0 rfl) ?_
  refine m_callUE (ci := 0) (As := []) (rest := []) (c_Held_isWithdrawn l D ty L ad g pp pt vn fo wd lg m_pp h_pp (by rw [hwd]; decide)) ⟨hx, hb, hml, hown, hts⟩ (va_cwU 0 hts gX8_version_X2_isWithdrawn_u96X0 rfl rfl rfl rfl (by decide +kernel) ⟨Nat.le_of_ble_eq_true rfl, Nat.le_of_ble_eq_true rfl⟩) hB m_pp h_pp rfl rfl hl.1 rfl (Nat.le_of_ble_eq_true rfl) dX8_version_23 ⟨Nat.le_of_ble_eq_true rfl, Nat.le_of_ble_eq_true rfl⟩ (fun H locs hB => ?_)
  refine b_if_eq_t 32 hx hb dX8_version_26 (by decide) (by rw [hwd]; decide) ?_
  refine lv_aload_n hx hb dX8_version_32 rfl (lv_at hl 0 rfl) ?_
  refine m_callUE (ci := 0) (As := []) (rest := []) (c_Held_isFull l D ty L ad g pp pt vn fo wd lg tf m_pp m_pt h_pp h_pt (by omega)) ⟨hx, hb, hml, hown, hts⟩ (va_cwU 0 hts gX8_version_X2_isFull_u100X0 rfl rfl rfl rfl (by decide +kernel) ⟨Nat.le_of_ble_eq_true rfl, Nat.le_of_ble_eq_true rfl⟩) hB m_pp h_pp rfl rfl hl.1 rfl (Nat.le_of_ble_eq_true rfl) dX8_version_33 ⟨Nat.le_of_ble_eq_true rfl, Nat.le_of_ble_eq_true rfl⟩ (fun H locs hB => ?_)
  refine b_if_eq_t 42 hx hb dX8_version_36 (by decide) (by rw [df (by omega)]; decide) ?_
  refine lv_aload_n hx hb dX8_version_42 rfl (lv_at hl 0 rfl) ?_
  refine lv_aload_n hx hb dX8_version_43 rfl (lv_at hl 1 rfl) ?_
  refine m_callV (ci := 8) (As := []) (rest := [.ref (ad pp)]) (c_X_takeDraft l D ty L ad _ pn qn nw tr dn t ro a bl db hL0 h_0 h_1 h_2 n_t n_ro n_a n_bl hdn h8 ne_t_ro ne_t_a ne_t_bl ne_ro_a ne_ro_bl ne_a_bl hb_t hb_ro hb_a hb_bl) ⟨hx, hb, hml, hown, hts⟩ (cwV 0 hts gX8_version_X8_takeDraft rfl rfl rfl (by decide +kernel) ⟨Nat.le_of_ble_eq_true rfl, Nat.le_of_ble_eq_true rfl⟩) hB (hL0 0 (by decide)) h_0 rfl rfl hl.1 rfl (Nat.le_of_ble_eq_true rfl) dX8_version_44 ⟨Nat.le_of_ble_eq_true rfl, Nat.le_of_ble_eq_true rfl⟩ (fun v144 L144 ad_144 g144 H locs hp144 hB => ?_)
  obtain ⟨q1_144, q2_144, had_144, hfr_144, hf144_0, hf144_1, hf144_2, hf144_3, hf144_4⟩ := hp144
  subst q2_144
  have e144_0 : ad 0 = ad_144 0 := had_144 0 (hL0 0 (by decide))
  have e144_1 : ad 1 = ad_144 1 := had_144 1 (hL0 1 (by decide))
  have e144_2 : ad 2 = ad_144 2 := had_144 2 (hL0 2 (by decide))
  have e144_20 : ad 20 = ad_144 20 := had_144 20 (hL0 20 (by decide))
  have e144_22 : ad 22 = ad_144 22 := had_144 22 (hL0 22 (by decide))
  have e144_28 : ad 28 = ad_144 28 := had_144 28 (hL0 28 (by decide))
  have e144_29 : ad 29 = ad_144 29 := had_144 29 (hL0 29 (by decide))
  have e144_3 : ad 3 = ad_144 3 := had_144 3 (hL0 3 (by decide))
  have e144_6 : ad 6 = ad_144 6 := had_144 6 (hL0 6 (by decide))
  have e144_7 : ad 7 = ad_144 7 := had_144 7 (hL0 7 (by decide))
  have e144_pp : ad pp = ad_144 pp := had_144 pp m_pp
  have e144_pt : ad pt = ad_144 pt := had_144 pt m_pt
  replace hl : lv_has ls 3 [(2, .ref (ad_144 pp)), (0, .ref (ad_144 0)), (1, .int (nI k))] := by rw [← e144_0, ← e144_pp]; exact hl
  have fa144_0 : g 0 = .inr (8, [.ref (ad_144 1), .ref (ad_144 3), .ref (ad_144 6), .int (nI pn), .ref (ad_144 7), .ref (ad_144 20), .ref (ad_144 22), .ref (ad_144 28), .int (nI qn), .ref (ad_144 29), .int nw, .long tr]) := by rw [← e144_1, ← e144_20, ← e144_22, ← e144_28, ← e144_29, ← e144_3, ← e144_6, ← e144_7]; exact h_0
  have fa144_1 : g 1 = .inr (5, [.ref (ad_144 2), .int (nI dn)]) := by rw [← e144_2]; exact h_1
  have fa144_pp : g pp = .inr (0, [.int fo, .ref (ad_144 pt), .int (nI vn), .int wd, .int lg]) := by rw [← e144_pt]; exact h_pp
  refine W.eq (g2 := F0 m 47 ls [.ref (ad_144 t), .ref (ad_144 pp)]) (by rw [q1_144]; (try rw [e144_pp]); rfl) ?_
  refine m_callUE (ci := 0) (As := [.ref (ad_144 t)]) (rest := []) (c_Held_addText l D ty ((((L ++ [t]) ++ [ro]) ++ [a]) ++ [bl]) ad_144 _ pp pt vn fo wd lg tf t ro bl (List.mem_append_left _ (List.mem_append_left _ (List.mem_append_left _ (List.mem_append_left _ m_pp)))) (List.mem_append_left _ (List.mem_append_left _ (List.mem_append_left _ (List.mem_append_left _ m_pt)))) (List.mem_append_left _ (List.mem_append_left _ (List.mem_append_left _ (List.mem_append_right _ List.mem_cons_self)))) ((hfr_144 pp m_pp (by omega)).trans fa144_pp) ((hfr_144 pt m_pt (by omega)).trans h_pt) hf144_1 hv4 ne_pp_pt (Ne.symm ne_pt_t) (Ne.symm ne_pp_t)) ⟨hx, hb, hml, hown, hts⟩ (va_cwU 1 hts gX8_version_X2_addText_u88X0 rfl rfl rfl rfl (by decide +kernel) ⟨Nat.le_of_ble_eq_true rfl, Nat.le_of_ble_eq_true rfl⟩) hB (List.mem_append_left _ (List.mem_append_left _ (List.mem_append_left _ (List.mem_append_left _ m_pp)))) ((hfr_144 pp m_pp (by omega)).trans fa144_pp) rfl rfl hl.1 rfl (Nat.le_of_ble_eq_true rfl) dX8_version_47 ⟨Nat.le_of_ble_eq_true rfl, Nat.le_of_ble_eq_true rfl⟩ (fun H locs hB => ?_)
  replace hB : m_B D ty A s ((((L ++ [t]) ++ [ro]) ++ [a]) ++ [bl]) ad_144 (va_up (va_up g144 pt (.inl (ty 7, 4, .inr (.inr (.inr (.inr (va_up tf vn (some (ad_144 t))))))))) pp (.inr (0, [.int fo, .ref (ad_144 pt), .int (nI (vn + 1)), .int wd, .int lg]))) H locs := hB
  exact m_iret hx hb hrt hlocks hB (Nat.le_refl _) (Nat.le_refl _) dX8_version_50 ⟨rfl, rfl, (fun x hx => had_144 x hx), (fun x hx hn_1 hn_pt hn_pp => ((va_up_ne _ _ hn_pp).trans ((va_up_ne _ _ hn_pt).trans ((hfr_144 x hx hn_1).trans rfl)))), ((va_up_ne _ _ (by omega)).trans ((va_up_ne _ _ (by omega)).trans hf144_0)), ((va_up_ne _ _ (Ne.symm ne_pp_t)).trans ((va_up_ne _ _ (Ne.symm ne_pt_t)).trans hf144_1)), ((va_up_ne _ _ (Ne.symm ne_pp_ro)).trans ((va_up_ne _ _ (Ne.symm ne_pt_ro)).trans hf144_2)), ((va_up_ne _ _ (Ne.symm ne_pp_a)).trans ((va_up_ne _ _ (Ne.symm ne_pt_a)).trans hf144_3)), ((va_up_ne _ _ (Ne.symm ne_pp_bl)).trans ((va_up_ne _ _ (Ne.symm ne_pt_bl)).trans hf144_4)), ((va_up_ne _ _ (Ne.symm ne_pp_pt)).trans (va_up_self _ _ _)), (va_up_self _ _ _)⟩
set_option maxHeartbeats 1000000 in
set_option maxRecDepth 100000 in
theorem c_X_version1_s1 (l : Launch) (D : va_G) (ty : Nat → ClassId) (L : List Nat) (ad : Nat → Nat) (g : Nat → va_E) (pn qn : Nat) (nw : Int32) (tr : Int64) (pf : Nat → Option Nat) (pp pt vn : Nat) (fo wd : Int32) (k dn : Nat) (m_0 : 0 ∈ L) (m_1 : 1 ∈ L) (m_6 : 6 ∈ L) (m_pp : pp ∈ L) (h_0 : g 0 = .inr (8, [.ref (ad 1), .ref (ad 3), .ref (ad 6), .int (nI pn), .ref (ad 7), .ref (ad 20), .ref (ad 22), .ref (ad 28), .int (nI qn), .ref (ad 29), .int nw, .long tr])) (h_1 : g 1 = .inr (5, [.ref (ad 2), .int (nI dn)])) (h_6 : g 6 = .inl (ty 4, 8, .inr (.inr (.inr (.inr pf))))) (h_pp : g pp = .inr (1, [.int fo, .ref (ad pt), .int (nI vn), .int wd])) (hk : k < 8) (hpp : pf k = some (ad pp)) (hd : dn = 0) : m_E l yX8_version wsX8_version 4 85 D ty [.ref (ad 0), .int (nI k)] L ad g (some (.int (-2))) g := by
  intro sz
  refine Met.ofW (cc := cX8_version) (maxL := 3) (ret := (some .int)) (by decide) rfl ?_
  intro p e s m args below meth c s₁ B hml hv
  have hx := B.exec
  have hb := B.bytes
  have hrt := B.returns
  have hts := atoms_spec (ws := wsX8_version) B.pre
  have hown : s.vm.findClass RX8 = some m.cls := findClass_of_methodNamed B.named
  have hlocks := B.notSynchronized
  obtain ⟨rfl, hB⟩ := m_start hv
  generalize va_A (m_w L ad g) sz = A at hB ⊢
  generalize s.heap = H at hB ⊢
  generalize ([] : List Loc) = locs at hB ⊢
  have hl := lv_entry ([.ref (ad 0), .int (nI k)]) (n := 3) (Nat.le_of_ble_eq_true rfl)
  rw [lg_entry_eq]
  generalize (lg_sl ([.ref (ad 0), .int (nI k)]) ++ List.replicate (3 - (lg_sl ([.ref (ad 0), .int (nI k)])).length) Slot.unset).toArray = ls at hl ⊢
  have hl : lv_has ls 3 [(0, .ref (ad 0)), (1, .int (nI k))] := hl
  refine lv_aload_n hx hb dX8_version_0 rfl (lv_at hl 0 rfl) ?_
  refine lv_iload_n hx hb dX8_version_1 rfl (lv_at hl 1 rfl) ?_
  refine m_callVE (ci := 8) (As := [.int (nI k)]) (rest := []) ((by have h9 := c_X_paperNumber_t l D ty L ad g pn qn nw tr pf k m_0 m_6 h_0 h_6 hk; rw [hpp] at h9; exact h9 : m_E l yX8_paperNumber wsX8_paperNumber 1 21 D ty [.ref (ad 0), .int (nI k)] L ad g (some (.ref (ad pp))) g)) ⟨hx, hb, hml, hown, hts⟩ (cwV 1 hts gX8_version_X8_paperNumber rfl rfl rfl (by decide +kernel) ⟨Nat.le_of_ble_eq_true rfl, Nat.le_of_ble_eq_true rfl⟩) hB m_0 h_0 rfl rfl hl.1 rfl (Nat.le_of_ble_eq_true rfl) dX8_version_2 ⟨Nat.le_of_ble_eq_true rfl, Nat.le_of_ble_eq_true rfl⟩ (fun H locs hB => ?_)
  refine lv_astore_n (lv' := [(2, .ref (ad pp)), (0, .ref (ad 0)), (1, .int (nI k))]) hx hb dX8_version_5 rfl hl (by decide) rfl (fun ls hl => ?_)
  refine lv_aload_n hx hb dX8_version_6 rfl (lv_at hl 0 rfl) ?_
  refine lv_ifnonnull (tgt := 12) hx hb dX8_version_7 (by decide) ?_
  refine lv_aload_n hx hb dX8_version_12 rfl (lv_at hl 1 rfl) ?_
  refine m_get (C := RX8) (T := TX8) (N := 12) (ci := 8) hx hb hts in_X8_version_X8 hown hB m_0 h_0 rfl 0 (by decide) (hts (.fieldLink RX8 14 "PaperRoom" "draft" "LPaperRoom$Row;") (by decide +kernel)) (fun _ h9 => h9) rfl dX8_version_13 ?_
  refine m_callVE (ci := 5) (As := []) (rest := []) (c_Row_length l D ty L ad g 1 2 dn m_1 h_1) ⟨hx, hb, hml, hown, hts⟩ (cwV 0 hts gX8_version_X5_length rfl rfl rfl (by decide +kernel) ⟨Nat.le_of_ble_eq_true rfl, Nat.le_of_ble_eq_true rfl⟩) hB m_1 h_1 rfl rfl hl.1 rfl (Nat.le_of_ble_eq_true rfl) dX8_version_16 ⟨Nat.le_of_ble_eq_true rfl, Nat.le_of_ble_eq_true rfl⟩ (fun H locs hB => ?_)
  refine b_if_eq_t 29 hx hb dX8_version_19 (by decide) (by rw [hd]; decide) ?_
  refine lv_bipush (v := (-2)) hx hb dX8_version_29 (by decide) ?_
  exact m_iret hx hb hrt hlocks hB (Nat.le_refl _) (Nat.le_refl _) dX8_version_31 ⟨rfl, rfl, rfl, rfl⟩
set_option maxHeartbeats 1000000 in
set_option maxRecDepth 100000 in
theorem c_X_version1_s2 (l : Launch) (D : va_G) (ty : Nat → ClassId) (L : List Nat) (ad : Nat → Nat) (g : Nat → va_E) (pn qn : Nat) (nw : Int32) (tr : Int64) (pf : Nat → Option Nat) (pp pt vn : Nat) (fo wd : Int32) (k dn : Nat) (m_0 : 0 ∈ L) (m_1 : 1 ∈ L) (m_6 : 6 ∈ L) (m_pp : pp ∈ L) (h_0 : g 0 = .inr (8, [.ref (ad 1), .ref (ad 3), .ref (ad 6), .int (nI pn), .ref (ad 7), .ref (ad 20), .ref (ad 22), .ref (ad 28), .int (nI qn), .ref (ad 29), .int nw, .long tr])) (h_1 : g 1 = .inr (5, [.ref (ad 2), .int (nI dn)])) (h_6 : g 6 = .inl (ty 4, 8, .inr (.inr (.inr (.inr pf))))) (h_pp : g pp = .inr (1, [.int fo, .ref (ad pt), .int (nI vn), .int wd])) (hk : k < 8) (hpp : pf k = some (ad pp)) (hd : 0 < dn) (hdn : dn ≤ 40) (hwd : wd = 1) : m_E l yX8_version wsX8_version 4 85 D ty [.ref (ad 0), .int (nI k)] L ad g (some (.int (-2))) g := by
  intro sz
  refine Met.ofW (cc := cX8_version) (maxL := 3) (ret := (some .int)) (by decide) rfl ?_
  intro p e s m args below meth c s₁ B hml hv
  have hx := B.exec
  have hb := B.bytes
  have hrt := B.returns
  have hts := atoms_spec (ws := wsX8_version) B.pre
  have hown : s.vm.findClass RX8 = some m.cls := findClass_of_methodNamed B.named
  have hlocks := B.notSynchronized
  obtain ⟨rfl, hB⟩ := m_start hv
  generalize va_A (m_w L ad g) sz = A at hB ⊢
  generalize s.heap = H at hB ⊢
  generalize ([] : List Loc) = locs at hB ⊢
  have hl := lv_entry ([.ref (ad 0), .int (nI k)]) (n := 3) (Nat.le_of_ble_eq_true rfl)
  rw [lg_entry_eq]
  generalize (lg_sl ([.ref (ad 0), .int (nI k)]) ++ List.replicate (3 - (lg_sl ([.ref (ad 0), .int (nI k)])).length) Slot.unset).toArray = ls at hl ⊢
  have hl : lv_has ls 3 [(0, .ref (ad 0)), (1, .int (nI k))] := hl
  refine lv_aload_n hx hb dX8_version_0 rfl (lv_at hl 0 rfl) ?_
  refine lv_iload_n hx hb dX8_version_1 rfl (lv_at hl 1 rfl) ?_
  refine m_callVE (ci := 8) (As := [.int (nI k)]) (rest := []) ((by have h9 := c_X_paperNumber_t l D ty L ad g pn qn nw tr pf k m_0 m_6 h_0 h_6 hk; rw [hpp] at h9; exact h9 : m_E l yX8_paperNumber wsX8_paperNumber 1 21 D ty [.ref (ad 0), .int (nI k)] L ad g (some (.ref (ad pp))) g)) ⟨hx, hb, hml, hown, hts⟩ (cwV 1 hts gX8_version_X8_paperNumber rfl rfl rfl (by decide +kernel) ⟨Nat.le_of_ble_eq_true rfl, Nat.le_of_ble_eq_true rfl⟩) hB m_0 h_0 rfl rfl hl.1 rfl (Nat.le_of_ble_eq_true rfl) dX8_version_2 ⟨Nat.le_of_ble_eq_true rfl, Nat.le_of_ble_eq_true rfl⟩ (fun H locs hB => ?_)
  refine lv_astore_n (lv' := [(2, .ref (ad pp)), (0, .ref (ad 0)), (1, .int (nI k))]) hx hb dX8_version_5 rfl hl (by decide) rfl (fun ls hl => ?_)
  refine lv_aload_n hx hb dX8_version_6 rfl (lv_at hl 0 rfl) ?_
  refine lv_ifnonnull (tgt := 12) hx hb dX8_version_7 (by decide) ?_
  refine lv_aload_n hx hb dX8_version_12 rfl (lv_at hl 1 rfl) ?_
  refine m_get (C := RX8) (T := TX8) (N := 12) (ci := 8) hx hb hts in_X8_version_X8 hown hB m_0 h_0 rfl 0 (by decide) (hts (.fieldLink RX8 14 "PaperRoom" "draft" "LPaperRoom$Row;") (by decide +kernel)) (fun _ h9 => h9) rfl dX8_version_13 ?_
  refine m_callVE (ci := 5) (As := []) (rest := []) (c_Row_length l D ty L ad g 1 2 dn m_1 h_1) ⟨hx, hb, hml, hown, hts⟩ (cwV 0 hts gX8_version_X5_length rfl rfl rfl (by decide +kernel) ⟨Nat.le_of_ble_eq_true rfl, Nat.le_of_ble_eq_true rfl⟩) hB m_1 h_1 rfl rfl hl.1 rfl (Nat.le_of_ble_eq_true rfl) dX8_version_16 ⟨Nat.le_of_ble_eq_true rfl, Nat.le_of_ble_eq_true rfl⟩ (fun H locs hB => ?_)
  refine b_if_eq_f 29 hx hb dX8_version_19 (by decide) (by rw [nI_toInt (by omega)]; omega) ?_
  refine lv_aload_n hx hb dX8_version_22 rfl (lv_at hl 0 rfl) ?_
  refine m_callUE (ci := 1) (As := []) (rest := []) (c_Marked_isWithdrawn l D ty L ad g pp pt vn fo wd m_pp h_pp (by rw [hwd]; decide)) ⟨hx, hb, hml, hown, hts⟩ (va_cwU 0 hts gX8_version_X2_isWithdrawn_u96X1 rfl rfl rfl rfl (by decide +kernel) ⟨Nat.le_of_ble_eq_true rfl, Nat.le_of_ble_eq_true rfl⟩) hB m_pp h_pp rfl rfl hl.1 rfl (Nat.le_of_ble_eq_true rfl) dX8_version_23 ⟨Nat.le_of_ble_eq_true rfl, Nat.le_of_ble_eq_true rfl⟩ (fun H locs hB => ?_)
  refine b_if_eq_f 32 hx hb dX8_version_26 (by decide) (by rw [hwd]; decide) ?_
  refine lv_bipush (v := (-2)) hx hb dX8_version_29 (by decide) ?_
  exact m_iret hx hb hrt hlocks hB (Nat.le_refl _) (Nat.le_refl _) dX8_version_31 ⟨rfl, rfl, rfl, rfl⟩
set_option maxHeartbeats 1000000 in
set_option maxRecDepth 100000 in
theorem c_X_version1_full (l : Launch) (D : va_G) (ty : Nat → ClassId) (L : List Nat) (ad : Nat → Nat) (g : Nat → va_E) (pn qn : Nat) (nw : Int32) (tr : Int64) (pf : Nat → Option Nat) (pp pt vn : Nat) (fo wd : Int32) (k dn : Nat) (tf : Nat → Option Nat) (m_0 : 0 ∈ L) (m_1 : 1 ∈ L) (m_6 : 6 ∈ L) (m_pp : pp ∈ L) (m_pt : pt ∈ L) (h_0 : g 0 = .inr (8, [.ref (ad 1), .ref (ad 3), .ref (ad 6), .int (nI pn), .ref (ad 7), .ref (ad 20), .ref (ad 22), .ref (ad 28), .int (nI qn), .ref (ad 29), .int nw, .long tr])) (h_1 : g 1 = .inr (5, [.ref (ad 2), .int (nI dn)])) (h_6 : g 6 = .inl (ty 4, 8, .inr (.inr (.inr (.inr pf))))) (h_pp : g pp = .inr (1, [.int fo, .ref (ad pt), .int (nI vn), .int wd])) (h_pt : g pt = .inl (ty 7, 4, .inr (.inr (.inr (.inr tf))))) (hk : k < 8) (hpp : pf k = some (ad pp)) (hd : 0 < dn) (hdn : dn ≤ 40) (hwd : wd = 0) (hvn : vn = 4) : m_E l yX8_version wsX8_version 4 85 D ty [.ref (ad 0), .int (nI k)] L ad g (some (.int (-3))) g := by
  intro sz
  refine Met.ofW (cc := cX8_version) (maxL := 3) (ret := (some .int)) (by decide) rfl ?_
  intro p e s m args below meth c s₁ B hml hv
  have hx := B.exec
  have hb := B.bytes
  have hrt := B.returns
  have hts := atoms_spec (ws := wsX8_version) B.pre
  have hown : s.vm.findClass RX8 = some m.cls := findClass_of_methodNamed B.named
  have hlocks := B.notSynchronized
  obtain ⟨rfl, hB⟩ := m_start hv
  generalize va_A (m_w L ad g) sz = A at hB ⊢
  generalize s.heap = H at hB ⊢
  generalize ([] : List Loc) = locs at hB ⊢
  have hl := lv_entry ([.ref (ad 0), .int (nI k)]) (n := 3) (Nat.le_of_ble_eq_true rfl)
  rw [lg_entry_eq]
  generalize (lg_sl ([.ref (ad 0), .int (nI k)]) ++ List.replicate (3 - (lg_sl ([.ref (ad 0), .int (nI k)])).length) Slot.unset).toArray = ls at hl ⊢
  have hl : lv_has ls 3 [(0, .ref (ad 0)), (1, .int (nI k))] := hl
  refine lv_aload_n hx hb dX8_version_0 rfl (lv_at hl 0 rfl) ?_
  refine lv_iload_n hx hb dX8_version_1 rfl (lv_at hl 1 rfl) ?_
  refine m_callVE (ci := 8) (As := [.int (nI k)]) (rest := []) ((by have h9 := c_X_paperNumber_t l D ty L ad g pn qn nw tr pf k m_0 m_6 h_0 h_6 hk; rw [hpp] at h9; exact h9 : m_E l yX8_paperNumber wsX8_paperNumber 1 21 D ty [.ref (ad 0), .int (nI k)] L ad g (some (.ref (ad pp))) g)) ⟨hx, hb, hml, hown, hts⟩ (cwV 1 hts gX8_version_X8_paperNumber rfl rfl rfl (by decide +kernel) ⟨Nat.le_of_ble_eq_true rfl, Nat.le_of_ble_eq_true rfl⟩) hB m_0 h_0 rfl rfl hl.1 rfl (Nat.le_of_ble_eq_true rfl) dX8_version_2 ⟨Nat.le_of_ble_eq_true rfl, Nat.le_of_ble_eq_true rfl⟩ (fun H locs hB => ?_)
  refine lv_astore_n (lv' := [(2, .ref (ad pp)), (0, .ref (ad 0)), (1, .int (nI k))]) hx hb dX8_version_5 rfl hl (by decide) rfl (fun ls hl => ?_)
  refine lv_aload_n hx hb dX8_version_6 rfl (lv_at hl 0 rfl) ?_
  refine lv_ifnonnull (tgt := 12) hx hb dX8_version_7 (by decide) ?_
  refine lv_aload_n hx hb dX8_version_12 rfl (lv_at hl 1 rfl) ?_
  refine m_get (C := RX8) (T := TX8) (N := 12) (ci := 8) hx hb hts in_X8_version_X8 hown hB m_0 h_0 rfl 0 (by decide) (hts (.fieldLink RX8 14 "PaperRoom" "draft" "LPaperRoom$Row;") (by decide +kernel)) (fun _ h9 => h9) rfl dX8_version_13 ?_
  refine m_callVE (ci := 5) (As := []) (rest := []) (c_Row_length l D ty L ad g 1 2 dn m_1 h_1) ⟨hx, hb, hml, hown, hts⟩ (cwV 0 hts gX8_version_X5_length rfl rfl rfl (by decide +kernel) ⟨Nat.le_of_ble_eq_true rfl, Nat.le_of_ble_eq_true rfl⟩) hB m_1 h_1 rfl rfl hl.1 rfl (Nat.le_of_ble_eq_true rfl) dX8_version_16 ⟨Nat.le_of_ble_eq_true rfl, Nat.le_of_ble_eq_true rfl⟩ (fun H locs hB => ?_)
  refine b_if_eq_f 29 hx hb dX8_version_19 (by decide) (by rw [nI_toInt (by omega)]; omega) ?_
  refine lv_aload_n hx hb dX8_version_22 rfl (lv_at hl 0 rfl) ?_
  refine m_callUE (ci := 1) (As := []) (rest := []) (c_Marked_isWithdrawn l D ty L ad g pp pt vn fo wd m_pp h_pp (by rw [hwd]; decide)) ⟨hx, hb, hml, hown, hts⟩ (va_cwU 0 hts gX8_version_X2_isWithdrawn_u96X1 rfl rfl rfl rfl (by decide +kernel) ⟨Nat.le_of_ble_eq_true rfl, Nat.le_of_ble_eq_true rfl⟩) hB m_pp h_pp rfl rfl hl.1 rfl (Nat.le_of_ble_eq_true rfl) dX8_version_23 ⟨Nat.le_of_ble_eq_true rfl, Nat.le_of_ble_eq_true rfl⟩ (fun H locs hB => ?_)
  refine b_if_eq_t 32 hx hb dX8_version_26 (by decide) (by rw [hwd]; decide) ?_
  refine lv_aload_n hx hb dX8_version_32 rfl (lv_at hl 0 rfl) ?_
  refine m_callUE (ci := 1) (As := []) (rest := []) (c_Marked_isFull l D ty L ad g pp pt vn fo wd tf m_pp m_pt h_pp h_pt (by omega)) ⟨hx, hb, hml, hown, hts⟩ (va_cwU 0 hts gX8_version_X2_isFull_u100X1 rfl rfl rfl rfl (by decide +kernel) ⟨Nat.le_of_ble_eq_true rfl, Nat.le_of_ble_eq_true rfl⟩) hB m_pp h_pp rfl rfl hl.1 rfl (Nat.le_of_ble_eq_true rfl) dX8_version_33 ⟨Nat.le_of_ble_eq_true rfl, Nat.le_of_ble_eq_true rfl⟩ (fun H locs hB => ?_)
  refine b_if_eq_f 42 hx hb dX8_version_36 (by decide) (by rw [dt hvn]; decide) ?_
  refine lv_bipush (v := (-3)) hx hb dX8_version_39 (by decide) ?_
  exact m_iret hx hb hrt hlocks hB (Nat.le_refl _) (Nat.le_refl _) dX8_version_41 ⟨rfl, rfl, rfl, rfl⟩
set_option maxHeartbeats 1000000 in
set_option maxRecDepth 100000 in
theorem c_X_version1_ok (l : Launch) (D : va_G) (ty : Nat → ClassId) (L : List Nat) (ad : Nat → Nat) (g : Nat → va_E) (pn qn : Nat) (nw : Int32) (tr : Int64) (pf : Nat → Option Nat) (pp pt vn : Nat) (fo wd : Int32) (k dn : Nat) (tf : Nat → Option Nat) (t ro a bl : Nat) (db : Nat → Int32) (hL0 : ∀ r, r < 30 → r ∈ L) (m_pp : pp ∈ L) (m_pt : pt ∈ L) (h_0 : g 0 = .inr (8, [.ref (ad 1), .ref (ad 3), .ref (ad 6), .int (nI pn), .ref (ad 7), .ref (ad 20), .ref (ad 22), .ref (ad 28), .int (nI qn), .ref (ad 29), .int nw, .long tr])) (h_1 : g 1 = .inr (5, [.ref (ad 2), .int (nI dn)])) (h_2 : g 2 = .inl (ty 2, 40, .inl db)) (h_6 : g 6 = .inl (ty 4, 8, .inr (.inr (.inr (.inr pf))))) (h_pp : g pp = .inr (1, [.int fo, .ref (ad pt), .int (nI vn), .int wd])) (h_pt : g pt = .inl (ty 7, 4, .inr (.inr (.inr (.inr tf))))) (hk : k < 8) (hpp : pf k = some (ad pp)) (hd : 0 < dn) (hdn : dn ≤ 40) (hwd : wd = 0) (hv4 : vn < 4) (h30 : 30 ≤ pp) (h31 : 30 ≤ pt) (ne_pp_pt : pp ≠ pt) (n_t : t ∉ L) (n_ro : ro ∉ L) (n_a : a ∉ L) (n_bl : bl ∉ L) (h8 : ∀ k, k < dn → (db k).toInt8.toInt32 = db k) (ne_t_ro : t ≠ ro) (ne_t_a : t ≠ a) (ne_t_bl : t ≠ bl) (ne_ro_a : ro ≠ a) (ne_ro_bl : ro ≠ bl) (ne_a_bl : a ≠ bl) (hb_t : 30 ≤ t) (hb_ro : 30 ≤ ro) (hb_a : 30 ≤ a) (hb_bl : 30 ≤ bl) : m_C l yX8_version wsX8_version 4 85 4 124 D ty [.ref (ad 0), .int (nI k)] L ad g (fun v1 L1 ad1 g1 => v1 = some (.int (nI vn)) ∧ L1 = ((((L ++ [t]) ++ [ro]) ++ [a]) ++ [bl]) ∧ (∀ x ∈ L, ad x = ad1 x) ∧ (∀ x ∈ L, x ≠ 1 → x ≠ pt → x ≠ pp → g1 x = g x) ∧ g1 1 = .inr (5, [.ref (ad1 2), .int 0]) ∧ g1 t = .inr (7, [.ref (ad1 ro), .ref (ad1 bl)]) ∧ g1 ro = .inr (5, [.ref (ad1 a), .int (nI dn)]) ∧ g1 a = .inl (ty 2, dn, .inl (cpf db dn)) ∧ g1 bl = .inl (ty 3, dn, .inl (fun _ => 0)) ∧ g1 pt = .inl (ty 7, 4, .inr (.inr (.inr (.inr (va_up tf vn (some (ad1 t))))))) ∧ g1 pp = .inr (1, [.int fo, .ref (ad1 pt), .int (nI (vn + 1)), .int wd])) := by
  intro sz
  refine Met.ofW (cc := cX8_version) (maxL := 3) (ret := (some .int)) (by decide) rfl ?_
  intro p e s m args below meth c s₁ B hml hv
  have hx := B.exec
  have hb := B.bytes
  have hrt := B.returns
  have hts := atoms_spec (ws := wsX8_version) B.pre
  have hown : s.vm.findClass RX8 = some m.cls := findClass_of_methodNamed B.named
  have hlocks := B.notSynchronized
  obtain ⟨rfl, hB⟩ := m_start hv
  generalize va_A (m_w L ad g) sz = A at hB ⊢
  generalize s.heap = H at hB ⊢
  generalize ([] : List Loc) = locs at hB ⊢
  have hl := lv_entry ([.ref (ad 0), .int (nI k)]) (n := 3) (Nat.le_of_ble_eq_true rfl)
  rw [lg_entry_eq]
  generalize (lg_sl ([.ref (ad 0), .int (nI k)]) ++ List.replicate (3 - (lg_sl ([.ref (ad 0), .int (nI k)])).length) Slot.unset).toArray = ls at hl ⊢
  have hl : lv_has ls 3 [(0, .ref (ad 0)), (1, .int (nI k))] := hl
  have ne_pp_t : pp ≠ t := fun e9 => n_t (by rw [← e9]; exact m_pp)
  have ne_pt_t : pt ≠ t := fun e9 => n_t (by rw [← e9]; exact m_pt)
  have ne_pp_ro : pp ≠ ro := fun e9 => n_ro (by rw [← e9]; exact m_pp)
  have ne_pt_ro : pt ≠ ro := fun e9 => n_ro (by rw [← e9]; exact m_pt)
  have ne_pp_a : pp ≠ a := fun e9 => n_a (by rw [← e9]; exact m_pp)
  have ne_pt_a : pt ≠ a := fun e9 => n_a (by rw [← e9]; exact m_pt)
  have ne_pp_bl : pp ≠ bl := fun e9 => n_bl (by rw [← e9]; exact m_pp)
  have ne_pt_bl : pt ≠ bl := fun e9 => n_bl (by rw [← e9]; exact m_pt)
  refine lv_aload_n hx hb dX8_version_0 rfl (lv_at hl 0 rfl) ?_
  refine lv_iload_n hx hb dX8_version_1 rfl (lv_at hl 1 rfl) ?_
  refine m_callVE (ci := 8) (As := [.int (nI k)]) (rest := []) ((by have h9 := c_X_paperNumber_t l D ty L ad g pn qn nw tr pf k (hL0 0 (by decide)) (hL0 6 (by decide)) h_0 h_6 hk; rw [hpp] at h9; exact h9 : m_E l yX8_paperNumber wsX8_paperNumber 1 21 D ty [.ref (ad 0), .int (nI k)] L ad g (some (.ref (ad pp))) g)) ⟨hx, hb, hml, hown, hts⟩ (cwV 1 hts gX8_version_X8_paperNumber rfl rfl rfl (by decide +kernel) ⟨Nat.le_of_ble_eq_true rfl, Nat.le_of_ble_eq_true rfl⟩) hB (hL0 0 (by decide)) h_0 rfl rfl hl.1 rfl (Nat.le_of_ble_eq_true rfl) dX8_version_2 ⟨Nat.le_of_ble_eq_true rfl, Nat.le_of_ble_eq_true rfl⟩ (fun H locs hB => ?_)
  refine lv_astore_n (lv' := [(2, .ref (ad pp)), (0, .ref (ad 0)), (1, .int (nI k))]) hx hb dX8_version_5 rfl hl (by decide) rfl (fun ls hl => ?_)
  refine lv_aload_n hx hb dX8_version_6 rfl (lv_at hl 0 rfl) ?_
  refine lv_ifnonnull (tgt := 12) hx hb dX8_version_7 (by decide) ?_
  refine lv_aload_n hx hb dX8_version_12 rfl (lv_at hl 1 rfl) ?_
  refine m_get (C := RX8) (T := TX8) (N := 12) (ci := 8) hx hb hts in_X8_version_X8 hown hB (hL0 0 (by decide)) h_0 rfl 0 (by decide) (hts (.fieldLink RX8 14 "PaperRoom" "draft" "LPaperRoom$Row;") (by decide +kernel)) (fun _ h9 => h9) rfl dX8_version_13 ?_
  refine m_callVE (ci := 5) (As := []) (rest := []) (c_Row_length l D ty L ad g 1 2 dn (hL0 1 (by decide)) h_1) ⟨hx, hb, hml, hown, hts⟩ (cwV 0 hts gX8_version_X5_length rfl rfl rfl (by decide +kernel) ⟨Nat.le_of_ble_eq_true rfl, Nat.le_of_ble_eq_true rfl⟩) hB (hL0 1 (by decide)) h_1 rfl rfl hl.1 rfl (Nat.le_of_ble_eq_true rfl) dX8_version_16 ⟨Nat.le_of_ble_eq_true rfl, Nat.le_of_ble_eq_true rfl⟩ (fun H locs hB => ?_)
  refine b_if_eq_f 29 hx hb dX8_version_19 (by decide) (by rw [nI_toInt (by omega)]; omega) ?_
  refine lv_aload_n hx hb dX8_version_22 rfl (lv_at hl 0 rfl) ?_
  refine m_callUE (ci := 1) (As := []) (rest := []) (c_Marked_isWithdrawn l D ty L ad g pp pt vn fo wd m_pp h_pp (by rw [hwd]; decide)) ⟨hx, hb, hml, hown, hts⟩ (va_cwU 0 hts gX8_version_X2_isWithdrawn_u96X1 rfl rfl rfl rfl (by decide +kernel) ⟨Nat.le_of_ble_eq_true rfl, Nat.le_of_ble_eq_true rfl⟩) hB m_pp h_pp rfl rfl hl.1 rfl (Nat.le_of_ble_eq_true rfl) dX8_version_23 ⟨Nat.le_of_ble_eq_true rfl, Nat.le_of_ble_eq_true rfl⟩ (fun H locs hB => ?_)
  refine b_if_eq_t 32 hx hb dX8_version_26 (by decide) (by rw [hwd]; decide) ?_
  refine lv_aload_n hx hb dX8_version_32 rfl (lv_at hl 0 rfl) ?_
  refine m_callUE (ci := 1) (As := []) (rest := []) (c_Marked_isFull l D ty L ad g pp pt vn fo wd tf m_pp m_pt h_pp h_pt (by omega)) ⟨hx, hb, hml, hown, hts⟩ (va_cwU 0 hts gX8_version_X2_isFull_u100X1 rfl rfl rfl rfl (by decide +kernel) ⟨Nat.le_of_ble_eq_true rfl, Nat.le_of_ble_eq_true rfl⟩) hB m_pp h_pp rfl rfl hl.1 rfl (Nat.le_of_ble_eq_true rfl) dX8_version_33 ⟨Nat.le_of_ble_eq_true rfl, Nat.le_of_ble_eq_true rfl⟩ (fun H locs hB => ?_)
  refine b_if_eq_t 42 hx hb dX8_version_36 (by decide) (by rw [df (by omega)]; decide) ?_
  refine lv_aload_n hx hb dX8_version_42 rfl (lv_at hl 0 rfl) ?_
  refine lv_aload_n hx hb dX8_version_43 rfl (lv_at hl 1 rfl) ?_
  refine m_callV (ci := 8) (As := []) (rest := [.ref (ad pp)]) (c_X_takeDraft l D ty L ad _ pn qn nw tr dn t ro a bl db hL0 h_0 h_1 h_2 n_t n_ro n_a n_bl hdn h8 ne_t_ro ne_t_a ne_t_bl ne_ro_a ne_ro_bl ne_a_bl hb_t hb_ro hb_a hb_bl) ⟨hx, hb, hml, hown, hts⟩ (cwV 0 hts gX8_version_X8_takeDraft rfl rfl rfl (by decide +kernel) ⟨Nat.le_of_ble_eq_true rfl, Nat.le_of_ble_eq_true rfl⟩) hB (hL0 0 (by decide)) h_0 rfl rfl hl.1 rfl (Nat.le_of_ble_eq_true rfl) dX8_version_44 ⟨Nat.le_of_ble_eq_true rfl, Nat.le_of_ble_eq_true rfl⟩ (fun v144 L144 ad_144 g144 H locs hp144 hB => ?_)
  obtain ⟨q1_144, q2_144, had_144, hfr_144, hf144_0, hf144_1, hf144_2, hf144_3, hf144_4⟩ := hp144
  subst q2_144
  have e144_0 : ad 0 = ad_144 0 := had_144 0 (hL0 0 (by decide))
  have e144_1 : ad 1 = ad_144 1 := had_144 1 (hL0 1 (by decide))
  have e144_2 : ad 2 = ad_144 2 := had_144 2 (hL0 2 (by decide))
  have e144_20 : ad 20 = ad_144 20 := had_144 20 (hL0 20 (by decide))
  have e144_22 : ad 22 = ad_144 22 := had_144 22 (hL0 22 (by decide))
  have e144_28 : ad 28 = ad_144 28 := had_144 28 (hL0 28 (by decide))
  have e144_29 : ad 29 = ad_144 29 := had_144 29 (hL0 29 (by decide))
  have e144_3 : ad 3 = ad_144 3 := had_144 3 (hL0 3 (by decide))
  have e144_6 : ad 6 = ad_144 6 := had_144 6 (hL0 6 (by decide))
  have e144_7 : ad 7 = ad_144 7 := had_144 7 (hL0 7 (by decide))
  have e144_pp : ad pp = ad_144 pp := had_144 pp m_pp
  have e144_pt : ad pt = ad_144 pt := had_144 pt m_pt
  replace hl : lv_has ls 3 [(2, .ref (ad_144 pp)), (0, .ref (ad_144 0)), (1, .int (nI k))] := by rw [← e144_0, ← e144_pp]; exact hl
  have fa144_0 : g 0 = .inr (8, [.ref (ad_144 1), .ref (ad_144 3), .ref (ad_144 6), .int (nI pn), .ref (ad_144 7), .ref (ad_144 20), .ref (ad_144 22), .ref (ad_144 28), .int (nI qn), .ref (ad_144 29), .int nw, .long tr]) := by rw [← e144_1, ← e144_20, ← e144_22, ← e144_28, ← e144_29, ← e144_3, ← e144_6, ← e144_7]; exact h_0
  have fa144_1 : g 1 = .inr (5, [.ref (ad_144 2), .int (nI dn)]) := by rw [← e144_2]; exact h_1
  have fa144_pp : g pp = .inr (1, [.int fo, .ref (ad_144 pt), .int (nI vn), .int wd]) := by rw [← e144_pt]; exact h_pp
  refine W.eq (g2 := F0 m 47 ls [.ref (ad_144 t), .ref (ad_144 pp)]) (by rw [q1_144]; (try rw [e144_pp]); rfl) ?_
  refine m_callUE (ci := 1) (As := [.ref (ad_144 t)]) (rest := []) (c_Marked_addText l D ty ((((L ++ [t]) ++ [ro]) ++ [a]) ++ [bl]) ad_144 _ pp pt vn fo wd tf t ro bl (List.mem_append_left _ (List.mem_append_left _ (List.mem_append_left _ (List.mem_append_left _ m_pp)))) (List.mem_append_left _ (List.mem_append_left _ (List.mem_append_left _ (List.mem_append_left _ m_pt)))) (List.mem_append_left _ (List.mem_append_left _ (List.mem_append_left _ (List.mem_append_right _ List.mem_cons_self)))) ((hfr_144 pp m_pp (by omega)).trans fa144_pp) ((hfr_144 pt m_pt (by omega)).trans h_pt) hf144_1 hv4 ne_pp_pt (Ne.symm ne_pt_t) (Ne.symm ne_pp_t)) ⟨hx, hb, hml, hown, hts⟩ (va_cwU 1 hts gX8_version_X2_addText_u88X1 rfl rfl rfl rfl (by decide +kernel) ⟨Nat.le_of_ble_eq_true rfl, Nat.le_of_ble_eq_true rfl⟩) hB (List.mem_append_left _ (List.mem_append_left _ (List.mem_append_left _ (List.mem_append_left _ m_pp)))) ((hfr_144 pp m_pp (by omega)).trans fa144_pp) rfl rfl hl.1 rfl (Nat.le_of_ble_eq_true rfl) dX8_version_47 ⟨Nat.le_of_ble_eq_true rfl, Nat.le_of_ble_eq_true rfl⟩ (fun H locs hB => ?_)
  replace hB : m_B D ty A s ((((L ++ [t]) ++ [ro]) ++ [a]) ++ [bl]) ad_144 (va_up (va_up g144 pt (.inl (ty 7, 4, .inr (.inr (.inr (.inr (va_up tf vn (some (ad_144 t))))))))) pp (.inr (1, [.int fo, .ref (ad_144 pt), .int (nI (vn + 1)), .int wd]))) H locs := hB
  exact m_iret hx hb hrt hlocks hB (Nat.le_refl _) (Nat.le_refl _) dX8_version_50 ⟨rfl, rfl, (fun x hx => had_144 x hx), (fun x hx hn_1 hn_pt hn_pp => ((va_up_ne _ _ hn_pp).trans ((va_up_ne _ _ hn_pt).trans ((hfr_144 x hx hn_1).trans rfl)))), ((va_up_ne _ _ (by omega)).trans ((va_up_ne _ _ (by omega)).trans hf144_0)), ((va_up_ne _ _ (Ne.symm ne_pp_t)).trans ((va_up_ne _ _ (Ne.symm ne_pt_t)).trans hf144_1)), ((va_up_ne _ _ (Ne.symm ne_pp_ro)).trans ((va_up_ne _ _ (Ne.symm ne_pt_ro)).trans hf144_2)), ((va_up_ne _ _ (Ne.symm ne_pp_a)).trans ((va_up_ne _ _ (Ne.symm ne_pt_a)).trans hf144_3)), ((va_up_ne _ _ (Ne.symm ne_pp_bl)).trans ((va_up_ne _ _ (Ne.symm ne_pt_bl)).trans hf144_4)), ((va_up_ne _ _ (Ne.symm ne_pp_pt)).trans (va_up_self _ _ _)), (va_up_self _ _ _)⟩
set_option maxHeartbeats 1000000 in
set_option maxRecDepth 100000 in
theorem c_X_version2_s1 (l : Launch) (D : va_G) (ty : Nat → ClassId) (L : List Nat) (ad : Nat → Nat) (g : Nat → va_E) (pn qn : Nat) (nw : Int32) (tr : Int64) (pf : Nat → Option Nat) (pp pt vn : Nat) (fo wd : Int32) (k dn : Nat) (m_0 : 0 ∈ L) (m_1 : 1 ∈ L) (m_6 : 6 ∈ L) (m_pp : pp ∈ L) (h_0 : g 0 = .inr (8, [.ref (ad 1), .ref (ad 3), .ref (ad 6), .int (nI pn), .ref (ad 7), .ref (ad 20), .ref (ad 22), .ref (ad 28), .int (nI qn), .ref (ad 29), .int nw, .long tr])) (h_1 : g 1 = .inr (5, [.ref (ad 2), .int (nI dn)])) (h_6 : g 6 = .inl (ty 4, 8, .inr (.inr (.inr (.inr pf))))) (h_pp : g pp = .inr (2, [.int fo, .ref (ad pt), .int (nI vn), .int wd])) (hk : k < 8) (hpp : pf k = some (ad pp)) (hd : dn = 0) : m_E l yX8_version wsX8_version 4 85 D ty [.ref (ad 0), .int (nI k)] L ad g (some (.int (-2))) g := by
  intro sz
  refine Met.ofW (cc := cX8_version) (maxL := 3) (ret := (some .int)) (by decide) rfl ?_
  intro p e s m args below meth c s₁ B hml hv
  have hx := B.exec
  have hb := B.bytes
  have hrt := B.returns
  have hts := atoms_spec (ws := wsX8_version) B.pre
  have hown : s.vm.findClass RX8 = some m.cls := findClass_of_methodNamed B.named
  have hlocks := B.notSynchronized
  obtain ⟨rfl, hB⟩ := m_start hv
  generalize va_A (m_w L ad g) sz = A at hB ⊢
  generalize s.heap = H at hB ⊢
  generalize ([] : List Loc) = locs at hB ⊢
  have hl := lv_entry ([.ref (ad 0), .int (nI k)]) (n := 3) (Nat.le_of_ble_eq_true rfl)
  rw [lg_entry_eq]
  generalize (lg_sl ([.ref (ad 0), .int (nI k)]) ++ List.replicate (3 - (lg_sl ([.ref (ad 0), .int (nI k)])).length) Slot.unset).toArray = ls at hl ⊢
  have hl : lv_has ls 3 [(0, .ref (ad 0)), (1, .int (nI k))] := hl
  refine lv_aload_n hx hb dX8_version_0 rfl (lv_at hl 0 rfl) ?_
  refine lv_iload_n hx hb dX8_version_1 rfl (lv_at hl 1 rfl) ?_
  refine m_callVE (ci := 8) (As := [.int (nI k)]) (rest := []) ((by have h9 := c_X_paperNumber_t l D ty L ad g pn qn nw tr pf k m_0 m_6 h_0 h_6 hk; rw [hpp] at h9; exact h9 : m_E l yX8_paperNumber wsX8_paperNumber 1 21 D ty [.ref (ad 0), .int (nI k)] L ad g (some (.ref (ad pp))) g)) ⟨hx, hb, hml, hown, hts⟩ (cwV 1 hts gX8_version_X8_paperNumber rfl rfl rfl (by decide +kernel) ⟨Nat.le_of_ble_eq_true rfl, Nat.le_of_ble_eq_true rfl⟩) hB m_0 h_0 rfl rfl hl.1 rfl (Nat.le_of_ble_eq_true rfl) dX8_version_2 ⟨Nat.le_of_ble_eq_true rfl, Nat.le_of_ble_eq_true rfl⟩ (fun H locs hB => ?_)
  refine lv_astore_n (lv' := [(2, .ref (ad pp)), (0, .ref (ad 0)), (1, .int (nI k))]) hx hb dX8_version_5 rfl hl (by decide) rfl (fun ls hl => ?_)
  refine lv_aload_n hx hb dX8_version_6 rfl (lv_at hl 0 rfl) ?_
  refine lv_ifnonnull (tgt := 12) hx hb dX8_version_7 (by decide) ?_
  refine lv_aload_n hx hb dX8_version_12 rfl (lv_at hl 1 rfl) ?_
  refine m_get (C := RX8) (T := TX8) (N := 12) (ci := 8) hx hb hts in_X8_version_X8 hown hB m_0 h_0 rfl 0 (by decide) (hts (.fieldLink RX8 14 "PaperRoom" "draft" "LPaperRoom$Row;") (by decide +kernel)) (fun _ h9 => h9) rfl dX8_version_13 ?_
  refine m_callVE (ci := 5) (As := []) (rest := []) (c_Row_length l D ty L ad g 1 2 dn m_1 h_1) ⟨hx, hb, hml, hown, hts⟩ (cwV 0 hts gX8_version_X5_length rfl rfl rfl (by decide +kernel) ⟨Nat.le_of_ble_eq_true rfl, Nat.le_of_ble_eq_true rfl⟩) hB m_1 h_1 rfl rfl hl.1 rfl (Nat.le_of_ble_eq_true rfl) dX8_version_16 ⟨Nat.le_of_ble_eq_true rfl, Nat.le_of_ble_eq_true rfl⟩ (fun H locs hB => ?_)
  refine b_if_eq_t 29 hx hb dX8_version_19 (by decide) (by rw [hd]; decide) ?_
  refine lv_bipush (v := (-2)) hx hb dX8_version_29 (by decide) ?_
  exact m_iret hx hb hrt hlocks hB (Nat.le_refl _) (Nat.le_refl _) dX8_version_31 ⟨rfl, rfl, rfl, rfl⟩
set_option maxHeartbeats 1000000 in
set_option maxRecDepth 100000 in
theorem c_X_version2_s2 (l : Launch) (D : va_G) (ty : Nat → ClassId) (L : List Nat) (ad : Nat → Nat) (g : Nat → va_E) (pn qn : Nat) (nw : Int32) (tr : Int64) (pf : Nat → Option Nat) (pp pt vn : Nat) (fo wd : Int32) (k dn : Nat) (m_0 : 0 ∈ L) (m_1 : 1 ∈ L) (m_6 : 6 ∈ L) (m_pp : pp ∈ L) (h_0 : g 0 = .inr (8, [.ref (ad 1), .ref (ad 3), .ref (ad 6), .int (nI pn), .ref (ad 7), .ref (ad 20), .ref (ad 22), .ref (ad 28), .int (nI qn), .ref (ad 29), .int nw, .long tr])) (h_1 : g 1 = .inr (5, [.ref (ad 2), .int (nI dn)])) (h_6 : g 6 = .inl (ty 4, 8, .inr (.inr (.inr (.inr pf))))) (h_pp : g pp = .inr (2, [.int fo, .ref (ad pt), .int (nI vn), .int wd])) (hk : k < 8) (hpp : pf k = some (ad pp)) (hd : 0 < dn) (hdn : dn ≤ 40) (hwd : wd = 1) : m_E l yX8_version wsX8_version 4 85 D ty [.ref (ad 0), .int (nI k)] L ad g (some (.int (-2))) g := by
  intro sz
  refine Met.ofW (cc := cX8_version) (maxL := 3) (ret := (some .int)) (by decide) rfl ?_
  intro p e s m args below meth c s₁ B hml hv
  have hx := B.exec
  have hb := B.bytes
  have hrt := B.returns
  have hts := atoms_spec (ws := wsX8_version) B.pre
  have hown : s.vm.findClass RX8 = some m.cls := findClass_of_methodNamed B.named
  have hlocks := B.notSynchronized
  obtain ⟨rfl, hB⟩ := m_start hv
  generalize va_A (m_w L ad g) sz = A at hB ⊢
  generalize s.heap = H at hB ⊢
  generalize ([] : List Loc) = locs at hB ⊢
  have hl := lv_entry ([.ref (ad 0), .int (nI k)]) (n := 3) (Nat.le_of_ble_eq_true rfl)
  rw [lg_entry_eq]
  generalize (lg_sl ([.ref (ad 0), .int (nI k)]) ++ List.replicate (3 - (lg_sl ([.ref (ad 0), .int (nI k)])).length) Slot.unset).toArray = ls at hl ⊢
  have hl : lv_has ls 3 [(0, .ref (ad 0)), (1, .int (nI k))] := hl
  refine lv_aload_n hx hb dX8_version_0 rfl (lv_at hl 0 rfl) ?_
  refine lv_iload_n hx hb dX8_version_1 rfl (lv_at hl 1 rfl) ?_
  refine m_callVE (ci := 8) (As := [.int (nI k)]) (rest := []) ((by have h9 := c_X_paperNumber_t l D ty L ad g pn qn nw tr pf k m_0 m_6 h_0 h_6 hk; rw [hpp] at h9; exact h9 : m_E l yX8_paperNumber wsX8_paperNumber 1 21 D ty [.ref (ad 0), .int (nI k)] L ad g (some (.ref (ad pp))) g)) ⟨hx, hb, hml, hown, hts⟩ (cwV 1 hts gX8_version_X8_paperNumber rfl rfl rfl (by decide +kernel) ⟨Nat.le_of_ble_eq_true rfl, Nat.le_of_ble_eq_true rfl⟩) hB m_0 h_0 rfl rfl hl.1 rfl (Nat.le_of_ble_eq_true rfl) dX8_version_2 ⟨Nat.le_of_ble_eq_true rfl, Nat.le_of_ble_eq_true rfl⟩ (fun H locs hB => ?_)
  refine lv_astore_n (lv' := [(2, .ref (ad pp)), (0, .ref (ad 0)), (1, .int (nI k))]) hx hb dX8_version_5 rfl hl (by decide) rfl (fun ls hl => ?_)
  refine lv_aload_n hx hb dX8_version_6 rfl (lv_at hl 0 rfl) ?_
  refine lv_ifnonnull (tgt := 12) hx hb dX8_version_7 (by decide) ?_
  refine lv_aload_n hx hb dX8_version_12 rfl (lv_at hl 1 rfl) ?_
  refine m_get (C := RX8) (T := TX8) (N := 12) (ci := 8) hx hb hts in_X8_version_X8 hown hB m_0 h_0 rfl 0 (by decide) (hts (.fieldLink RX8 14 "PaperRoom" "draft" "LPaperRoom$Row;") (by decide +kernel)) (fun _ h9 => h9) rfl dX8_version_13 ?_
  refine m_callVE (ci := 5) (As := []) (rest := []) (c_Row_length l D ty L ad g 1 2 dn m_1 h_1) ⟨hx, hb, hml, hown, hts⟩ (cwV 0 hts gX8_version_X5_length rfl rfl rfl (by decide +kernel) ⟨Nat.le_of_ble_eq_true rfl, Nat.le_of_ble_eq_true rfl⟩) hB m_1 h_1 rfl rfl hl.1 rfl (Nat.le_of_ble_eq_true rfl) dX8_version_16 ⟨Nat.le_of_ble_eq_true rfl, Nat.le_of_ble_eq_true rfl⟩ (fun H locs hB => ?_)
  refine b_if_eq_f 29 hx hb dX8_version_19 (by decide) (by rw [nI_toInt (by omega)]; omega) ?_
  refine lv_aload_n hx hb dX8_version_22 rfl (lv_at hl 0 rfl) ?_
  refine m_callVE (ci := 2) (As := []) (rest := []) (c_Paper_isWithdrawn l D ty L ad g pp pt vn fo wd m_pp h_pp (by rw [hwd]; decide)) ⟨hx, hb, hml, hown, hts⟩ (cwV 0 hts gX8_version_X2_isWithdrawn rfl rfl rfl (by decide +kernel) ⟨Nat.le_of_ble_eq_true rfl, Nat.le_of_ble_eq_true rfl⟩) hB m_pp h_pp rfl rfl hl.1 rfl (Nat.le_of_ble_eq_true rfl) dX8_version_23 ⟨Nat.le_of_ble_eq_true rfl, Nat.le_of_ble_eq_true rfl⟩ (fun H locs hB => ?_)
  refine b_if_eq_f 32 hx hb dX8_version_26 (by decide) (by rw [hwd]; decide) ?_
  refine lv_bipush (v := (-2)) hx hb dX8_version_29 (by decide) ?_
  exact m_iret hx hb hrt hlocks hB (Nat.le_refl _) (Nat.le_refl _) dX8_version_31 ⟨rfl, rfl, rfl, rfl⟩
set_option maxHeartbeats 1000000 in
set_option maxRecDepth 100000 in
theorem c_X_version2_full (l : Launch) (D : va_G) (ty : Nat → ClassId) (L : List Nat) (ad : Nat → Nat) (g : Nat → va_E) (pn qn : Nat) (nw : Int32) (tr : Int64) (pf : Nat → Option Nat) (pp pt vn : Nat) (fo wd : Int32) (k dn : Nat) (tf : Nat → Option Nat) (m_0 : 0 ∈ L) (m_1 : 1 ∈ L) (m_6 : 6 ∈ L) (m_pp : pp ∈ L) (m_pt : pt ∈ L) (h_0 : g 0 = .inr (8, [.ref (ad 1), .ref (ad 3), .ref (ad 6), .int (nI pn), .ref (ad 7), .ref (ad 20), .ref (ad 22), .ref (ad 28), .int (nI qn), .ref (ad 29), .int nw, .long tr])) (h_1 : g 1 = .inr (5, [.ref (ad 2), .int (nI dn)])) (h_6 : g 6 = .inl (ty 4, 8, .inr (.inr (.inr (.inr pf))))) (h_pp : g pp = .inr (2, [.int fo, .ref (ad pt), .int (nI vn), .int wd])) (h_pt : g pt = .inl (ty 7, 4, .inr (.inr (.inr (.inr tf))))) (hk : k < 8) (hpp : pf k = some (ad pp)) (hd : 0 < dn) (hdn : dn ≤ 40) (hwd : wd = 0) (hvn : vn = 4) : m_E l yX8_version wsX8_version 4 85 D ty [.ref (ad 0), .int (nI k)] L ad g (some (.int (-3))) g := by
  intro sz
  refine Met.ofW (cc := cX8_version) (maxL := 3) (ret := (some .int)) (by decide) rfl ?_
  intro p e s m args below meth c s₁ B hml hv
  have hx := B.exec
  have hb := B.bytes
  have hrt := B.returns
  have hts := atoms_spec (ws := wsX8_version) B.pre
  have hown : s.vm.findClass RX8 = some m.cls := findClass_of_methodNamed B.named
  have hlocks := B.notSynchronized
  obtain ⟨rfl, hB⟩ := m_start hv
  generalize va_A (m_w L ad g) sz = A at hB ⊢
  generalize s.heap = H at hB ⊢
  generalize ([] : List Loc) = locs at hB ⊢
  have hl := lv_entry ([.ref (ad 0), .int (nI k)]) (n := 3) (Nat.le_of_ble_eq_true rfl)
  rw [lg_entry_eq]
  generalize (lg_sl ([.ref (ad 0), .int (nI k)]) ++ List.replicate (3 - (lg_sl ([.ref (ad 0), .int (nI k)])).length) Slot.unset).toArray = ls at hl ⊢
  have hl : lv_has ls 3 [(0, .ref (ad 0)), (1, .int (nI k))] := hl
  refine lv_aload_n hx hb dX8_version_0 rfl (lv_at hl 0 rfl) ?_
  refine lv_iload_n hx hb dX8_version_1 rfl (lv_at hl 1 rfl) ?_
  refine m_callVE (ci := 8) (As := [.int (nI k)]) (rest := []) ((by have h9 := c_X_paperNumber_t l D ty L ad g pn qn nw tr pf k m_0 m_6 h_0 h_6 hk; rw [hpp] at h9; exact h9 : m_E l yX8_paperNumber wsX8_paperNumber 1 21 D ty [.ref (ad 0), .int (nI k)] L ad g (some (.ref (ad pp))) g)) ⟨hx, hb, hml, hown, hts⟩ (cwV 1 hts gX8_version_X8_paperNumber rfl rfl rfl (by decide +kernel) ⟨Nat.le_of_ble_eq_true rfl, Nat.le_of_ble_eq_true rfl⟩) hB m_0 h_0 rfl rfl hl.1 rfl (Nat.le_of_ble_eq_true rfl) dX8_version_2 ⟨Nat.le_of_ble_eq_true rfl, Nat.le_of_ble_eq_true rfl⟩ (fun H locs hB => ?_)
  refine lv_astore_n (lv' := [(2, .ref (ad pp)), (0, .ref (ad 0)), (1, .int (nI k))]) hx hb dX8_version_5 rfl hl (by decide) rfl (fun ls hl => ?_)
  refine lv_aload_n hx hb dX8_version_6 rfl (lv_at hl 0 rfl) ?_
  refine lv_ifnonnull (tgt := 12) hx hb dX8_version_7 (by decide) ?_
  refine lv_aload_n hx hb dX8_version_12 rfl (lv_at hl 1 rfl) ?_
  refine m_get (C := RX8) (T := TX8) (N := 12) (ci := 8) hx hb hts in_X8_version_X8 hown hB m_0 h_0 rfl 0 (by decide) (hts (.fieldLink RX8 14 "PaperRoom" "draft" "LPaperRoom$Row;") (by decide +kernel)) (fun _ h9 => h9) rfl dX8_version_13 ?_
  refine m_callVE (ci := 5) (As := []) (rest := []) (c_Row_length l D ty L ad g 1 2 dn m_1 h_1) ⟨hx, hb, hml, hown, hts⟩ (cwV 0 hts gX8_version_X5_length rfl rfl rfl (by decide +kernel) ⟨Nat.le_of_ble_eq_true rfl, Nat.le_of_ble_eq_true rfl⟩) hB m_1 h_1 rfl rfl hl.1 rfl (Nat.le_of_ble_eq_true rfl) dX8_version_16 ⟨Nat.le_of_ble_eq_true rfl, Nat.le_of_ble_eq_true rfl⟩ (fun H locs hB => ?_)
  refine b_if_eq_f 29 hx hb dX8_version_19 (by decide) (by rw [nI_toInt (by omega)]; omega) ?_
  refine lv_aload_n hx hb dX8_version_22 rfl (lv_at hl 0 rfl) ?_
  refine m_callVE (ci := 2) (As := []) (rest := []) (c_Paper_isWithdrawn l D ty L ad g pp pt vn fo wd m_pp h_pp (by rw [hwd]; decide)) ⟨hx, hb, hml, hown, hts⟩ (cwV 0 hts gX8_version_X2_isWithdrawn rfl rfl rfl (by decide +kernel) ⟨Nat.le_of_ble_eq_true rfl, Nat.le_of_ble_eq_true rfl⟩) hB m_pp h_pp rfl rfl hl.1 rfl (Nat.le_of_ble_eq_true rfl) dX8_version_23 ⟨Nat.le_of_ble_eq_true rfl, Nat.le_of_ble_eq_true rfl⟩ (fun H locs hB => ?_)
  refine b_if_eq_t 32 hx hb dX8_version_26 (by decide) (by rw [hwd]; decide) ?_
  refine lv_aload_n hx hb dX8_version_32 rfl (lv_at hl 0 rfl) ?_
  refine m_callVE (ci := 2) (As := []) (rest := []) (c_Paper_isFull l D ty L ad g pp pt vn fo wd tf m_pp m_pt h_pp h_pt (by omega)) ⟨hx, hb, hml, hown, hts⟩ (cwV 0 hts gX8_version_X2_isFull rfl rfl rfl (by decide +kernel) ⟨Nat.le_of_ble_eq_true rfl, Nat.le_of_ble_eq_true rfl⟩) hB m_pp h_pp rfl rfl hl.1 rfl (Nat.le_of_ble_eq_true rfl) dX8_version_33 ⟨Nat.le_of_ble_eq_true rfl, Nat.le_of_ble_eq_true rfl⟩ (fun H locs hB => ?_)
  refine b_if_eq_f 42 hx hb dX8_version_36 (by decide) (by rw [dt hvn]; decide) ?_
  refine lv_bipush (v := (-3)) hx hb dX8_version_39 (by decide) ?_
  exact m_iret hx hb hrt hlocks hB (Nat.le_refl _) (Nat.le_refl _) dX8_version_41 ⟨rfl, rfl, rfl, rfl⟩
set_option maxHeartbeats 1000000 in
set_option maxRecDepth 100000 in
theorem c_X_version2_ok (l : Launch) (D : va_G) (ty : Nat → ClassId) (L : List Nat) (ad : Nat → Nat) (g : Nat → va_E) (pn qn : Nat) (nw : Int32) (tr : Int64) (pf : Nat → Option Nat) (pp pt vn : Nat) (fo wd : Int32) (k dn : Nat) (tf : Nat → Option Nat) (t ro a bl : Nat) (db : Nat → Int32) (hL0 : ∀ r, r < 30 → r ∈ L) (m_pp : pp ∈ L) (m_pt : pt ∈ L) (h_0 : g 0 = .inr (8, [.ref (ad 1), .ref (ad 3), .ref (ad 6), .int (nI pn), .ref (ad 7), .ref (ad 20), .ref (ad 22), .ref (ad 28), .int (nI qn), .ref (ad 29), .int nw, .long tr])) (h_1 : g 1 = .inr (5, [.ref (ad 2), .int (nI dn)])) (h_2 : g 2 = .inl (ty 2, 40, .inl db)) (h_6 : g 6 = .inl (ty 4, 8, .inr (.inr (.inr (.inr pf))))) (h_pp : g pp = .inr (2, [.int fo, .ref (ad pt), .int (nI vn), .int wd])) (h_pt : g pt = .inl (ty 7, 4, .inr (.inr (.inr (.inr tf))))) (hk : k < 8) (hpp : pf k = some (ad pp)) (hd : 0 < dn) (hdn : dn ≤ 40) (hwd : wd = 0) (hv4 : vn < 4) (h30 : 30 ≤ pp) (h31 : 30 ≤ pt) (ne_pp_pt : pp ≠ pt) (n_t : t ∉ L) (n_ro : ro ∉ L) (n_a : a ∉ L) (n_bl : bl ∉ L) (h8 : ∀ k, k < dn → (db k).toInt8.toInt32 = db k) (ne_t_ro : t ≠ ro) (ne_t_a : t ≠ a) (ne_t_bl : t ≠ bl) (ne_ro_a : ro ≠ a) (ne_ro_bl : ro ≠ bl) (ne_a_bl : a ≠ bl) (hb_t : 30 ≤ t) (hb_ro : 30 ≤ ro) (hb_a : 30 ≤ a) (hb_bl : 30 ≤ bl) : m_C l yX8_version wsX8_version 4 85 4 124 D ty [.ref (ad 0), .int (nI k)] L ad g (fun v1 L1 ad1 g1 => v1 = some (.int (nI vn)) ∧ L1 = ((((L ++ [t]) ++ [ro]) ++ [a]) ++ [bl]) ∧ (∀ x ∈ L, ad x = ad1 x) ∧ (∀ x ∈ L, x ≠ 1 → x ≠ pt → x ≠ pp → g1 x = g x) ∧ g1 1 = .inr (5, [.ref (ad1 2), .int 0]) ∧ g1 t = .inr (7, [.ref (ad1 ro), .ref (ad1 bl)]) ∧ g1 ro = .inr (5, [.ref (ad1 a), .int (nI dn)]) ∧ g1 a = .inl (ty 2, dn, .inl (cpf db dn)) ∧ g1 bl = .inl (ty 3, dn, .inl (fun _ => 0)) ∧ g1 pt = .inl (ty 7, 4, .inr (.inr (.inr (.inr (va_up tf vn (some (ad1 t))))))) ∧ g1 pp = .inr (2, [.int fo, .ref (ad1 pt), .int (nI (vn + 1)), .int wd])) := by
  intro sz
  refine Met.ofW (cc := cX8_version) (maxL := 3) (ret := (some .int)) (by decide) rfl ?_
  intro p e s m args below meth c s₁ B hml hv
  have hx := B.exec
  have hb := B.bytes
  have hrt := B.returns
  have hts := atoms_spec (ws := wsX8_version) B.pre
  have hown : s.vm.findClass RX8 = some m.cls := findClass_of_methodNamed B.named
  have hlocks := B.notSynchronized
  obtain ⟨rfl, hB⟩ := m_start hv
  generalize va_A (m_w L ad g) sz = A at hB ⊢
  generalize s.heap = H at hB ⊢
  generalize ([] : List Loc) = locs at hB ⊢
  have hl := lv_entry ([.ref (ad 0), .int (nI k)]) (n := 3) (Nat.le_of_ble_eq_true rfl)
  rw [lg_entry_eq]
  generalize (lg_sl ([.ref (ad 0), .int (nI k)]) ++ List.replicate (3 - (lg_sl ([.ref (ad 0), .int (nI k)])).length) Slot.unset).toArray = ls at hl ⊢
  have hl : lv_has ls 3 [(0, .ref (ad 0)), (1, .int (nI k))] := hl
  have ne_pp_t : pp ≠ t := fun e9 => n_t (by rw [← e9]; exact m_pp)
  have ne_pt_t : pt ≠ t := fun e9 => n_t (by rw [← e9]; exact m_pt)
  have ne_pp_ro : pp ≠ ro := fun e9 => n_ro (by rw [← e9]; exact m_pp)
  have ne_pt_ro : pt ≠ ro := fun e9 => n_ro (by rw [← e9]; exact m_pt)
  have ne_pp_a : pp ≠ a := fun e9 => n_a (by rw [← e9]; exact m_pp)
  have ne_pt_a : pt ≠ a := fun e9 => n_a (by rw [← e9]; exact m_pt)
  have ne_pp_bl : pp ≠ bl := fun e9 => n_bl (by rw [← e9]; exact m_pp)
  have ne_pt_bl : pt ≠ bl := fun e9 => n_bl (by rw [← e9]; exact m_pt)
  refine lv_aload_n hx hb dX8_version_0 rfl (lv_at hl 0 rfl) ?_
  refine lv_iload_n hx hb dX8_version_1 rfl (lv_at hl 1 rfl) ?_
  refine m_callVE (ci := 8) (As := [.int (nI k)]) (rest := []) ((by have h9 := c_X_paperNumber_t l D ty L ad g pn qn nw tr pf k (hL0 0 (by decide)) (hL0 6 (by decide)) h_0 h_6 hk; rw [hpp] at h9; exact h9 : m_E l yX8_paperNumber wsX8_paperNumber 1 21 D ty [.ref (ad 0), .int (nI k)] L ad g (some (.ref (ad pp))) g)) ⟨hx, hb, hml, hown, hts⟩ (cwV 1 hts gX8_version_X8_paperNumber rfl rfl rfl (by decide +kernel) ⟨Nat.le_of_ble_eq_true rfl, Nat.le_of_ble_eq_true rfl⟩) hB (hL0 0 (by decide)) h_0 rfl rfl hl.1 rfl (Nat.le_of_ble_eq_true rfl) dX8_version_2 ⟨Nat.le_of_ble_eq_true rfl, Nat.le_of_ble_eq_true rfl⟩ (fun H locs hB => ?_)
  refine lv_astore_n (lv' := [(2, .ref (ad pp)), (0, .ref (ad 0)), (1, .int (nI k))]) hx hb dX8_version_5 rfl hl (by decide) rfl (fun ls hl => ?_)
  refine lv_aload_n hx hb dX8_version_6 rfl (lv_at hl 0 rfl) ?_
  refine lv_ifnonnull (tgt := 12) hx hb dX8_version_7 (by decide) ?_
  refine lv_aload_n hx hb dX8_version_12 rfl (lv_at hl 1 rfl) ?_
  refine m_get (C := RX8) (T := TX8) (N := 12) (ci := 8) hx hb hts in_X8_version_X8 hown hB (hL0 0 (by decide)) h_0 rfl 0 (by decide) (hts (.fieldLink RX8 14 "PaperRoom" "draft" "LPaperRoom$Row;") (by decide +kernel)) (fun _ h9 => h9) rfl dX8_version_13 ?_
  refine m_callVE (ci := 5) (As := []) (rest := []) (c_Row_length l D ty L ad g 1 2 dn (hL0 1 (by decide)) h_1) ⟨hx, hb, hml, hown, hts⟩ (cwV 0 hts gX8_version_X5_length rfl rfl rfl (by decide +kernel) ⟨Nat.le_of_ble_eq_true rfl, Nat.le_of_ble_eq_true rfl⟩) hB (hL0 1 (by decide)) h_1 rfl rfl hl.1 rfl (Nat.le_of_ble_eq_true rfl) dX8_version_16 ⟨Nat.le_of_ble_eq_true rfl, Nat.le_of_ble_eq_true rfl⟩ (fun H locs hB => ?_)
  refine b_if_eq_f 29 hx hb dX8_version_19 (by decide) (by rw [nI_toInt (by omega)]; omega) ?_
  refine lv_aload_n hx hb dX8_version_22 rfl (lv_at hl 0 rfl) ?_
  refine m_callVE (ci := 2) (As := []) (rest := []) (c_Paper_isWithdrawn l D ty L ad g pp pt vn fo wd m_pp h_pp (by rw [hwd]; decide)) ⟨hx, hb, hml, hown, hts⟩ (cwV 0 hts gX8_version_X2_isWithdrawn rfl rfl rfl (by decide +kernel) ⟨Nat.le_of_ble_eq_true rfl, Nat.le_of_ble_eq_true rfl⟩) hB m_pp h_pp rfl rfl hl.1 rfl (Nat.le_of_ble_eq_true rfl) dX8_version_23 ⟨Nat.le_of_ble_eq_true rfl, Nat.le_of_ble_eq_true rfl⟩ (fun H locs hB => ?_)
  refine b_if_eq_t 32 hx hb dX8_version_26 (by decide) (by rw [hwd]; decide) ?_
  refine lv_aload_n hx hb dX8_version_32 rfl (lv_at hl 0 rfl) ?_
  refine m_callVE (ci := 2) (As := []) (rest := []) (c_Paper_isFull l D ty L ad g pp pt vn fo wd tf m_pp m_pt h_pp h_pt (by omega)) ⟨hx, hb, hml, hown, hts⟩ (cwV 0 hts gX8_version_X2_isFull rfl rfl rfl (by decide +kernel) ⟨Nat.le_of_ble_eq_true rfl, Nat.le_of_ble_eq_true rfl⟩) hB m_pp h_pp rfl rfl hl.1 rfl (Nat.le_of_ble_eq_true rfl) dX8_version_33 ⟨Nat.le_of_ble_eq_true rfl, Nat.le_of_ble_eq_true rfl⟩ (fun H locs hB => ?_)
  refine b_if_eq_t 42 hx hb dX8_version_36 (by decide) (by rw [df (by omega)]; decide) ?_
  refine lv_aload_n hx hb dX8_version_42 rfl (lv_at hl 0 rfl) ?_
  refine lv_aload_n hx hb dX8_version_43 rfl (lv_at hl 1 rfl) ?_
  refine m_callV (ci := 8) (As := []) (rest := [.ref (ad pp)]) (c_X_takeDraft l D ty L ad _ pn qn nw tr dn t ro a bl db hL0 h_0 h_1 h_2 n_t n_ro n_a n_bl hdn h8 ne_t_ro ne_t_a ne_t_bl ne_ro_a ne_ro_bl ne_a_bl hb_t hb_ro hb_a hb_bl) ⟨hx, hb, hml, hown, hts⟩ (cwV 0 hts gX8_version_X8_takeDraft rfl rfl rfl (by decide +kernel) ⟨Nat.le_of_ble_eq_true rfl, Nat.le_of_ble_eq_true rfl⟩) hB (hL0 0 (by decide)) h_0 rfl rfl hl.1 rfl (Nat.le_of_ble_eq_true rfl) dX8_version_44 ⟨Nat.le_of_ble_eq_true rfl, Nat.le_of_ble_eq_true rfl⟩ (fun v144 L144 ad_144 g144 H locs hp144 hB => ?_)
  obtain ⟨q1_144, q2_144, had_144, hfr_144, hf144_0, hf144_1, hf144_2, hf144_3, hf144_4⟩ := hp144
  subst q2_144
  have e144_0 : ad 0 = ad_144 0 := had_144 0 (hL0 0 (by decide))
  have e144_1 : ad 1 = ad_144 1 := had_144 1 (hL0 1 (by decide))
  have e144_2 : ad 2 = ad_144 2 := had_144 2 (hL0 2 (by decide))
  have e144_20 : ad 20 = ad_144 20 := had_144 20 (hL0 20 (by decide))
  have e144_22 : ad 22 = ad_144 22 := had_144 22 (hL0 22 (by decide))
  have e144_28 : ad 28 = ad_144 28 := had_144 28 (hL0 28 (by decide))
  have e144_29 : ad 29 = ad_144 29 := had_144 29 (hL0 29 (by decide))
  have e144_3 : ad 3 = ad_144 3 := had_144 3 (hL0 3 (by decide))
  have e144_6 : ad 6 = ad_144 6 := had_144 6 (hL0 6 (by decide))
  have e144_7 : ad 7 = ad_144 7 := had_144 7 (hL0 7 (by decide))
  have e144_pp : ad pp = ad_144 pp := had_144 pp m_pp
  have e144_pt : ad pt = ad_144 pt := had_144 pt m_pt
  replace hl : lv_has ls 3 [(2, .ref (ad_144 pp)), (0, .ref (ad_144 0)), (1, .int (nI k))] := by rw [← e144_0, ← e144_pp]; exact hl
  have fa144_0 : g 0 = .inr (8, [.ref (ad_144 1), .ref (ad_144 3), .ref (ad_144 6), .int (nI pn), .ref (ad_144 7), .ref (ad_144 20), .ref (ad_144 22), .ref (ad_144 28), .int (nI qn), .ref (ad_144 29), .int nw, .long tr]) := by rw [← e144_1, ← e144_20, ← e144_22, ← e144_28, ← e144_29, ← e144_3, ← e144_6, ← e144_7]; exact h_0
  have fa144_1 : g 1 = .inr (5, [.ref (ad_144 2), .int (nI dn)]) := by rw [← e144_2]; exact h_1
  have fa144_pp : g pp = .inr (2, [.int fo, .ref (ad_144 pt), .int (nI vn), .int wd]) := by rw [← e144_pt]; exact h_pp
  refine W.eq (g2 := F0 m 47 ls [.ref (ad_144 t), .ref (ad_144 pp)]) (by rw [q1_144]; (try rw [e144_pp]); rfl) ?_
  refine m_callVE (ci := 2) (As := [.ref (ad_144 t)]) (rest := []) (c_Paper_addText l D ty ((((L ++ [t]) ++ [ro]) ++ [a]) ++ [bl]) ad_144 _ pp pt vn fo wd tf t ro bl (List.mem_append_left _ (List.mem_append_left _ (List.mem_append_left _ (List.mem_append_left _ m_pp)))) (List.mem_append_left _ (List.mem_append_left _ (List.mem_append_left _ (List.mem_append_left _ m_pt)))) (List.mem_append_left _ (List.mem_append_left _ (List.mem_append_left _ (List.mem_append_right _ List.mem_cons_self)))) ((hfr_144 pp m_pp (by omega)).trans fa144_pp) ((hfr_144 pt m_pt (by omega)).trans h_pt) hf144_1 hv4 ne_pp_pt (Ne.symm ne_pt_t) (Ne.symm ne_pp_t)) ⟨hx, hb, hml, hown, hts⟩ (cwV 1 hts gX8_version_X2_addText rfl rfl rfl (by decide +kernel) ⟨Nat.le_of_ble_eq_true rfl, Nat.le_of_ble_eq_true rfl⟩) hB (List.mem_append_left _ (List.mem_append_left _ (List.mem_append_left _ (List.mem_append_left _ m_pp)))) ((hfr_144 pp m_pp (by omega)).trans fa144_pp) rfl rfl hl.1 rfl (Nat.le_of_ble_eq_true rfl) dX8_version_47 ⟨Nat.le_of_ble_eq_true rfl, Nat.le_of_ble_eq_true rfl⟩ (fun H locs hB => ?_)
  replace hB : m_B D ty A s ((((L ++ [t]) ++ [ro]) ++ [a]) ++ [bl]) ad_144 (va_up (va_up g144 pt (.inl (ty 7, 4, .inr (.inr (.inr (.inr (va_up tf vn (some (ad_144 t))))))))) pp (.inr (2, [.int fo, .ref (ad_144 pt), .int (nI (vn + 1)), .int wd]))) H locs := hB
  exact m_iret hx hb hrt hlocks hB (Nat.le_refl _) (Nat.le_refl _) dX8_version_50 ⟨rfl, rfl, (fun x hx => had_144 x hx), (fun x hx hn_1 hn_pt hn_pp => ((va_up_ne _ _ hn_pp).trans ((va_up_ne _ _ hn_pt).trans ((hfr_144 x hx hn_1).trans rfl)))), ((va_up_ne _ _ (by omega)).trans ((va_up_ne _ _ (by omega)).trans hf144_0)), ((va_up_ne _ _ (Ne.symm ne_pp_t)).trans ((va_up_ne _ _ (Ne.symm ne_pt_t)).trans hf144_1)), ((va_up_ne _ _ (Ne.symm ne_pp_ro)).trans ((va_up_ne _ _ (Ne.symm ne_pt_ro)).trans hf144_2)), ((va_up_ne _ _ (Ne.symm ne_pp_a)).trans ((va_up_ne _ _ (Ne.symm ne_pt_a)).trans hf144_3)), ((va_up_ne _ _ (Ne.symm ne_pp_bl)).trans ((va_up_ne _ _ (Ne.symm ne_pt_bl)).trans hf144_4)), ((va_up_ne _ _ (Ne.symm ne_pp_pt)).trans (va_up_self _ _ _)), (va_up_self _ _ _)⟩
