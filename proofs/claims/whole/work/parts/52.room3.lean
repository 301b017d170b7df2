set_option maxHeartbeats 1000000 in
set_option maxRecDepth 100000 in
theorem c_X_at_t (l : Launch) (D : va_G) (ty : Nat → ClassId) (L : List Nat) (ad : Nat → Nat) (g : Nat → va_E) (pn qn : Nat) (nw : Int32) (tr : Int64) (vf : Nat → Option Nat) (r ra n b : Nat) (bs : Nat → Int32) (k : Nat) (m_0 : 0 ∈ L) (m_7 : 7 ∈ L) (m_r : r ∈ L) (m_ra : ra ∈ L) (h_0 : g 0 = .inr (8, [.ref (ad 1), .ref (ad 3), .ref (ad 6), .int (nI pn), .ref (ad 7), .ref (ad 20), .ref (ad 22), .ref (ad 28), .int (nI qn), .ref (ad 29), .int nw, .long tr])) (h_7 : g 7 = .inl (ty 6, 6, .inr (.inr (.inr (.inr vf))))) (h_r : g r = .inr (5, [.ref (ad ra), .int (nI n)])) (h_ra : g ra = .inl (ty 2, 80, .inl bs)) (hb6 : b < 6) (hvr : vf b = some (ad r)) (hn80 : n ≤ 80) (hk : k < n) : m_E l yX8_at wsX8_at 2 42 D ty [.ref (ad 0), .int (nI b), .int (nI k)] L ad g (some (.int (bs k))) g := by
  intro sz
  refine Met.ofW (cc := cX8_at) (maxL := 4) (ret := (some .int)) (by decide) rfl ?_
  intro p e s m args below meth c s₁ B hml hv
  have hx := B.exec
  have hb := B.bytes
  have hrt := B.returns
  have hts := atoms_spec (ws := wsX8_at) B.pre
  have hown : s.vm.findClass RX8 = some m.cls := findClass_of_methodNamed B.named
  have hlocks := B.notSynchronized
  obtain ⟨rfl, hB⟩ := m_start hv
  generalize va_A (m_w L ad g) sz = A at hB ⊢
  generalize s.heap = H at hB ⊢
  generalize ([] : List Loc) = locs at hB ⊢
  have hl := lv_entry ([.ref (ad 0), .int (nI b), .int (nI k)]) (n := 4) (Nat.le_of_ble_eq_true rfl)
  rw [lg_entry_eq]
  generalize (lg_sl ([.ref (ad 0), .int (nI b), .int (nI k)]) ++ List.replicate (4 - (lg_sl ([.ref (ad 0), .int (nI b), .int (nI k)])).length) Slot.unset).toArray = ls at hl ⊢
  have hl : lv_has ls 4 [(0, .ref (ad 0)), (1, .int (nI b)), (2, .int (nI k))] := hl
  refine lv_aload_n hx hb dX8_at_0 rfl (lv_at hl 0 rfl) ?_
  refine lv_iload_n hx hb dX8_at_1 rfl (lv_at hl 1 rfl) ?_
  refine m_callVE (ci := 8) (As := [.int (nI b)]) (rest := []) ((by have h9 := c_X_lastView_t l D ty L ad g pn qn nw tr vf b m_0 m_7 h_0 h_7 hb6; rw [hvr] at h9; exact h9 : m_E l yX8_lastViewOf wsX8_lastViewOf 1 21 D ty [.ref (ad 0), .int (nI b)] L ad g (some (.ref (ad r))) g)) ⟨hx, hb, hml, hown, hts⟩ (cwV 1 hts gX8_at_X8_lastViewOf rfl rfl rfl (by decide +kernel) ⟨Nat.le_of_ble_eq_true rfl, Nat.le_of_ble_eq_true rfl⟩) hB m_0 h_0 rfl rfl hl.1 rfl (Nat.le_of_ble_eq_true rfl) dX8_at_2 ⟨Nat.le_of_ble_eq_true rfl, Nat.le_of_ble_eq_true rfl⟩ (fun H locs hB => ?_)
  refine lv_astore_n (lv' := [(3, .ref (ad r)), (0, .ref (ad 0)), (1, .int (nI b)), (2, .int (nI k))]) hx hb dX8_at_5 rfl hl (by decide) rfl (fun ls hl => ?_)
  refine lv_aload_n hx hb dX8_at_6 rfl (lv_at hl 0 rfl) ?_
  refine lv_ifnonnull (tgt := 14) hx hb dX8_at_7 (by decide) ?_
  refine lv_aload_n hx hb dX8_at_14 rfl (lv_at hl 0 rfl) ?_
  refine lv_iload_n hx hb dX8_at_15 rfl (lv_at hl 3 rfl) ?_
  refine m_callVE (ci := 5) (As := [.int (nI k)]) (rest := []) (c_Row_get_t l D ty L ad g r ra n 80 bs k m_r m_ra h_r h_ra hk hn80 (by omega)) ⟨hx, hb, hml, hown, hts⟩ (cwV 1 hts gX8_at_X5_get rfl rfl rfl (by decide +kernel) ⟨Nat.le_of_ble_eq_true rfl, Nat.le_of_ble_eq_true rfl⟩) hB m_r h_r rfl rfl hl.1 rfl (Nat.le_of_ble_eq_true rfl) dX8_at_16 ⟨Nat.le_of_ble_eq_true rfl, Nat.le_of_ble_eq_true rfl⟩ (fun H locs hB => ?_)
  exact m_iret hx hb hrt hlocks hB (Nat.le_refl _) (Nat.le_refl _) dX8_at_19 ⟨rfl, rfl, rfl, rfl⟩
set_option maxHeartbeats 1000000 in
set_option maxRecDepth 100000 in
theorem c_X_at_f (l : Launch) (D : va_G) (ty : Nat → ClassId) (L : List Nat) (ad : Nat → Nat) (g : Nat → va_E) (pn qn : Nat) (nw : Int32) (tr : Int64) (vf : Nat → Option Nat) (r ra n b : Nat) (bs : Nat → Int32) (i : Int32) (m_0 : 0 ∈ L) (m_7 : 7 ∈ L) (m_r : r ∈ L) (m_ra : ra ∈ L) (h_0 : g 0 = .inr (8, [.ref (ad 1), .ref (ad 3), .ref (ad 6), .int (nI pn), .ref (ad 7), .ref (ad 20), .ref (ad 22), .ref (ad 28), .int (nI qn), .ref (ad 29), .int nw, .long tr])) (h_7 : g 7 = .inl (ty 6, 6, .inr (.inr (.inr (.inr vf))))) (h_r : g r = .inr (5, [.ref (ad ra), .int (nI n)])) (h_ra : g ra = .inl (ty 2, 80, .inl bs)) (hb6 : b < 6) (hvr : vf b = some (ad r)) (hn80 : n ≤ 80) (hi : ¬ (0 ≤ i.toInt ∧ i.toInt < n)) : m_E l yX8_at wsX8_at 2 42 D ty [.ref (ad 0), .int (nI b), .int i] L ad g (some (.int (-9))) g := by
  intro sz
  refine Met.ofW (cc := cX8_at) (maxL := 4) (ret := (some .int)) (by decide) rfl ?_
  intro p e s m args below meth c s₁ B hml hv
  have hx := B.exec
  have hb := B.bytes
  have hrt := B.returns
  have hts := atoms_spec (ws := wsX8_at) B.pre
  have hown : s.vm.findClass RX8 = some m.cls := findClass_of_methodNamed B.named
  have hlocks := B.notSynchronized
  obtain ⟨rfl, hB⟩ := m_start hv
  generalize va_A (m_w L ad g) sz = A at hB ⊢
  generalize s.heap = H at hB ⊢
  generalize ([] : List Loc) = locs at hB ⊢
  have hl := lv_entry ([.ref (ad 0), .int (nI b), .int i]) (n := 4) (Nat.le_of_ble_eq_true rfl)
  rw [lg_entry_eq]
  generalize (lg_sl ([.ref (ad 0), .int (nI b), .int i]) ++ List.replicate (4 - (lg_sl ([.ref (ad 0), .int (nI b), .int i])).length) Slot.unset).toArray = ls at hl ⊢
  have hl : lv_has ls 4 [(0, .ref (ad 0)), (1, .int (nI b)), (2, .int i)] := hl
  have tI_n : (nI n).toInt = (n : Int) := nI_toInt (by omega)
  refine lv_aload_n hx hb dX8_at_0 rfl (lv_at hl 0 rfl) ?_
  refine lv_iload_n hx hb dX8_at_1 rfl (lv_at hl 1 rfl) ?_
  refine m_callVE (ci := 8) (As := [.int (nI b)]) (rest := []) ((by have h9 := c_X_lastView_t l D ty L ad g pn qn nw tr vf b m_0 m_7 h_0 h_7 hb6; rw [hvr] at h9; exact h9 : m_E l yX8_lastViewOf wsX8_lastViewOf 1 21 D ty [.ref (ad 0), .int (nI b)] L ad g (some (.ref (ad r))) g)) ⟨hx, hb, hml, hown, hts⟩ (cwV 1 hts gX8_at_X8_lastViewOf rfl rfl rfl (by decide +kernel) ⟨Nat.le_of_ble_eq_true rfl, Nat.le_of_ble_eq_true rfl⟩) hB m_0 h_0 rfl rfl hl.1 rfl (Nat.le_of_ble_eq_true rfl) dX8_at_2 ⟨Nat.le_of_ble_eq_true rfl, Nat.le_of_ble_eq_true rfl⟩ (fun H locs hB => ?_)
  refine lv_astore_n (lv' := [(3, .ref (ad r)), (0, .ref (ad 0)), (1, .int (nI b)), (2, .int i)]) hx hb dX8_at_5 rfl hl (by decide) rfl (fun ls hl => ?_)
  refine lv_aload_n hx hb dX8_at_6 rfl (lv_at hl 0 rfl) ?_
  refine lv_ifnonnull (tgt := 14) hx hb dX8_at_7 (by decide) ?_
  refine lv_aload_n hx hb dX8_at_14 rfl (lv_at hl 0 rfl) ?_
  refine lv_iload_n hx hb dX8_at_15 rfl (lv_at hl 3 rfl) ?_
  refine m_callVE (ci := 5) (As := [.int i]) (rest := []) (c_Row_get_f l D ty L ad g r ra n 80 bs i m_r m_ra h_r h_ra (by omega)) ⟨hx, hb, hml, hown, hts⟩ (cwV 1 hts gX8_at_X5_get rfl rfl rfl (by decide +kernel) ⟨Nat.le_of_ble_eq_true rfl, Nat.le_of_ble_eq_true rfl⟩) hB m_r h_r rfl rfl hl.1 rfl (Nat.le_of_ble_eq_true rfl) dX8_at_16 ⟨Nat.le_of_ble_eq_true rfl, Nat.le_of_ble_eq_true rfl⟩ (fun H locs hB => ?_)
  exact m_iret hx hb hrt hlocks hB (Nat.le_refl _) (Nat.le_refl _) dX8_at_19 ⟨rfl, rfl, rfl, rfl⟩
set_option maxHeartbeats 1000000 in
set_option maxRecDepth 100000 in
theorem c_X_at_bad (l : Launch) (D : va_G) (ty : Nat → ClassId) (L : List Nat) (ad : Nat → Nat) (g : Nat → va_E) (pn qn : Nat) (nw : Int32) (tr : Int64) (vf : Nat → Option Nat) (i w : Int32) (m_0 : 0 ∈ L) (m_7 : 7 ∈ L) (h_0 : g 0 = .inr (8, [.ref (ad 1), .ref (ad 3), .ref (ad 6), .int (nI pn), .ref (ad 7), .ref (ad 20), .ref (ad 22), .ref (ad 28), .int (nI qn), .ref (ad 29), .int nw, .long tr])) (h_7 : g 7 = .inl (ty 6, 6, .inr (.inr (.inr (.inr vf))))) (hi : ¬ (0 ≤ i.toInt ∧ i.toInt < 6)) : m_E l yX8_at wsX8_at 2 42 D ty [.ref (ad 0), .int i, .int w] L ad g (some (.int (-1))) g := by
  intro sz
  refine Met.ofW (cc := cX8_at) (maxL := 4) (ret := (some .int)) (by decide) rfl ?_
  intro p e s m args below meth c s₁ B hml hv
  have hx := B.exec
  have hb := B.bytes
  have hrt := B.returns
  have hts := atoms_spec (ws := wsX8_at) B.pre
  have hown : s.vm.findClass RX8 = some m.cls := findClass_of_methodNamed B.named
  have hlocks := B.notSynchronized
  obtain ⟨rfl, hB⟩ := m_start hv
  generalize va_A (m_w L ad g) sz = A at hB ⊢
  generalize s.heap = H at hB ⊢
  generalize ([] : List Loc) = locs at hB ⊢
  have hl := lv_entry ([.ref (ad 0), .int i, .int w]) (n := 4) (Nat.le_of_ble_eq_true rfl)
  rw [lg_entry_eq]
  generalize (lg_sl ([.ref (ad 0), .int i, .int w]) ++ List.replicate (4 - (lg_sl ([.ref (ad 0), .int i, .int w])).length) Slot.unset).toArray = ls at hl ⊢
  have hl : lv_has ls 4 [(0, .ref (ad 0)), (1, .int i), (2, .int w)] := hl
  refine lv_aload_n hx hb dX8_at_0 rfl (lv_at hl 0 rfl) ?_
  refine lv_iload_n hx hb dX8_at_1 rfl (lv_at hl 1 rfl) ?_
  refine m_callVE (ci := 8) (As := [.int i]) (rest := []) (c_X_lastView_f l D ty L ad g pn qn nw tr vf i m_0 m_7 h_0 h_7 hi) ⟨hx, hb, hml, hown, hts⟩ (cwV 1 hts gX8_at_X8_lastViewOf rfl rfl rfl (by decide +kernel) ⟨Nat.le_of_ble_eq_true rfl, Nat.le_of_ble_eq_true rfl⟩) hB m_0 h_0 rfl rfl hl.1 rfl (Nat.le_of_ble_eq_true rfl) dX8_at_2 ⟨Nat.le_of_ble_eq_true rfl, Nat.le_of_ble_eq_true rfl⟩ (fun H locs hB => ?_)
  refine lv_astore_nN (lv' := [(3, .null), (0, .ref (ad 0)), (1, .int i), (2, .int w)]) hx hb dX8_at_5 rfl hl (by decide) rfl (fun ls hl => ?_)
  refine lv_aload_nN hx hb dX8_at_6 rfl (lv_at hl 0 rfl) ?_
  refine lv_ifnonnullN hx hb dX8_at_7 ?_
  refine lv_iconst (v := (-1)) hx hb dX8_at_10 (by decide) ?_
  refine lv_goto (tgt := 19) hx hb dX8_at_11 (by decide) ?_
  exact m_iret hx hb hrt hlocks hB (Nat.le_refl _) (Nat.le_refl _) dX8_at_19 ⟨rfl, rfl, rfl, rfl⟩
set_option maxRecDepth 20000 in
theorem in_X8_log_X8 : ∀ w ∈ wsX80, w ∈ wsX8_log := by decide +kernel
set_option maxHeartbeats 1000000 in
set_option maxRecDepth 100000 in
theorem c_X_log_0 (l : Launch) (D : va_G) (ty : Nat → ClassId) (L : List Nat) (ad : Nat → Nat) (g : Nat → va_E) (pn qn : Nat) (nw : Int32) (tr : Int64) (en : Nat) (lo : Int32) (f0 f1 f2 f3 : Nat → Int32) (f4 : Nat → Int64) (k : Nat) (m_0 : 0 ∈ L) (m_22 : 22 ∈ L) (m_23 : 23 ∈ L) (m_24 : 24 ∈ L) (m_25 : 25 ∈ L) (m_26 : 26 ∈ L) (m_27 : 27 ∈ L) (h_0 : g 0 = .inr (8, [.ref (ad 1), .ref (ad 3), .ref (ad 6), .int (nI pn), .ref (ad 7), .ref (ad 20), .ref (ad 22), .ref (ad 28), .int (nI qn), .ref (ad 29), .int nw, .long tr])) (h_22 : g 22 = .inr (6, [.ref (ad 23), .ref (ad 24), .ref (ad 25), .ref (ad 26), .ref (ad 27), .int (nI en), .int lo])) (h_23 : g 23 = .inl (ty 0, 200, .inl f0)) (h_24 : g 24 = .inl (ty 0, 200, .inl f1)) (h_25 : g 25 = .inl (ty 0, 200, .inl f2)) (h_26 : g 26 = .inl (ty 0, 200, .inl f3)) (h_27 : g 27 = .inl (ty 1, 200, .inr (.inl f4))) (hk : k < en) (he : en ≤ 200) : m_E l yX8_log wsX8_log 3 64 D ty [.ref (ad 0), .int (nI k), .int 0] L ad g (some (.int (f0 k))) g := by
  intro sz
  refine Met.ofW (cc := cX8_log) (maxL := 3) (ret := (some .int)) (by decide) rfl ?_
  intro p e s m args below meth c s₁ B hml hv
  have hx := B.exec
  have hb := B.bytes
  have hrt := B.returns
  have hts := atoms_spec (ws := wsX8_log) B.pre
  have hown : s.vm.findClass RX8 = some m.cls := findClass_of_methodNamed B.named
  have hlocks := B.notSynchronized
  obtain ⟨rfl, hB⟩ := m_start hv
  generalize va_A (m_w L ad g) sz = A at hB ⊢
  generalize s.heap = H at hB ⊢
  generalize ([] : List Loc) = locs at hB ⊢
  have hl := lv_entry ([.ref (ad 0), .int (nI k), .int 0]) (n := 3) (Nat.le_of_ble_eq_true rfl)
  rw [lg_entry_eq]
  generalize (lg_sl ([.ref (ad 0), .int (nI k), .int 0]) ++ List.replicate (3 - (lg_sl ([.ref (ad 0), .int (nI k), .int 0])).length) Slot.unset).toArray = ls at hl ⊢
  have hl : lv_has ls 3 [(0, .ref (ad 0)), (1, .int (nI k)), (2, .int 0)] := hl
  refine lv_aload_n hx hb dX8_log_0 rfl (lv_at hl 0 rfl) ?_
  refine m_get (C := RX8) (T := TX8) (N := 12) (ci := 8) hx hb hts in_X8_log_X8 hown hB m_0 h_0 rfl 6 (by decide) (hts (.fieldLink RX8 41 "PaperRoom" "seen" "LPaperRoom$Seen;") (by decide +kernel)) (fun _ h9 => h9) rfl dX8_log_1 ?_
  refine lv_iload_n hx hb dX8_log_4 rfl (lv_at hl 1 rfl) ?_
  refine lv_iload_n hx hb dX8_log_5 rfl (lv_at hl 2 rfl) ?_
  refine m_callVE (ci := 6) (As := [.int (nI k), .int 0]) (rest := []) (c_Seen_told_0 l D ty L ad g 22 23 24 25 26 27 en lo f0 f1 f2 f3 f4 k m_22 m_23 m_24 m_25 m_26 m_27 h_22 h_23 h_24 h_25 h_26 h_27 hk he) ⟨hx, hb, hml, hown, hts⟩ (cwV 2 hts gX8_log_X6_told rfl rfl rfl (by decide +kernel) ⟨Nat.le_of_ble_eq_true rfl, Nat.le_of_ble_eq_true rfl⟩) hB m_22 h_22 rfl rfl hl.1 rfl (Nat.le_of_ble_eq_true rfl) dX8_log_6 ⟨Nat.le_of_ble_eq_true rfl, Nat.le_of_ble_eq_true rfl⟩ (fun H locs hB => ?_)
  exact m_iret hx hb hrt hlocks hB (Nat.le_refl _) (Nat.le_refl _) dX8_log_9 ⟨rfl, rfl, rfl, rfl⟩
set_option maxHeartbeats 1000000 in
set_option maxRecDepth 100000 in
theorem c_X_log_1 (l : Launch) (D : va_G) (ty : Nat → ClassId) (L : List Nat) (ad : Nat → Nat) (g : Nat → va_E) (pn qn : Nat) (nw : Int32) (tr : Int64) (en : Nat) (lo : Int32) (f0 f1 f2 f3 : Nat → Int32) (f4 : Nat → Int64) (k : Nat) (m_0 : 0 ∈ L) (m_22 : 22 ∈ L) (m_23 : 23 ∈ L) (m_24 : 24 ∈ L) (m_25 : 25 ∈ L) (m_26 : 26 ∈ L) (m_27 : 27 ∈ L) (h_0 : g 0 = .inr (8, [.ref (ad 1), .ref (ad 3), .ref (ad 6), .int (nI pn), .ref (ad 7), .ref (ad 20), .ref (ad 22), .ref (ad 28), .int (nI qn), .ref (ad 29), .int nw, .long tr])) (h_22 : g 22 = .inr (6, [.ref (ad 23), .ref (ad 24), .ref (ad 25), .ref (ad 26), .ref (ad 27), .int (nI en), .int lo])) (h_23 : g 23 = .inl (ty 0, 200, .inl f0)) (h_24 : g 24 = .inl (ty 0, 200, .inl f1)) (h_25 : g 25 = .inl (ty 0, 200, .inl f2)) (h_26 : g 26 = .inl (ty 0, 200, .inl f3)) (h_27 : g 27 = .inl (ty 1, 200, .inr (.inl f4))) (hk : k < en) (he : en ≤ 200) : m_E l yX8_log wsX8_log 3 64 D ty [.ref (ad 0), .int (nI k), .int 1] L ad g (some (.int (f1 k))) g := by
  intro sz
  refine Met.ofW (cc := cX8_log) (maxL := 3) (ret := (some .int)) (by decide) rfl ?_
  intro p e s m args below meth c s₁ B hml hv
  have hx := B.exec
  have hb := B.bytes
  have hrt := B.returns
  have hts := atoms_spec (ws := wsX8_log) B.pre
  have hown : s.vm.findClass RX8 = some m.cls := findClass_of_methodNamed B.named
  have hlocks := B.notSynchronized
  obtain ⟨rfl, hB⟩ := m_start hv
  generalize va_A (m_w L ad g) sz = A at hB ⊢
  generalize s.heap = H at hB ⊢
  generalize ([] : List Loc) = locs at hB ⊢
  have hl := lv_entry ([.ref (ad 0), .int (nI k), .int 1]) (n := 3) (Nat.le_of_ble_eq_true rfl)
  rw [lg_entry_eq]
  generalize (lg_sl ([.ref (ad 0), .int (nI k), .int 1]) ++ List.replicate (3 - (lg_sl ([.ref (ad 0), .int (nI k), .int 1])).length) Slot.unset).toArray = ls at hl ⊢
  have hl : lv_has ls 3 [(0, .ref (ad 0)), (1, .int (nI k)), (2, .int 1)] := hl
  refine lv_aload_n hx hb dX8_log_0 rfl (lv_at hl 0 rfl) ?_
  refine m_get (C := RX8) (T := TX8) (N := 12) (ci := 8) hx hb hts in_X8_log_X8 hown hB m_0 h_0 rfl 6 (by decide) (hts (.fieldLink RX8 41 "PaperRoom" "seen" "LPaperRoom$Seen;") (by decide +kernel)) (fun _ h9 => h9) rfl dX8_log_1 ?_
  refine lv_iload_n hx hb dX8_log_4 rfl (lv_at hl 1 rfl) ?_
  refine lv_iload_n hx hb dX8_log_5 rfl (lv_at hl 2 rfl) ?_
  refine m_callVE (ci := 6) (As := [.int (nI k), .int 1]) (rest := []) (c_Seen_told_1 l D ty L ad g 22 23 24 25 26 27 en lo f0 f1 f2 f3 f4 k m_22 m_23 m_24 m_25 m_26 m_27 h_22 h_23 h_24 h_25 h_26 h_27 hk he) ⟨hx, hb, hml, hown, hts⟩ (cwV 2 hts gX8_log_X6_told rfl rfl rfl (by decide +kernel) ⟨Nat.le_of_ble_eq_true rfl, Nat.le_of_ble_eq_true rfl⟩) hB m_22 h_22 rfl rfl hl.1 rfl (Nat.le_of_ble_eq_true rfl) dX8_log_6 ⟨Nat.le_of_ble_eq_true rfl, Nat.le_of_ble_eq_true rfl⟩ (fun H locs hB => ?_)
  exact m_iret hx hb hrt hlocks hB (Nat.le_refl _) (Nat.le_refl _) dX8_log_9 ⟨rfl, rfl, rfl, rfl⟩
set_option maxHeartbeats 1000000 in
set_option maxRecDepth 100000 in
theorem c_X_log_2 (l : Launch) (D : va_G) (ty : Nat → ClassId) (L : List Nat) (ad : Nat → Nat) (g : Nat → va_E) (pn qn : Nat) (nw : Int32) (tr : Int64) (en : Nat) (lo : Int32) (f0 f1 f2 f3 : Nat → Int32) (f4 : Nat → Int64) (k : Nat) (m_0 : 0 ∈ L) (m_22 : 22 ∈ L) (m_23 : 23 ∈ L) (m_24 : 24 ∈ L) (m_25 : 25 ∈ L) (m_26 : 26 ∈ L) (m_27 : 27 ∈ L) (h_0 : g 0 = .inr (8, [.ref (ad 1), .ref (ad 3), .ref (ad 6), .int (nI pn), .ref (ad 7), .ref (ad 20), .ref (ad 22), .ref (ad 28), .int (nI qn), .ref (ad 29), .int nw, .long tr])) (h_22 : g 22 = .inr (6, [.ref (ad 23), .ref (ad 24), .ref (ad 25), .ref (ad 26), .ref (ad 27), .int (nI en), .int lo])) (h_23 : g 23 = .inl (ty 0, 200, .inl f0)) (h_24 : g 24 = .inl (ty 0, 200, .inl f1)) (h_25 : g 25 = .inl (ty 0, 200, .inl f2)) (h_26 : g 26 = .inl (ty 0, 200, .inl f3)) (h_27 : g 27 = .inl (ty 1, 200, .inr (.inl f4))) (hk : k < en) (he : en ≤ 200) : m_E l yX8_log wsX8_log 3 64 D ty [.ref (ad 0), .int (nI k), .int 2] L ad g (some (.int (f2 k))) g := by
  intro sz
  refine Met.ofW (cc := cX8_log) (maxL := 3) (ret := (some .int)) (by decide) rfl ?_
  intro p e s m args below meth c s₁ B hml hv
  have hx := B.exec
  have hb := B.bytes
  have hrt := B.returns
  have hts := atoms_spec (ws := wsX8_log) B.pre
  have hown : s.vm.findClass RX8 = some m.cls := findClass_of_methodNamed B.named
  have hlocks := B.notSynchronized
  obtain ⟨rfl, hB⟩ := m_start hv
  generalize va_A (m_w L ad g) sz = A at hB ⊢
  generalize s.heap = H at hB ⊢
  generalize ([] : List Loc) = locs at hB ⊢
  have hl := lv_entry ([.ref (ad 0), .int (nI k), .int 2]) (n := 3) (Nat.le_of_ble_eq_true rfl)
  rw [lg_entry_eq]
  generalize (lg_sl ([.ref (ad 0), .int (nI k), .int 2]) ++ List.replicate (3 - (lg_sl ([.ref (ad 0), .int (nI k), .int 2])).length) Slot.unset).toArray = ls at hl ⊢
  have hl : lv_has ls 3 [(0, .ref (ad 0)), (1, .int (nI k)), (2, .int 2)] := hl
  refine lv_aload_n hx hb dX8_log_0 rfl (lv_at hl 0 rfl) ?_
  refine m_get (C := RX8) (T := TX8) (N := 12) (ci := 8) hx hb hts in_X8_log_X8 hown hB m_0 h_0 rfl 6 (by decide) (hts (.fieldLink RX8 41 "PaperRoom" "seen" "LPaperRoom$Seen;") (by decide +kernel)) (fun _ h9 => h9) rfl dX8_log_1 ?_
  refine lv_iload_n hx hb dX8_log_4 rfl (lv_at hl 1 rfl) ?_
  refine lv_iload_n hx hb dX8_log_5 rfl (lv_at hl 2 rfl) ?_
  refine m_callVE (ci := 6) (As := [.int (nI k), .int 2]) (rest := []) (c_Seen_told_2 l D ty L ad g 22 23 24 25 26 27 en lo f0 f1 f2 f3 f4 k m_22 m_23 m_24 m_25 m_26 m_27 h_22 h_23 h_24 h_25 h_26 h_27 hk he) ⟨hx, hb, hml, hown, hts⟩ (cwV 2 hts gX8_log_X6_told rfl rfl rfl (by decide +kernel) ⟨Nat.le_of_ble_eq_true rfl, Nat.le_of_ble_eq_true rfl⟩) hB m_22 h_22 rfl rfl hl.1 rfl (Nat.le_of_ble_eq_true rfl) dX8_log_6 ⟨Nat.le_of_ble_eq_true rfl, Nat.le_of_ble_eq_true rfl⟩ (fun H locs hB => ?_)
  exact m_iret hx hb hrt hlocks hB (Nat.le_refl _) (Nat.le_refl _) dX8_log_9 ⟨rfl, rfl, rfl, rfl⟩
set_option maxHeartbeats 1000000 in
set_option maxRecDepth 100000 in
theorem c_X_log_3 (l : Launch) (D : va_G) (ty : Nat → ClassId) (L : List Nat) (ad : Nat → Nat) (g : Nat → va_E) (pn qn : Nat) (nw : Int32) (tr : Int64) (en : Nat) (lo : Int32) (f0 f1 f2 f3 : Nat → Int32) (f4 : Nat → Int64) (k : Nat) (m_0 : 0 ∈ L) (m_22 : 22 ∈ L) (m_23 : 23 ∈ L) (m_24 : 24 ∈ L) (m_25 : 25 ∈ L) (m_26 : 26 ∈ L) (m_27 : 27 ∈ L) (h_0 : g 0 = .inr (8, [.ref (ad 1), .ref (ad 3), .ref (ad 6), .int (nI pn), .ref (ad 7), .ref (ad 20), .ref (ad 22), .ref (ad 28), .int (nI qn), .ref (ad 29), .int nw, .long tr])) (h_22 : g 22 = .inr (6, [.ref (ad 23), .ref (ad 24), .ref (ad 25), .ref (ad 26), .ref (ad 27), .int (nI en), .int lo])) (h_23 : g 23 = .inl (ty 0, 200, .inl f0)) (h_24 : g 24 = .inl (ty 0, 200, .inl f1)) (h_25 : g 25 = .inl (ty 0, 200, .inl f2)) (h_26 : g 26 = .inl (ty 0, 200, .inl f3)) (h_27 : g 27 = .inl (ty 1, 200, .inr (.inl f4))) (hk : k < en) (he : en ≤ 200) : m_E l yX8_log wsX8_log 3 64 D ty [.ref (ad 0), .int (nI k), .int 3] L ad g (some (.int (f3 k))) g := by
  intro sz
  refine Met.ofW (cc := cX8_log) (maxL := 3) (ret := (some .int)) (by decide) rfl ?_
  intro p e s m args below meth c s₁ B hml hv
  have hx := B.exec
  have hb := B.bytes
  have hrt := B.returns
  have hts := atoms_spec (ws := wsX8_log) B.pre
  have hown : s.vm.findClass RX8 = some m.cls := findClass_of_methodNamed B.named
  have hlocks := B.notSynchronized
  obtain ⟨rfl, hB⟩ := m_start hv
  generalize va_A (m_w L ad g) sz = A at hB ⊢
  generalize s.heap = H at hB ⊢
  generalize ([] : List Loc) = locs at hB ⊢
  have hl := lv_entry ([.ref (ad 0), .int (nI k), .int 3]) (n := 3) (Nat.le_of_ble_eq_true rfl)
  rw [lg_entry_eq]
  generalize (lg_sl ([.ref (ad 0), .int (nI k), .int 3]) ++ List.replicate (3 - (lg_sl ([.ref (ad 0), .int (nI k), .int 3])).length) Slot.unset).toArray = ls at hl ⊢
  have hl : lv_has ls 3 [(0, .ref (ad 0)), (1, .int (nI k)), (2, .int 3)] := hl
  refine lv_aload_n hx hb dX8_log_0 rfl (lv_at hl 0 rfl) ?_
  refine m_get (C := RX8) (T := TX8) (N := 12) (ci := 8) hx hb hts in_X8_log_X8 hown hB m_0 h_0 rfl 6 (by decide) (hts (.fieldLink RX8 41 "PaperRoom" "seen" "LPaperRoom$Seen;") (by decide +kernel)) (fun _ h9 => h9) rfl dX8_log_1 ?_
  refine lv_iload_n hx hb dX8_log_4 rfl (lv_at hl 1 rfl) ?_
  refine lv_iload_n hx hb dX8_log_5 rfl (lv_at hl 2 rfl) ?_
  refine m_callVE (ci := 6) (As := [.int (nI k), .int 3]) (rest := []) (c_Seen_told_3 l D ty L ad g 22 23 24 25 26 27 en lo f0 f1 f2 f3 f4 k m_22 m_23 m_24 m_25 m_26 m_27 h_22 h_23 h_24 h_25 h_26 h_27 hk he) ⟨hx, hb, hml, hown, hts⟩ (cwV 2 hts gX8_log_X6_told rfl rfl rfl (by decide +kernel) ⟨Nat.le_of_ble_eq_true rfl, Nat.le_of_ble_eq_true rfl⟩) hB m_22 h_22 rfl rfl hl.1 rfl (Nat.le_of_ble_eq_true rfl) dX8_log_6 ⟨Nat.le_of_ble_eq_true rfl, Nat.le_of_ble_eq_true rfl⟩ (fun H locs hB => ?_)
  exact m_iret hx hb hrt hlocks hB (Nat.le_refl _) (Nat.le_refl _) dX8_log_9 ⟨rfl, rfl, rfl, rfl⟩
set_option maxHeartbeats 1000000 in
set_option maxRecDepth 100000 in
theorem c_X_log_x (l : Launch) (D : va_G) (ty : Nat → ClassId) (L : List Nat) (ad : Nat → Nat) (g : Nat → va_E) (pn qn : Nat) (nw : Int32) (tr : Int64) (en : Nat) (lo : Int32) (f0 f1 f2 f3 : Nat → Int32) (f4 : Nat → Int64) (k : Nat) (w : Int32) (m_0 : 0 ∈ L) (m_22 : 22 ∈ L) (m_23 : 23 ∈ L) (m_24 : 24 ∈ L) (m_25 : 25 ∈ L) (m_26 : 26 ∈ L) (m_27 : 27 ∈ L) (h_0 : g 0 = .inr (8, [.ref (ad 1), .ref (ad 3), .ref (ad 6), .int (nI pn), .ref (ad 7), .ref (ad 20), .ref (ad 22), .ref (ad 28), .int (nI qn), .ref (ad 29), .int nw, .long tr])) (h_22 : g 22 = .inr (6, [.ref (ad 23), .ref (ad 24), .ref (ad 25), .ref (ad 26), .ref (ad 27), .int (nI en), .int lo])) (h_23 : g 23 = .inl (ty 0, 200, .inl f0)) (h_24 : g 24 = .inl (ty 0, 200, .inl f1)) (h_25 : g 25 = .inl (ty 0, 200, .inl f2)) (h_26 : g 26 = .inl (ty 0, 200, .inl f3)) (h_27 : g 27 = .inl (ty 1, 200, .inr (.inl f4))) (hk : k < en) (he : en ≤ 200) (hw : w.toInt < 0 ∨ 3 < w.toInt) : m_E l yX8_log wsX8_log 3 64 D ty [.ref (ad 0), .int (nI k), .int w] L ad g (some (.int (-1))) g := by
  intro sz
  refine Met.ofW (cc := cX8_log) (maxL := 3) (ret := (some .int)) (by decide) rfl ?_
  intro p e s m args below meth c s₁ B hml hv
  have hx := B.exec
  have hb := B.bytes
  have hrt := B.returns
  have hts := atoms_spec (ws := wsX8_log) B.pre
  have hown : s.vm.findClass RX8 = some m.cls := findClass_of_methodNamed B.named
  have hlocks := B.notSynchronized
  obtain ⟨rfl, hB⟩ := m_start hv
  generalize va_A (m_w L ad g) sz = A at hB ⊢
  generalize s.heap = H at hB ⊢
  generalize ([] : List Loc) = locs at hB ⊢
  have hl := lv_entry ([.ref (ad 0), .int (nI k), .int w]) (n := 3) (Nat.le_of_ble_eq_true rfl)
  rw [lg_entry_eq]
  generalize (lg_sl ([.ref (ad 0), .int (nI k), .int w]) ++ List.replicate (3 - (lg_sl ([.ref (ad 0), .int (nI k), .int w])).length) Slot.unset).toArray = ls at hl ⊢
  have hl : lv_has ls 3 [(0, .ref (ad 0)), (1, .int (nI k)), (2, .int w)] := hl
  refine lv_aload_n hx hb dX8_log_0 rfl (lv_at hl 0 rfl) ?_
  refine m_get (C := RX8) (T := TX8) (N := 12) (ci := 8) hx hb hts in_X8_log_X8 hown hB m_0 h_0 rfl 6 (by decide) (hts (.fieldLink RX8 41 "PaperRoom" "seen" "LPaperRoom$Seen;") (by decide +kernel)) (fun _ h9 => h9) rfl dX8_log_1 ?_
  refine lv_iload_n hx hb dX8_log_4 rfl (lv_at hl 1 rfl) ?_
  refine lv_iload_n hx hb dX8_log_5 rfl (lv_at hl 2 rfl) ?_
  refine m_callVE (ci := 6) (As := [.int (nI k), .int w]) (rest := []) (c_Seen_told_x l D ty L ad g 22 23 24 25 26 27 en lo f0 f1 f2 f3 f4 k w m_22 m_23 m_24 m_25 m_26 m_27 h_22 h_23 h_24 h_25 h_26 h_27 hk he hw) ⟨hx, hb, hml, hown, hts⟩ (cwV 2 hts gX8_log_X6_told rfl rfl rfl (by decide +kernel) ⟨Nat.le_of_ble_eq_true rfl, Nat.le_of_ble_eq_true rfl⟩) hB m_22 h_22 rfl rfl hl.1 rfl (Nat.le_of_ble_eq_true rfl) dX8_log_6 ⟨Nat.le_of_ble_eq_true rfl, Nat.le_of_ble_eq_true rfl⟩ (fun H locs hB => ?_)
  exact m_iret hx hb hrt hlocks hB (Nat.le_refl _) (Nat.le_refl _) dX8_log_9 ⟨rfl, rfl, rfl, rfl⟩
set_option maxHeartbeats 1000000 in
set_option maxRecDepth 100000 in
theorem c_X_log_bad (l : Launch) (D : va_G) (ty : Nat → ClassId) (L : List Nat) (ad : Nat → Nat) (g : Nat → va_E) (pn qn : Nat) (nw : Int32) (tr : Int64) (en : Nat) (lo : Int32) (i w : Int32) (m_0 : 0 ∈ L) (m_22 : 22 ∈ L) (h_0 : g 0 = .inr (8, [.ref (ad 1), .ref (ad 3), .ref (ad 6), .int (nI pn), .ref (ad 7), .ref (ad 20), .ref (ad 22), .ref (ad 28), .int (nI qn), .ref (ad 29), .int nw, .long tr])) (h_22 : g 22 = .inr (6, [.ref (ad 23), .ref (ad 24), .ref (ad 25), .ref (ad 26), .ref (ad 27), .int (nI en), .int lo])) (hi : ¬ (0 ≤ i.toInt ∧ i.toInt < en)) (he : en ≤ 200) : m_E l yX8_log wsX8_log 3 64 D ty [.ref (ad 0), .int i, .int w] L ad g (some (.int (-1))) g := by
  intro sz
  refine Met.ofW (cc := cX8_log) (maxL := 3) (ret := (some .int)) (by decide) rfl ?_
  intro p e s m args below meth c s₁ B hml hv
  have hx := B.exec
  have hb := B.bytes
  have hrt := B.returns
  have hts := atoms_spec (ws := wsX8_log) B.pre
  have hown : s.vm.findClass RX8 = some m.cls := findClass_of_methodNamed B.named
  have hlocks := B.notSynchronized
  obtain ⟨rfl, hB⟩ := m_start hv
  generalize va_A (m_w L ad g) sz = A at hB ⊢
  generalize s.heap = H at hB ⊢
  generalize ([] : List Loc) = locs at hB ⊢
  have hl := lv_entry ([.ref (ad 0), .int i, .int w]) (n := 3) (Nat.le_of_ble_eq_true rfl)
  rw [lg_entry_eq]
  generalize (lg_sl ([.ref (ad 0), .int i, .int w]) ++ List.replicate (3 - (lg_sl ([.ref (ad 0), .int i, .int w])).length) Slot.unset).toArray = ls at hl ⊢
  have hl : lv_has ls 3 [(0, .ref (ad 0)), (1, .int i), (2, .int w)] := hl
  have tI_en : (nI en).toInt = (en : Int) := nI_toInt (by omega)
  refine lv_aload_n hx hb dX8_log_0 rfl (lv_at hl 0 rfl) ?_
  refine m_get (C := RX8) (T := TX8) (N := 12) (ci := 8) hx hb hts in_X8_log_X8 hown hB m_0 h_0 rfl 6 (by decide) (hts (.fieldLink RX8 41 "PaperRoom" "seen" "LPaperRoom$Seen;") (by decide +kernel)) (fun _ h9 => h9) rfl dX8_log_1 ?_
  refine lv_iload_n hx hb dX8_log_4 rfl (lv_at hl 1 rfl) ?_
  refine lv_iload_n hx hb dX8_log_5 rfl (lv_at hl 2 rfl) ?_
  refine m_callVE (ci := 6) (As := [.int i, .int w]) (rest := []) (c_Seen_told_f l D ty L ad g 22 23 24 25 26 27 en lo i w m_22 h_22 (by omega)) ⟨hx, hb, hml, hown, hts⟩ (cwV 2 hts gX8_log_X6_told rfl rfl rfl (by decide +kernel) ⟨Nat.le_of_ble_eq_true rfl, Nat.le_of_ble_eq_true rfl⟩) hB m_22 h_22 rfl rfl hl.1 rfl (Nat.le_of_ble_eq_true rfl) dX8_log_6 ⟨Nat.le_of_ble_eq_true rfl, Nat.le_of_ble_eq_true rfl⟩ (fun H locs hB => ?_)
  exact m_iret hx hb hrt hlocks hB (Nat.le_refl _) (Nat.le_refl _) dX8_log_9 ⟨rfl, rfl, rfl, rfl⟩
set_option maxRecDepth 20000 in
theorem in_X8_chain_X8 : ∀ w ∈ wsX80, w ∈ wsX8_chain := by decide +kernel
set_option maxHeartbeats 1000000 in
set_option maxRecDepth 100000 in
theorem c_X_chain_t (l : Launch) (D : va_G) (ty : Nat → ClassId) (L : List Nat) (ad : Nat → Nat) (g : Nat → va_E) (pn qn : Nat) (nw : Int32) (tr : Int64) (en : Nat) (lo : Int32) (f0 f1 f2 f3 : Nat → Int32) (f4 : Nat → Int64) (k : Nat) (m_0 : 0 ∈ L) (m_22 : 22 ∈ L) (m_23 : 23 ∈ L) (m_24 : 24 ∈ L) (m_25 : 25 ∈ L) (m_26 : 26 ∈ L) (m_27 : 27 ∈ L) (h_0 : g 0 = .inr (8, [.ref (ad 1), .ref (ad 3), .ref (ad 6), .int (nI pn), .ref (ad 7), .ref (ad 20), .ref (ad 22), .ref (ad 28), .int (nI qn), .ref (ad 29), .int nw, .long tr])) (h_22 : g 22 = .inr (6, [.ref (ad 23), .ref (ad 24), .ref (ad 25), .ref (ad 26), .ref (ad 27), .int (nI en), .int lo])) (h_23 : g 23 = .inl (ty 0, 200, .inl f0)) (h_24 : g 24 = .inl (ty 0, 200, .inl f1)) (h_25 : g 25 = .inl (ty 0, 200, .inl f2)) (h_26 : g 26 = .inl (ty 0, 200, .inl f3)) (h_27 : g 27 = .inl (ty 1, 200, .inr (.inl f4))) (hk : k < en) (he : en ≤ 200) : m_E l yX8_chain wsX8_chain 3 63 D ty [.ref (ad 0), .int (nI k)] L ad g (some (.long (f4 k))) g := by
  intro sz
  refine Met.ofW (cc := cX8_chain) (maxL := 2) (ret := (some .long)) (by decide) rfl ?_
  intro p e s m args below meth c s₁ B hml hv
  have hx := B.exec
  have hb := B.bytes
  have hrt := B.returns
  have hts := atoms_spec (ws := wsX8_chain) B.pre
  have hown : s.vm.findClass RX8 = some m.cls := findClass_of_methodNamed B.named
  have hlocks := B.notSynchronized
  obtain ⟨rfl, hB⟩ := m_start hv
  generalize va_A (m_w L ad g) sz = A at hB ⊢
  generalize s.heap = H at hB ⊢
  generalize ([] : List Loc) = locs at hB ⊢
  have hl := lv_entry ([.ref (ad 0), .int (nI k)]) (n := 2) (Nat.le_of_ble_eq_true rfl)
  rw [lg_entry_eq]
  generalize (lg_sl ([.ref (ad 0), .int (nI k)]) ++ List.replicate (2 - (lg_sl ([.ref (ad 0), .int (nI k)])).length) Slot.unset).toArray = ls at hl ⊢
  have hl : lv_has ls 2 [(0, .ref (ad 0)), (1, .int (nI k))] := hl
  refine lv_aload_n hx hb dX8_chain_0 rfl (lv_at hl 0 rfl) ?_
  refine m_get (C := RX8) (T := TX8) (N := 12) (ci := 8) hx hb hts in_X8_chain_X8 hown hB m_0 h_0 rfl 6 (by decide) (hts (.fieldLink RX8 41 "PaperRoom" "seen" "LPaperRoom$Seen;") (by decide +kernel)) (fun _ h9 => h9) rfl dX8_chain_1 ?_
  refine lv_iload_n hx hb dX8_chain_4 rfl (lv_at hl 1 rfl) ?_
  refine m_callVE (ci := 6) (As := [.int (nI k)]) (rest := []) (c_Seen_link_t l D ty L ad g 22 23 24 25 26 27 en lo f0 f1 f2 f3 f4 k m_22 m_23 m_24 m_25 m_26 m_27 h_22 h_23 h_24 h_25 h_26 h_27 hk he) ⟨hx, hb, hml, hown, hts⟩ (cwV 1 hts gX8_chain_X6_link rfl rfl rfl (by decide +kernel) ⟨Nat.le_of_ble_eq_true rfl, Nat.le_of_ble_eq_true rfl⟩) hB m_22 h_22 rfl rfl hl.1 rfl (Nat.le_of_ble_eq_true rfl) dX8_chain_5 ⟨Nat.le_of_ble_eq_true rfl, Nat.le_of_ble_eq_true rfl⟩ (fun H locs hB => ?_)
  exact m_lret hx hb hrt hlocks hB (Nat.le_refl _) (Nat.le_refl _) dX8_chain_8 ⟨rfl, rfl, rfl, rfl⟩
set_option maxHeartbeats 1000000 in
set_option maxRecDepth 100000 in
theorem c_X_chain_bad (l : Launch) (D : va_G) (ty : Nat → ClassId) (L : List Nat) (ad : Nat → Nat) (g : Nat → va_E) (pn qn : Nat) (nw : Int32) (tr : Int64) (en : Nat) (lo : Int32) (i : Int32) (m_0 : 0 ∈ L) (m_22 : 22 ∈ L) (h_0 : g 0 = .inr (8, [.ref (ad 1), .ref (ad 3), .ref (ad 6), .int (nI pn), .ref (ad 7), .ref (ad 20), .ref (ad 22), .ref (ad 28), .int (nI qn), .ref (ad 29), .int nw, .long tr])) (h_22 : g 22 = .inr (6, [.ref (ad 23), .ref (ad 24), .ref (ad 25), .ref (ad 26), .ref (ad 27), .int (nI en), .int lo])) (hi : ¬ (0 ≤ i.toInt ∧ i.toInt < en)) (he : en ≤ 200) : m_E l yX8_chain wsX8_chain 3 63 D ty [.ref (ad 0), .int i] L ad g (some (.long 0)) g := by
  intro sz
  refine Met.ofW (cc := cX8_chain) (maxL := 2) (ret := (some .long)) (by decide) rfl ?_
  intro p e s m args below meth c s₁ B hml hv
  have hx := B.exec
  have hb := B.bytes
  have hrt := B.returns
  have hts := atoms_spec (ws := wsX8_chain) B.pre
  have hown : s.vm.findClass RX8 = some m.cls := findClass_of_methodNamed B.named
  have hlocks := B.notSynchronized
  obtain ⟨rfl, hB⟩ := m_start hv
  generalize va_A (m_w L ad g) sz = A at hB ⊢
  generalize s.heap = H at hB ⊢
  generalize ([] : List Loc) = locs at hB ⊢
  have hl := lv_entry ([.ref (ad 0), .int i]) (n := 2) (Nat.le_of_ble_eq_true rfl)
  rw [lg_entry_eq]
  generalize (lg_sl ([.ref (ad 0), .int i]) ++ List.replicate (2 - (lg_sl ([.ref (ad 0), .int i])).length) Slot.unset).toArray = ls at hl ⊢
  have hl : lv_has ls 2 [(0, .ref (ad 0)), (1, .int i)] := hl
  have tI_en : (nI en).toInt = (en : Int) := nI_toInt (by omega)
  refine lv_aload_n hx hb dX8_chain_0 rfl (lv_at hl 0 rfl) ?_
  refine m_get (C := RX8) (T := TX8) (N := 12) (ci := 8) hx hb hts in_X8_chain_X8 hown hB m_0 h_0 rfl 6 (by decide) (hts (.fieldLink RX8 41 "PaperRoom" "seen" "LPaperRoom$Seen;") (by decide +kernel)) (fun _ h9 => h9) rfl dX8_chain_1 ?_
  refine lv_iload_n hx hb dX8_chain_4 rfl (lv_at hl 1 rfl) ?_
  refine m_callVE (ci := 6) (As := [.int i]) (rest := []) (c_Seen_link_f l D ty L ad g 22 23 24 25 26 27 en lo i m_22 h_22 (by omega)) ⟨hx, hb, hml, hown, hts⟩ (cwV 1 hts gX8_chain_X6_link rfl rfl rfl (by decide +kernel) ⟨Nat.le_of_ble_eq_true rfl, Nat.le_of_ble_eq_true rfl⟩) hB m_22 h_22 rfl rfl hl.1 rfl (Nat.le_of_ble_eq_true rfl) dX8_chain_5 ⟨Nat.le_of_ble_eq_true rfl, Nat.le_of_ble_eq_true rfl⟩ (fun H locs hB => ?_)
  exact m_lret hx hb hrt hlocks hB (Nat.le_refl _) (Nat.le_refl _) dX8_chain_8 ⟨rfl, rfl, rfl, rfl⟩
set_option maxHeartbeats 1000000 in
set_option maxRecDepth 100000 in
theorem c_X_question_0 (l : Launch) (D : va_G) (ty : Nat → ClassId) (L : List Nat) (ad : Nat → Nat) (g : Nat → va_E) (pn qn : Nat) (nw : Int32) (tr : Int64) (qf : Nat → Option Nat) (q : Nat) (pq tp ak rc sv : Int32) (k : Nat) (m_0 : 0 ∈ L) (m_28 : 28 ∈ L) (m_q : q ∈ L) (h_0 : g 0 = .inr (8, [.ref (ad 1), .ref (ad 3), .ref (ad 6), .int (nI pn), .ref (ad 7), .ref (ad 20), .ref (ad 22), .ref (ad 28), .int (nI qn), .ref (ad 29), .int nw, .long tr])) (h_28 : g 28 = .inl (ty 5, 30, .inr (.inr (.inr (.inr qf))))) (h_q : g q = .inr (3, [.int pq, .int tp, .int ak, .int rc, .int sv])) (hk : k < 30) (hqq : qf k = some (ad q)) : m_E l yX8_question wsX8_question 2 42 D ty [.ref (ad 0), .int (nI k), .int 0] L ad g (some (.int pq)) g := by
  intro sz
  refine Met.ofW (cc := cX8_question) (maxL := 4) (ret := (some .int)) (by decide) rfl ?_
  intro p e s m args below meth c s₁ B hml hv
  have hx := B.exec
  have hb := B.bytes
  have hrt := B.returns
  have hts := atoms_spec (ws := wsX8_question) B.pre
  have hown : s.vm.findClass RX8 = some m.cls := findClass_of_methodNamed B.named
  have hlocks := B.notSynchronized
  obtain ⟨rfl, hB⟩ := m_start hv
  generalize va_A (m_w L ad g) sz = A at hB ⊢
  generalize s.heap = H at hB ⊢
  generalize ([] : List Loc) = locs at hB ⊢
  have hl := lv_entry ([.ref (ad 0), .int (nI k), .int 0]) (n := 4) (Nat.le_of_ble_eq_true rfl)
  rw [lg_entry_eq]
  generalize (lg_sl ([.ref (ad 0), .int (nI k), .int 0]) ++ List.replicate (4 - (lg_sl ([.ref (ad 0), .int (nI k), .int 0])).length) Slot.unset).toArray = ls at hl ⊢
  have hl : lv_has ls 4 [(0, .ref (ad 0)), (1, .int (nI k)), (2, .int 0)] := hl
  refine lv_aload_n hx hb dX8_question_0 rfl (lv_at hl 0 rfl) ?_
  refine lv_iload_n hx hb dX8_question_1 rfl (lv_at hl 1 rfl) ?_
  refine m_callVE (ci := 8) (As := [.int (nI k)]) (rest := []) ((by have h9 := c_X_questionNumber_t l D ty L ad g pn qn nw tr qf k m_0 m_28 h_0 h_28 hk; rw [hqq] at h9; exact h9 : m_E l yX8_questionNumber wsX8_questionNumber 1 21 D ty [.ref (ad 0), .int (nI k)] L ad g (some (.ref (ad q))) g)) ⟨hx, hb, hml, hown, hts⟩ (cwV 1 hts gX8_question_X8_questionNumber rfl rfl rfl (by decide +kernel) ⟨Nat.le_of_ble_eq_true rfl, Nat.le_of_ble_eq_true rfl⟩) hB m_0 h_0 rfl rfl hl.1 rfl (Nat.le_of_ble_eq_true rfl) dX8_question_2 ⟨Nat.le_of_ble_eq_true rfl, Nat.le_of_ble_eq_true rfl⟩ (fun H locs hB => ?_)
  refine lv_astore_n (lv' := [(3, .ref (ad q)), (0, .ref (ad 0)), (1, .int (nI k)), (2, .int 0)]) hx hb dX8_question_5 rfl hl (by decide) rfl (fun ls hl => ?_)
  refine lv_aload_n hx hb dX8_question_6 rfl (lv_at hl 0 rfl) ?_
  refine lv_ifnonnull (tgt := 12) hx hb dX8_question_7 (by decide) ?_
  refine lv_iload_n hx hb dX8_question_12 rfl (lv_at hl 3 rfl) ?_
  refine lv_tableIn (off := 31) (tgt := 44) hx hb dX8_question_13 (by decide) (by decide) (by decide) (by decide) ?_
  refine lv_aload_n hx hb dX8_question_44 rfl (lv_at hl 0 rfl) ?_
  refine m_callVE (ci := 3) (As := []) (rest := []) (c_Question_paperNumber l D ty L ad g q pq tp ak rc sv m_q h_q) ⟨hx, hb, hml, hown, hts⟩ (cwV 0 hts gX8_question_X3_paperNumber rfl rfl rfl (by decide +kernel) ⟨Nat.le_of_ble_eq_true rfl, Nat.le_of_ble_eq_true rfl⟩) hB m_q h_q rfl rfl hl.1 rfl (Nat.le_of_ble_eq_true rfl) dX8_question_45 ⟨Nat.le_of_ble_eq_true rfl, Nat.le_of_ble_eq_true rfl⟩ (fun H locs hB => ?_)
  exact m_iret hx hb hrt hlocks hB (Nat.le_refl _) (Nat.le_refl _) dX8_question_48 ⟨rfl, rfl, rfl, rfl⟩
set_option maxHeartbeats 1000000 in
set_option maxRecDepth 100000 in
theorem c_X_question_1 (l : Launch) (D : va_G) (ty : Nat → ClassId) (L : List Nat) (ad : Nat → Nat) (g : Nat → va_E) (pn qn : Nat) (nw : Int32) (tr : Int64) (qf : Nat → Option Nat) (q : Nat) (pq tp ak rc sv : Int32) (k : Nat) (m_0 : 0 ∈ L) (m_28 : 28 ∈ L) (m_q : q ∈ L) (h_0 : g 0 = .inr (8, [.ref (ad 1), .ref (ad 3), .ref (ad 6), .int (nI pn), .ref (ad 7), .ref (ad 20), .ref (ad 22), .ref (ad 28), .int (nI qn), .ref (ad 29), .int nw, .long tr])) (h_28 : g 28 = .inl (ty 5, 30, .inr (.inr (.inr (.inr qf))))) (h_q : g q = .inr (3, [.int pq, .int tp, .int ak, .int rc, .int sv])) (hk : k < 30) (hqq : qf k = some (ad q)) : m_E l yX8_question wsX8_question 2 42 D ty [.ref (ad 0), .int (nI k), .int 1] L ad g (some (.int tp)) g := by
  intro sz
  refine Met.ofW (cc := cX8_question) (maxL := 4) (ret := (some .int)) (by decide) rfl ?_
  intro p e s m args below meth c s₁ B hml hv
  have hx := B.exec
  have hb := B.bytes
  have hrt := B.returns
  have hts := atoms_spec (ws := wsX8_question) B.pre
  have hown : s.vm.findClass RX8 = some m.cls := findClass_of_methodNamed B.named
  have hlocks := B.notSynchronized
  obtain ⟨rfl, hB⟩ := m_start hv
  generalize va_A (m_w L ad g) sz = A at hB ⊢
  generalize s.heap = H at hB ⊢
  generalize ([] : List Loc) = locs at hB ⊢
  have hl := lv_entry ([.ref (ad 0), .int (nI k), .int 1]) (n := 4) (Nat.le_of_ble_eq_true rfl)
  rw [lg_entry_eq]
  generalize (lg_sl ([.ref (ad 0), .int (nI k), .int 1]) ++ List.replicate (4 - (lg_sl ([.ref (ad 0), .int (nI k), .int 1])).length) Slot.unset).toArray = ls at hl ⊢
  have hl : lv_has ls 4 [(0, .ref (ad 0)), (1, .int (nI k)), (2, .int 1)] := hl
  refine lv_aload_n hx hb dX8_question_0 rfl (lv_at hl 0 rfl) ?_
  refine lv_iload_n hx hb dX8_question_1 rfl (lv_at hl 1 rfl) ?_
  refine m_callVE (ci := 8) (As := [.int (nI k)]) (rest := []) ((by have h9 := c_X_questionNumber_t l D ty L ad g pn qn nw tr qf k m_0 m_28 h_0 h_28 hk; rw [hqq] at h9; exact h9 : m_E l yX8_questionNumber wsX8_questionNumber 1 21 D ty [.ref (ad 0), .int (nI k)] L ad g (some (.ref (ad q))) g)) ⟨hx, hb, hml, hown, hts⟩ (cwV 1 hts gX8_question_X8_questionNumber rfl rfl rfl (by decide +kernel) ⟨Nat.le_of_ble_eq_true rfl, Nat.le_of_ble_eq_true rfl⟩) hB m_0 h_0 rfl rfl hl.1 rfl (Nat.le_of_ble_eq_true rfl) dX8_question_2 ⟨Nat.le_of_ble_eq_true rfl, Nat.le_of_ble_eq_true rfl⟩ (fun H locs hB => ?_)
  refine lv_astore_n (lv' := [(3, .ref (ad q)), (0, .ref (ad 0)), (1, .int (nI k)), (2, .int 1)]) hx hb dX8_question_5 rfl hl (by decide) rfl (fun ls hl => ?_)
  refine lv_aload_n hx hb dX8_question_6 rfl (lv_at hl 0 rfl) ?_
  refine lv_ifnonnull (tgt := 12) hx hb dX8_question_7 (by decide) ?_
  refine lv_iload_n hx hb dX8_question_12 rfl (lv_at hl 3 rfl) ?_
  refine lv_tableIn (off := 36) (tgt := 49) hx hb dX8_question_13 (by decide) (by decide) (by decide) (by decide) ?_
  refine lv_aload_n hx hb dX8_question_49 rfl (lv_at hl 0 rfl) ?_
  refine m_callVE (ci := 3) (As := []) (rest := []) (c_Question_topic l D ty L ad g q pq tp ak rc sv m_q h_q) ⟨hx, hb, hml, hown, hts⟩ (cwV 0 hts gX8_question_X3_topic rfl rfl rfl (by decide +kernel) ⟨Nat.le_of_ble_eq_true rfl, Nat.le_of_ble_eq_true rfl⟩) hB m_q h_q rfl rfl hl.1 rfl (Nat.le_of_ble_eq_true rfl) dX8_question_50 ⟨Nat.le_of_ble_eq_true rfl, Nat.le_of_ble_eq_true rfl⟩ (fun H locs hB => ?_)
  exact m_iret hx hb hrt hlocks hB (Nat.le_refl _) (Nat.le_refl _) dX8_question_53 ⟨rfl, rfl, rfl, rfl⟩
set_option maxHeartbeats 1000000 in
set_option maxRecDepth 100000 in
theorem c_X_question_2 (l : Launch) (D : va_G) (ty : Nat → ClassId) (L : List Nat) (ad : Nat → Nat) (g : Nat → va_E) (pn qn : Nat) (nw : Int32) (tr : Int64) (qf : Nat → Option Nat) (q : Nat) (pq tp ak rc sv : Int32) (k : Nat) (m_0 : 0 ∈ L) (m_28 : 28 ∈ L) (m_q : q ∈ L) (h_0 : g 0 = .inr (8, [.ref (ad 1), .ref (ad 3), .ref (ad 6), .int (nI pn), .ref (ad 7), .ref (ad 20), .ref (ad 22), .ref (ad 28), .int (nI qn), .ref (ad 29), .int nw, .long tr])) (h_28 : g 28 = .inl (ty 5, 30, .inr (.inr (.inr (.inr qf))))) (h_q : g q = .inr (3, [.int pq, .int tp, .int ak, .int rc, .int sv])) (hk : k < 30) (hqq : qf k = some (ad q)) : m_E l yX8_question wsX8_question 2 42 D ty [.ref (ad 0), .int (nI k), .int 2] L ad g (some (.int ak)) g := by
  intro sz
  refine Met.ofW (cc := cX8_question) (maxL := 4) (ret := (some .int)) (by decide) rfl ?_
  intro p e s m args below meth c s₁ B hml hv
  have hx := B.exec
  have hb := B.bytes
  have hrt := B.returns
  have hts := atoms_spec (ws := wsX8_question) B.pre
  have hown : s.vm.findClass RX8 = some m.cls := findClass_of_methodNamed B.named
  have hlocks := B.notSynchronized
  obtain ⟨rfl, hB⟩ := m_start hv
  generalize va_A (m_w L ad g) sz = A at hB ⊢
  generalize s.heap = H at hB ⊢
  generalize ([] : List Loc) = locs at hB ⊢
  have hl := lv_entry ([.ref (ad 0), .int (nI k), .int 2]) (n := 4) (Nat.le_of_ble_eq_true rfl)
  rw [lg_entry_eq]
  generalize (lg_sl ([.ref (ad 0), .int (nI k), .int 2]) ++ List.replicate (4 - (lg_sl ([.ref (ad 0), .int (nI k), .int 2])).length) Slot.unset).toArray = ls at hl ⊢
  have hl : lv_has ls 4 [(0, .ref (ad 0)), (1, .int (nI k)), (2, .int 2)] := hl
  refine lv_aload_n hx hb dX8_question_0 rfl (lv_at hl 0 rfl) ?_
  refine lv_iload_n hx hb dX8_question_1 rfl (lv_at hl 1 rfl) ?_
  refine m_callVE (ci := 8) (As := [.int (nI k)]) (rest := []) ((by have h9 := c_X_questionNumber_t l D ty L ad g pn qn nw tr qf k m_0 m_28 h_0 h_28 hk; rw [hqq] at h9; exact h9 : m_E l yX8_questionNumber wsX8_questionNumber 1 21 D ty [.ref (ad 0), .int (nI k)] L ad g (some (.ref (ad q))) g)) ⟨hx, hb, hml, hown, hts⟩ (cwV 1 hts gX8_question_X8_questionNumber rfl rfl rfl (by decide +kernel) ⟨Nat.le_of_ble_eq_true rfl, Nat.le_of_ble_eq_true rfl⟩) hB m_0 h_0 rfl rfl hl.1 rfl (Nat.le_of_ble_eq_true rfl) dX8_question_2 ⟨Nat.le_of_ble_eq_true rfl, Nat.le_of_ble_eq_true rfl⟩ (fun H locs hB => ?_)
  refine lv_astore_n (lv' := [(3, .ref (ad q)), (0, .ref (ad 0)), (1, .int (nI k)), (2, .int 2)]) hx hb dX8_question_5 rfl hl (by decide) rfl (fun ls hl => ?_)
  refine lv_aload_n hx hb dX8_question_6 rfl (lv_at hl 0 rfl) ?_
  refine lv_ifnonnull (tgt := 12) hx hb dX8_question_7 (by decide) ?_
  refine lv_iload_n hx hb dX8_question_12 rfl (lv_at hl 3 rfl) ?_
  refine lv_tableIn (off := 41) (tgt := 54) hx hb dX8_question_13 (by decide) (by decide) (by decide) (by decide) ?_
  refine lv_aload_n hx hb dX8_question_54 rfl (lv_at hl 0 rfl) ?_
  refine m_callVE (ci := 3) (As := []) (rest := []) (c_Question_askers l D ty L ad g q pq tp ak rc sv m_q h_q) ⟨hx, hb, hml, hown, hts⟩ (cwV 0 hts gX8_question_X3_askers rfl rfl rfl (by decide +kernel) ⟨Nat.le_of_ble_eq_true rfl, Nat.le_of_ble_eq_true rfl⟩) hB m_q h_q rfl rfl hl.1 rfl (Nat.le_of_ble_eq_true rfl) dX8_question_55 ⟨Nat.le_of_ble_eq_true rfl, Nat.le_of_ble_eq_true rfl⟩ (fun H locs hB => ?_)
  exact m_iret hx hb hrt hlocks hB (Nat.le_refl _) (Nat.le_refl _) dX8_question_58 ⟨rfl, rfl, rfl, rfl⟩
set_option maxHeartbeats 1000000 in
set_option maxRecDepth 100000 in
theorem c_X_question_3 (l : Launch) (D : va_G) (ty : Nat → ClassId) (L : List Nat) (ad : Nat → Nat) (g : Nat → va_E) (pn qn : Nat) (nw : Int32) (tr : Int64) (qf : Nat → Option Nat) (q : Nat) (pq tp ak rc sv : Int32) (k : Nat) (m_0 : 0 ∈ L) (m_28 : 28 ∈ L) (m_q : q ∈ L) (h_0 : g 0 = .inr (8, [.ref (ad 1), .ref (ad 3), .ref (ad 6), .int (nI pn), .ref (ad 7), .ref (ad 20), .ref (ad 22), .ref (ad 28), .int (nI qn), .ref (ad 29), .int nw, .long tr])) (h_28 : g 28 = .inl (ty 5, 30, .inr (.inr (.inr (.inr qf))))) (h_q : g q = .inr (3, [.int pq, .int tp, .int ak, .int rc, .int sv])) (hk : k < 30) (hqq : qf k = some (ad q)) : m_E l yX8_question wsX8_question 2 42 D ty [.ref (ad 0), .int (nI k), .int 3] L ad g (some (.int rc)) g := by
  intro sz
  refine Met.ofW (cc := cX8_question) (maxL := 4) (ret := (some .int)) (by decide) rfl ?_
  intro p e s m args below meth c s₁ B hml hv
  have hx := B.exec
  have hb := B.bytes
  have hrt := B.returns
  have hts := atoms_spec (ws := wsX8_question) B.pre
  have hown : s.vm.findClass RX8 = some m.cls := findClass_of_methodNamed B.named
  have hlocks := B.notSynchronized
  obtain ⟨rfl, hB⟩ := m_start hv
  generalize va_A (m_w L ad g) sz = A at hB ⊢
  generalize s.heap = H at hB ⊢
  generalize ([] : List Loc) = locs at hB ⊢
  have hl := lv_entry ([.ref (ad 0), .int (nI k), .int 3]) (n := 4) (Nat.le_of_ble_eq_true rfl)
  rw [lg_entry_eq]
  generalize (lg_sl ([.ref (ad 0), .int (nI k), .int 3]) ++ List.replicate (4 - (lg_sl ([.ref (ad 0), .int (nI k), .int 3])).length) Slot.unset).toArray = ls at hl ⊢
  have hl : lv_has ls 4 [(0, .ref (ad 0)), (1, .int (nI k)), (2, .int 3)] := hl
  refine lv_aload_n hx hb dX8_question_0 rfl (lv_at hl 0 rfl) ?_
  refine lv_iload_n hx hb dX8_question_1 rfl (lv_at hl 1 rfl) ?_
  refine m_callVE (ci := 8) (As := [.int (nI k)]) (rest := []) ((by have h9 := c_X_questionNumber_t l D ty L ad g pn qn nw tr qf k m_0 m_28 h_0 h_28 hk; rw [hqq] at h9; exact h9 : m_E l yX8_questionNumber wsX8_questionNumber 1 21 D ty [.ref (ad 0), .int (nI k)] L ad g (some (.ref (ad q))) g)) ⟨hx, hb, hml, hown, hts⟩ (cwV 1 hts gX8_question_X8_questionNumber rfl rfl rfl (by decide +kernel) ⟨Nat.le_of_ble_eq_true rfl, Nat.le_of_ble_eq_true rfl⟩) hB m_0 h_0 rfl rfl hl.1 rfl (Nat.le_of_ble_eq_true rfl) dX8_question_2 ⟨Nat.le_of_ble_eq_true rfl, Nat.le_of_ble_eq_true rfl⟩ (fun H locs hB => ?_)
  refine lv_astore_n (lv' := [(3, .ref (ad q)), (0, .ref (ad 0)), (1, .int (nI k)), (2, .int 3)]) hx hb dX8_question_5 rfl hl (by decide) rfl (fun ls hl => ?_)
  refine lv_aload_n hx hb dX8_question_6 rfl (lv_at hl 0 rfl) ?_
  refine lv_ifnonnull (tgt := 12) hx hb dX8_question_7 (by decide) ?_
  refine lv_iload_n hx hb dX8_question_12 rfl (lv_at hl 3 rfl) ?_
  refine lv_tableIn (off := 46) (tgt := 59) hx hb dX8_question_13 (by decide) (by decide) (by decide) (by decide) ?_
  refine lv_aload_n hx hb dX8_question_59 rfl (lv_at hl 0 rfl) ?_
  refine m_callVE (ci := 3) (As := []) (rest := []) (c_Question_reach l D ty L ad g q pq tp ak rc sv m_q h_q) ⟨hx, hb, hml, hown, hts⟩ (cwV 0 hts gX8_question_X3_reach rfl rfl rfl (by decide +kernel) ⟨Nat.le_of_ble_eq_true rfl, Nat.le_of_ble_eq_true rfl⟩) hB m_q h_q rfl rfl hl.1 rfl (Nat.le_of_ble_eq_true rfl) dX8_question_60 ⟨Nat.le_of_ble_eq_true rfl, Nat.le_of_ble_eq_true rfl⟩ (fun H locs hB => ?_)
  exact m_iret hx hb hrt hlocks hB (Nat.le_refl _) (Nat.le_refl _) dX8_question_63 ⟨rfl, rfl, rfl, rfl⟩
set_option maxHeartbeats 1000000 in
set_option maxRecDepth 100000 in
theorem c_X_question_x (l : Launch) (D : va_G) (ty : Nat → ClassId) (L : List Nat) (ad : Nat → Nat) (g : Nat → va_E) (pn qn : Nat) (nw : Int32) (tr : Int64) (qf : Nat → Option Nat) (q : Nat) (pq tp ak rc sv : Int32) (k : Nat) (w : Int32) (m_0 : 0 ∈ L) (m_28 : 28 ∈ L) (m_q : q ∈ L) (h_0 : g 0 = .inr (8, [.ref (ad 1), .ref (ad 3), .ref (ad 6), .int (nI pn), .ref (ad 7), .ref (ad 20), .ref (ad 22), .ref (ad 28), .int (nI qn), .ref (ad 29), .int nw, .long tr])) (h_28 : g 28 = .inl (ty 5, 30, .inr (.inr (.inr (.inr qf))))) (h_q : g q = .inr (3, [.int pq, .int tp, .int ak, .int rc, .int sv])) (hk : k < 30) (hqq : qf k = some (ad q)) (hw : w.toInt < 0 ∨ 3 < w.toInt) : m_E l yX8_question wsX8_question 2 42 D ty [.ref (ad 0), .int (nI k), .int w] L ad g (some (.int (-1))) g := by
  intro sz
  refine Met.ofW (cc := cX8_question) (maxL := 4) (ret := (some .int)) (by decide) rfl ?_
  intro p e s m args below meth c s₁ B hml hv
  have hx := B.exec
  have hb := B.bytes
  have hrt := B.returns
  have hts := atoms_spec (ws := wsX8_question) B.pre
  have hown : s.vm.findClass RX8 = some m.cls := findClass_of_methodNamed B.named
  have hlocks := B.notSynchronized
  obtain ⟨rfl, hB⟩ := m_start hv
  generalize va_A (m_w L ad g) sz = A at hB ⊢
  generalize s.heap = H at hB ⊢
  generalize ([] : List Loc) = locs at hB ⊢
  have hl := lv_entry ([.ref (ad 0), .int (nI k), .int w]) (n := 4) (Nat.le_of_ble_eq_true rfl)
  rw [lg_entry_eq]
  generalize (lg_sl ([.ref (ad 0), .int (nI k), .int w]) ++ List.replicate (4 - (lg_sl ([.ref (ad 0), .int (nI k), .int w])).length) Slot.unset).toArray = ls at hl ⊢
  have hl : lv_has ls 4 [(0, .ref (ad 0)), (1, .int (nI k)), (2, .int w)] := hl
  refine lv_aload_n hx hb dX8_question_0 rfl (lv_at hl 0 rfl) ?_
  refine lv_iload_n hx hb dX8_question_1 rfl (lv_at hl 1 rfl) ?_
  refine m_callVE (ci := 8) (As := [.int (nI k)]) (rest := []) ((by have h9 := c_X_questionNumber_t l D ty L ad g pn qn nw tr qf k m_0 m_28 h_0 h_28 hk; rw [hqq] at h9; exact h9 : m_E l yX8_questionNumber wsX8_questionNumber 1 21 D ty [.ref (ad 0), .int (nI k)] L ad g (some (.ref (ad q))) g)) ⟨hx, hb, hml, hown, hts⟩ (cwV 1 hts gX8_question_X8_questionNumber rfl rfl rfl (by decide +kernel) ⟨Nat.le_of_ble_eq_true rfl, Nat.le_of_ble_eq_true rfl⟩) hB m_0 h_0 rfl rfl hl.1 rfl (Nat.le_of_ble_eq_true rfl) dX8_question_2 ⟨Nat.le_of_ble_eq_true rfl, Nat.le_of_ble_eq_true rfl⟩ (fun H locs hB => ?_)
  refine lv_astore_n (lv' := [(3, .ref (ad q)), (0, .ref (ad 0)), (1, .int (nI k)), (2, .int w)]) hx hb dX8_question_5 rfl hl (by decide) rfl (fun ls hl => ?_)
  refine lv_aload_n hx hb dX8_question_6 rfl (lv_at hl 0 rfl) ?_
  refine lv_ifnonnull (tgt := 12) hx hb dX8_question_7 (by decide) ?_
  refine lv_iload_n hx hb dX8_question_12 rfl (lv_at hl 3 rfl) ?_
  refine lv_tableOut (tgt := 64) hx hb dX8_question_13 (by omega) (by decide) ?_
  refine lv_iconst (v := (-1)) hx hb dX8_question_64 (by decide) ?_
  exact m_iret hx hb hrt hlocks hB (Nat.le_refl _) (Nat.le_refl _) dX8_question_65 ⟨rfl, rfl, rfl, rfl⟩
set_option maxHeartbeats 1000000 in
set_option maxRecDepth 100000 in
theorem c_X_question_none (l : Launch) (D : va_G) (ty : Nat → ClassId) (L : List Nat) (ad : Nat → Nat) (g : Nat → va_E) (pn qn : Nat) (nw : Int32) (tr : Int64) (qf : Nat → Option Nat) (k : Nat) (w : Int32) (m_0 : 0 ∈ L) (m_28 : 28 ∈ L) (h_0 : g 0 = .inr (8, [.ref (ad 1), .ref (ad 3), .ref (ad 6), .int (nI pn), .ref (ad 7), .ref (ad 20), .ref (ad 22), .ref (ad 28), .int (nI qn), .ref (ad 29), .int nw, .long tr])) (h_28 : g 28 = .inl (ty 5, 30, .inr (.inr (.inr (.inr qf))))) (hk : k < 30) (hqq : qf k = none) : m_E l yX8_question wsX8_question 2 42 D ty [.ref (ad 0), .int (nI k), .int w] L ad g (some (.int (-1))) g := by
  intro sz
  refine Met.ofW (cc := cX8_question) (maxL := 4) (ret := (some .int)) (by decide) rfl ?_
  intro p e s m args below meth c s₁ B hml hv
  have hx := B.exec
  have hb := B.bytes
  have hrt := B.returns
  have hts := atoms_spec (ws := wsX8_question) B.pre
  have hown : s.vm.findClass RX8 = some m.cls := findClass_of_methodNamed B.named
  have hlocks := B.notSynchronized
  obtain ⟨rfl, hB⟩ := m_start hv
  generalize va_A (m_w L ad g) sz = A at hB ⊢
  generalize s.heap = H at hB ⊢
  generalize ([] : List Loc) = locs at hB ⊢
  have hl := lv_entry ([.ref (ad 0), .int (nI k), .int w]) (n := 4) (Nat.le_of_ble_eq_true rfl)
  rw [lg_entry_eq]
  generalize (lg_sl ([.ref (ad 0), .int (nI k), .int w]) ++ List.replicate (4 - (lg_sl ([.ref (ad 0), .int (nI k), .int w])).length) Slot.unset).toArray = ls at hl ⊢
  have hl : lv_has ls 4 [(0, .ref (ad 0)), (1, .int (nI k)), (2, .int w)] := hl
  refine lv_aload_n hx hb dX8_question_0 rfl (lv_at hl 0 rfl) ?_
  refine lv_iload_n hx hb dX8_question_1 rfl (lv_at hl 1 rfl) ?_
  refine m_callVE (ci := 8) (As := [.int (nI k)]) (rest := []) ((by have h9 := c_X_questionNumber_t l D ty L ad g pn qn nw tr qf k m_0 m_28 h_0 h_28 hk; rw [hqq] at h9; exact h9 : m_E l yX8_questionNumber wsX8_questionNumber 1 21 D ty [.ref (ad 0), .int (nI k)] L ad g (some .null) g)) ⟨hx, hb, hml, hown, hts⟩ (cwV 1 hts gX8_question_X8_questionNumber rfl rfl rfl (by decide +kernel) ⟨Nat.le_of_ble_eq_true rfl, Nat.le_of_ble_eq_true rfl⟩) hB m_0 h_0 rfl rfl hl.1 rfl (Nat.le_of_ble_eq_true rfl) dX8_question_2 ⟨Nat.le_of_ble_eq_true rfl, Nat.le_of_ble_eq_true rfl⟩ (fun H locs hB => ?_)
  refine lv_astore_nN (lv' := [(3, .null), (0, .ref (ad 0)), (1, .int (nI k)), (2, .int w)]) hx hb dX8_question_5 rfl hl (by decide) rfl (fun ls hl => ?_)
  refine lv_aload_nN hx hb dX8_question_6 rfl (lv_at hl 0 rfl) ?_
  refine lv_ifnonnullN hx hb dX8_question_7 ?_
  refine lv_iconst (v := (-1)) hx hb dX8_question_10 (by decide) ?_
  exact m_iret hx hb hrt hlocks hB (Nat.le_refl _) (Nat.le_refl _) dX8_question_11 ⟨rfl, rfl, rfl, rfl⟩
set_option maxHeartbeats 1000000 in
set_option maxRecDepth 100000 in
theorem c_X_question_bad (l : Launch) (D : va_G) (ty : Nat → ClassId) (L : List Nat) (ad : Nat → Nat) (g : Nat → va_E) (pn qn : Nat) (nw : Int32) (tr : Int64) (qf : Nat → Option Nat) (i w : Int32) (m_0 : 0 ∈ L) (m_28 : 28 ∈ L) (h_0 : g 0 = .inr (8, [.ref (ad 1), .ref (ad 3), .ref (ad 6), .int (nI pn), .ref (ad 7), .ref (ad 20), .ref (ad 22), .ref (ad 28), .int (nI qn), .ref (ad 29), .int nw, .long tr])) (h_28 : g 28 = .inl (ty 5, 30, .inr (.inr (.inr (.inr qf))))) (hi : ¬ (0 ≤ i.toInt ∧ i.toInt < 30)) : m_E l yX8_question wsX8_question 2 42 D ty [.ref (ad 0), .int i, .int w] L ad g (some (.int (-1))) g := by
  intro sz
  refine Met.ofW (cc := cX8_question) (maxL := 4) (ret := (some .int)) (by decide) rfl ?_
  intro p e s m args below meth c s₁ B hml hv
  have hx := B.exec
  have hb := B.bytes
  have hrt := B.returns
  have hts := atoms_spec (ws := wsX8_question) B.pre
  have hown : s.vm.findClass RX8 = some m.cls := findClass_of_methodNamed B.named
  have hlocks := B.notSynchronized
  obtain ⟨rfl, hB⟩ := m_start hv
  generalize va_A (m_w L ad g) sz = A at hB ⊢
  generalize s.heap = H at hB ⊢
  generalize ([] : List Loc) = locs at hB ⊢
  have hl := lv_entry ([.ref (ad 0), .int i, .int w]) (n := 4) (Nat.le_of_ble_eq_true rfl)
  rw [lg_entry_eq]
  generalize (lg_sl ([.ref (ad 0), .int i, .int w]) ++ List.replicate (4 - (lg_sl ([.ref (ad 0), .int i, .int w])).length) Slot.unset).toArray = ls at hl ⊢
  have hl : lv_has ls 4 [(0, .ref (ad 0)), (1, .int i), (2, .int w)] := hl
  refine lv_aload_n hx hb dX8_question_0 rfl (lv_at hl 0 rfl) ?_
  refine lv_iload_n hx hb dX8_question_1 rfl (lv_at hl 1 rfl) ?_
  refine m_callVE (ci := 8) (As := [.int i]) (rest := []) (c_X_questionNumber_f l D ty L ad g pn qn nw tr qf i m_0 m_28 h_0 h_28 hi) ⟨hx, hb, hml, hown, hts⟩ (cwV 1 hts gX8_question_X8_questionNumber rfl rfl rfl (by decide +kernel) ⟨Nat.le_of_ble_eq_true rfl, Nat.le_of_ble_eq_true rfl⟩) hB m_0 h_0 rfl rfl hl.1 rfl (Nat.le_of_ble_eq_true rfl) dX8_question_2 ⟨Nat.le_of_ble_eq_true rfl, Nat.le_of_ble_eq_true rfl⟩ (fun H locs hB => ?_)
  refine lv_astore_nN (lv' := [(3, .null), (0, .ref (ad 0)), (1, .int i), (2, .int w)]) hx hb dX8_question_5 rfl hl (by decide) rfl (fun ls hl => ?_)
  refine lv_aload_nN hx hb dX8_question_6 rfl (lv_at hl 0 rfl) ?_
  refine lv_ifnonnullN hx hb dX8_question_7 ?_
  refine lv_iconst (v := (-1)) hx hb dX8_question_10 (by decide) ?_
  exact m_iret hx hb hrt hlocks hB (Nat.le_refl _) (Nat.le_refl _) dX8_question_11 ⟨rfl, rfl, rfl, rfl⟩
set_option maxHeartbeats 1000000 in
set_option maxRecDepth 100000 in
theorem c_X_answer_none (l : Launch) (D : va_G) (ty : Nat → ClassId) (L : List Nat) (ad : Nat → Nat) (g : Nat → va_E) (pn qn : Nat) (nw : Int32) (tr : Int64) (qf : Nat → Option Nat) (k : Nat) (v w : Int32) (m_0 : 0 ∈ L) (m_28 : 28 ∈ L) (h_0 : g 0 = .inr (8, [.ref (ad 1), .ref (ad 3), .ref (ad 6), .int (nI pn), .ref (ad 7), .ref (ad 20), .ref (ad 22), .ref (ad 28), .int (nI qn), .ref (ad 29), .int nw, .long tr])) (h_28 : g 28 = .inl (ty 5, 30, .inr (.inr (.inr (.inr qf))))) (hk : k < 30) (hqq : qf k = none) : m_E l yX8_answer wsX8_answer 2 42 D ty [.ref (ad 0), .int (nI k), .int v, .int w] L ad g (some (.int (-1))) g := by
  intro sz
  refine Met.ofW (cc := cX8_answer) (maxL := 5) (ret := (some .int)) (by decide) rfl ?_
  intro p e s m args below meth c s₁ B hml hv
  have hx := B.exec
  have hb := B.bytes
  have hrt := B.returns
  have hts := atoms_spec (ws := wsX8_answer) B.pre
  have hown : s.vm.findClass RX8 = some m.cls := findClass_of_methodNamed B.named
  have hlocks := B.notSynchronized
  obtain ⟨rfl, hB⟩ := m_start hv
  generalize va_A (m_w L ad g) sz = A at hB ⊢
  generalize s.heap = H at hB ⊢
  generalize ([] : List Loc) = locs at hB ⊢
  have hl := lv_entry ([.ref (ad 0), .int (nI k), .int v, .int w]) (n := 5) (Nat.le_of_ble_eq_true rfl)
  rw [lg_entry_eq]
  generalize (lg_sl ([.ref (ad 0), .int (nI k), .int v, .int w]) ++ List.replicate (5 - (lg_sl ([.ref (ad 0), .int (nI k), .int v, .int w])).length) Slot.unset).toArray = ls at hl ⊢
  have hl : lv_has ls 5 [(0, .ref (ad 0)), (1, .int (nI k)), (2, .int v), (3, .int w)] := hl
  refine lv_aload_n hx hb dX8_answer_0 rfl (lv_at hl 0 rfl) ?_
  refine lv_iload_n hx hb dX8_answer_1 rfl (lv_at hl 1 rfl) ?_
  refine m_callVE (ci := 8) (As := [.int (nI k)]) (rest := []) ((by have h9 := c_X_questionNumber_t l D ty L ad g pn qn nw tr qf k m_0 m_28 h_0 h_28 hk; rw [hqq] at h9; exact h9 : m_E l yX8_questionNumber wsX8_questionNumber 1 21 D ty [.ref (ad 0), .int (nI k)] L ad g (some .null) g)) ⟨hx, hb, hml, hown, hts⟩ (cwV 1 hts gX8_answer_X8_questionNumber rfl rfl rfl (by decide +kernel) ⟨Nat.le_of_ble_eq_true rfl, Nat.le_of_ble_eq_true rfl⟩) hB m_0 h_0 rfl rfl hl.1 rfl (Nat.le_of_ble_eq_true rfl) dX8_answer_2 ⟨Nat.le_of_ble_eq_true rfl, Nat.le_of_ble_eq_true rfl⟩ (fun H locs hB => ?_)
  refine lv_astoreN (lv' := [(4, .null), (0, .ref (ad 0)), (1, .int (nI k)), (2, .int v), (3, .int w)]) hx hb dX8_answer_5 hl (by decide) rfl (fun ls hl => ?_)
  refine lv_aloadN hx hb dX8_answer_7 (lv_at hl 0 rfl) ?_
  refine lv_ifnullN (tgt := 22) hx hb dX8_answer_9 (by decide) ?_
  refine lv_iconst (v := (-1)) hx hb dX8_answer_22 (by decide) ?_
  exact m_iret hx hb hrt hlocks hB (Nat.le_refl _) (Nat.le_refl _) dX8_answer_23 ⟨rfl, rfl, rfl, rfl⟩
set_option maxHeartbeats 1000000 in
set_option maxRecDepth 100000 in
theorem c_X_answer_bad (l : Launch) (D : va_G) (ty : Nat → ClassId) (L : List Nat) (ad : Nat → Nat) (g : Nat → va_E) (pn qn : Nat) (nw : Int32) (tr : Int64) (qf : Nat → Option Nat) (i v w : Int32) (m_0 : 0 ∈ L) (m_28 : 28 ∈ L) (h_0 : g 0 = .inr (8, [.ref (ad 1), .ref (ad 3), .ref (ad 6), .int (nI pn), .ref (ad 7), .ref (ad 20), .ref (ad 22), .ref (ad 28), .int (nI qn), .ref (ad 29), .int nw, .long tr])) (h_28 : g 28 = .inl (ty 5, 30, .inr (.inr (.inr (.inr qf))))) (hi : ¬ (0 ≤ i.toInt ∧ i.toInt < 30)) : m_E l yX8_answer wsX8_answer 2 42 D ty [.ref (ad 0), .int i, .int v, .int w] L ad g (some (.int (-1))) g := by
  intro sz
  refine Met.ofW (cc := cX8_answer) (maxL := 5) (ret := (some .int)) (by decide) rfl ?_
  intro p e s m args below meth c s₁ B hml hv
  have hx := B.exec
  have hb := B.bytes
  have hrt := B.returns
  have hts := atoms_spec (ws := wsX8_answer) B.pre
  have hown : s.vm.findClass RX8 = some m.cls := findClass_of_methodNamed B.named
  have hlocks := B.notSynchronized
  obtain ⟨rfl, hB⟩ := m_start hv
  generalize va_A (m_w L ad g) sz = A at hB ⊢
  generalize s.heap = H at hB ⊢
  generalize ([] : List Loc) = locs at hB ⊢
  have hl := lv_entry ([.ref (ad 0), .int i, .int v, .int w]) (n := 5) (Nat.le_of_ble_eq_true rfl)
  rw [lg_entry_eq]
  generalize (lg_sl ([.ref (ad 0), .int i, .int v, .int w]) ++ List.replicate (5 - (lg_sl ([.ref (ad 0), .int i, .int v, .int w])).length) Slot.unset).toArray = ls at hl ⊢
  have hl : lv_has ls 5 [(0, .ref (ad 0)), (1, .int i), (2, .int v), (3, .int w)] := hl
  refine lv_aload_n hx hb dX8_answer_0 rfl (lv_at hl 0 rfl) ?_
  refine lv_iload_n hx hb dX8_answer_1 rfl (lv_at hl 1 rfl) ?_
  refine m_callVE (ci := 8) (As := [.int i]) (rest := []) (c_X_questionNumber_f l D ty L ad g pn qn nw tr qf i m_0 m_28 h_0 h_28 hi) ⟨hx, hb, hml, hown, hts⟩ (cwV 1 hts gX8_answer_X8_questionNumber rfl rfl rfl (by decide +kernel) ⟨Nat.le_of_ble_eq_true rfl, Nat.le_of_ble_eq_true rfl⟩) hB m_0 h_0 rfl rfl hl.1 rfl (Nat.le_of_ble_eq_true rfl) dX8_answer_2 ⟨Nat.le_of_ble_eq_true rfl, Nat.le_of_ble_eq_true rfl⟩ (fun H locs hB => ?_)
  refine lv_astoreN (lv' := [(4, .null), (0, .ref (ad 0)), (1, .int i), (2, .int v), (3, .int w)]) hx hb dX8_answer_5 hl (by decide) rfl (fun ls hl => ?_)
  refine lv_aloadN hx hb dX8_answer_7 (lv_at hl 0 rfl) ?_
  refine lv_ifnullN (tgt := 22) hx hb dX8_answer_9 (by decide) ?_
  refine lv_iconst (v := (-1)) hx hb dX8_answer_22 (by decide) ?_
  exact m_iret hx hb hrt hlocks hB (Nat.le_refl _) (Nat.le_refl _) dX8_answer_23 ⟨rfl, rfl, rfl, rfl⟩
set_option maxHeartbeats 1000000 in
set_option maxRecDepth 100000 in
theorem c_X_answer_b2 (l : Launch) (D : va_G) (ty : Nat → ClassId) (L : List Nat) (ad : Nat → Nat) (g : Nat → va_E) (pn qn : Nat) (nw : Int32) (tr : Int64) (qf : Nat → Option Nat) (q : Nat) (pq tp ak rc sv : Int32) (k : Nat) (v w : Int32) (m_0 : 0 ∈ L) (m_28 : 28 ∈ L) (m_q : q ∈ L) (h_0 : g 0 = .inr (8, [.ref (ad 1), .ref (ad 3), .ref (ad 6), .int (nI pn), .ref (ad 7), .ref (ad 20), .ref (ad 22), .ref (ad 28), .int (nI qn), .ref (ad 29), .int nw, .long tr])) (h_28 : g 28 = .inl (ty 5, 30, .inr (.inr (.inr (.inr qf))))) (h_q : g q = .inr (3, [.int pq, .int tp, .int ak, .int rc, .int sv])) (hk : k < 30) (hqq : qf k = some (ad q)) (h1 : ¬ (0 ≤ v.toInt ∧ v.toInt < 1000)) : m_E l yX8_answer wsX8_answer 2 42 D ty [.ref (ad 0), .int (nI k), .int v, .int w] L ad g (some (.int (-1))) g := by
  intro sz
  refine Met.ofW (cc := cX8_answer) (maxL := 5) (ret := (some .int)) (by decide) rfl ?_
  intro p e s m args below meth c s₁ B hml hv
  have hx := B.exec
  have hb := B.bytes
  have hrt := B.returns
  have hts := atoms_spec (ws := wsX8_answer) B.pre
  have hown : s.vm.findClass RX8 = some m.cls := findClass_of_methodNamed B.named
  have hlocks := B.notSynchronized
  obtain ⟨rfl, hB⟩ := m_start hv
  generalize va_A (m_w L ad g) sz = A at hB ⊢
  generalize s.heap = H at hB ⊢
  generalize ([] : List Loc) = locs at hB ⊢
  have hl := lv_entry ([.ref (ad 0), .int (nI k), .int v, .int w]) (n := 5) (Nat.le_of_ble_eq_true rfl)
  rw [lg_entry_eq]
  generalize (lg_sl ([.ref (ad 0), .int (nI k), .int v, .int w]) ++ List.replicate (5 - (lg_sl ([.ref (ad 0), .int (nI k), .int v, .int w])).length) Slot.unset).toArray = ls at hl ⊢
  have hl : lv_has ls 5 [(0, .ref (ad 0)), (1, .int (nI k)), (2, .int v), (3, .int w)] := hl
  have l1000 : (1000 : Int32).toInt = 1000 := by decide
  refine lv_aload_n hx hb dX8_answer_0 rfl (lv_at hl 0 rfl) ?_
  refine lv_iload_n hx hb dX8_answer_1 rfl (lv_at hl 1 rfl) ?_
  refine m_callVE (ci := 8) (As := [.int (nI k)]) (rest := []) ((by have h9 := c_X_questionNumber_t l D ty L ad g pn qn nw tr qf k m_0 m_28 h_0 h_28 hk; rw [hqq] at h9; exact h9 : m_E l yX8_questionNumber wsX8_questionNumber 1 21 D ty [.ref (ad 0), .int (nI k)] L ad g (some (.ref (ad q))) g)) ⟨hx, hb, hml, hown, hts⟩ (cwV 1 hts gX8_answer_X8_questionNumber rfl rfl rfl (by decide +kernel) ⟨Nat.le_of_ble_eq_true rfl, Nat.le_of_ble_eq_true rfl⟩) hB m_0 h_0 rfl rfl hl.1 rfl (Nat.le_of_ble_eq_true rfl) dX8_answer_2 ⟨Nat.le_of_ble_eq_true rfl, Nat.le_of_ble_eq_true rfl⟩ (fun H locs hB => ?_)
  refine lv_astore (lv' := [(4, .ref (ad q)), (0, .ref (ad 0)), (1, .int (nI k)), (2, .int v), (3, .int w)]) hx hb dX8_answer_5 hl (by decide) rfl (fun ls hl => ?_)
  refine lv_aload hx hb dX8_answer_7 (lv_at hl 0 rfl) ?_
  refine lv_ifnull hx hb dX8_answer_9 ?_
  refine lv_iload_n hx hb dX8_answer_12 rfl (lv_at hl 3 rfl) ?_
  refine lv_sipush (v := 1000) hx hb dX8_answer_13 (by decide) ?_
  refine m_callSE (As := [.int v, .int 1000]) (rest := []) (c_isBelow_f l D ty L ad _ _ _ (by omega)) ⟨hx, hb, hml, hown, hts⟩ (va_cwS 2 hts gX8_answer_X8_isBelow rfl rfl rfl (by decide +kernel) ⟨Nat.le_of_ble_eq_true rfl, Nat.le_of_ble_eq_true rfl⟩) hB rfl hl.1 rfl (Nat.le_of_ble_eq_true rfl) dX8_answer_16 ⟨Nat.le_of_ble_eq_true rfl, Nat.le_of_ble_eq_true rfl⟩ (fun H locs hB => ?_)
  refine b_if_ne_f 24 hx hb dX8_answer_19 (by decide) (by decide) ?_
  refine lv_iconst (v := (-1)) hx hb dX8_answer_22 (by decide) ?_
  exact m_iret hx hb hrt hlocks hB (Nat.le_refl _) (Nat.le_refl _) dX8_answer_23 ⟨rfl, rfl, rfl, rfl⟩
set_option maxHeartbeats 1000000 in
set_option maxRecDepth 100000 in
theorem c_X_answer_state (l : Launch) (D : va_G) (ty : Nat → ClassId) (L : List Nat) (ad : Nat → Nat) (g : Nat → va_E) (pn qn : Nat) (nw : Int32) (tr : Int64) (qf : Nat → Option Nat) (q : Nat) (pq tp ak rc sv : Int32) (k : Nat) (v w : Int32) (m_0 : 0 ∈ L) (m_28 : 28 ∈ L) (m_q : q ∈ L) (h_0 : g 0 = .inr (8, [.ref (ad 1), .ref (ad 3), .ref (ad 6), .int (nI pn), .ref (ad 7), .ref (ad 20), .ref (ad 22), .ref (ad 28), .int (nI qn), .ref (ad 29), .int nw, .long tr])) (h_28 : g 28 = .inl (ty 5, 30, .inr (.inr (.inr (.inr qf))))) (h_q : g q = .inr (3, [.int pq, .int tp, .int ak, .int rc, .int sv])) (hk : k < 30) (hqq : qf k = some (ad q)) (h1 : 0 ≤ v.toInt ∧ v.toInt < 1000) (hrc : ¬ rc = 0) : m_E l yX8_answer wsX8_answer 2 42 D ty [.ref (ad 0), .int (nI k), .int v, .int w] L ad g (some (.int (-2))) g := by
  intro sz
  refine Met.ofW (cc := cX8_answer) (maxL := 5) (ret := (some .int)) (by decide) rfl ?_
  intro p e s m args below meth c s₁ B hml hv
  have hx := B.exec
  have hb := B.bytes
  have hrt := B.returns
  have hts := atoms_spec (ws := wsX8_answer) B.pre
  have hown : s.vm.findClass RX8 = some m.cls := findClass_of_methodNamed B.named
  have hlocks := B.notSynchronized
  obtain ⟨rfl, hB⟩ := m_start hv
  generalize va_A (m_w L ad g) sz = A at hB ⊢
  generalize s.heap = H at hB ⊢
  generalize ([] : List Loc) = locs at hB ⊢
  have hl := lv_entry ([.ref (ad 0), .int (nI k), .int v, .int w]) (n := 5) (Nat.le_of_ble_eq_true rfl)
  rw [lg_entry_eq]
  generalize (lg_sl ([.ref (ad 0), .int (nI k), .int v, .int w]) ++ List.replicate (5 - (lg_sl ([.ref (ad 0), .int (nI k), .int v, .int w])).length) Slot.unset).toArray = ls at hl ⊢
  have hl : lv_has ls 5 [(0, .ref (ad 0)), (1, .int (nI k)), (2, .int v), (3, .int w)] := hl
  have l1000 : (1000 : Int32).toInt = 1000 := by decide
  refine lv_aload_n hx hb dX8_answer_0 rfl (lv_at hl 0 rfl) ?_
  refine lv_iload_n hx hb dX8_answer_1 rfl (lv_at hl 1 rfl) ?_
  refine m_callVE (ci := 8) (As := [.int (nI k)]) (rest := []) ((by have h9 := c_X_questionNumber_t l D ty L ad g pn qn nw tr qf k m_0 m_28 h_0 h_28 hk; rw [hqq] at h9; exact h9 : m_E l yX8_questionNumber wsX8_questionNumber 1 21 D ty [.ref (ad 0), .int (nI k)] L ad g (some (.ref (ad q))) g)) ⟨hx, hb, hml, hown, hts⟩ (cwV 1 hts gX8_answer_X8_questionNumber rfl rfl rfl (by decide +kernel) ⟨Nat.le_of_ble_eq_true rfl, Nat.le_of_ble_eq_true rfl⟩) hB m_0 h_0 rfl rfl hl.1 rfl (Nat.le_of_ble_eq_true rfl) dX8_answer_2 ⟨Nat.le_of_ble_eq_true rfl, Nat.le_of_ble_eq_true rfl⟩ (fun H locs hB => ?_)
  refine lv_astore (lv' := [(4, .ref (ad q)), (0, .ref (ad 0)), (1, .int (nI k)), (2, .int v), (3, .int w)]) hx hb dX8_answer_5 hl (by decide) rfl (fun ls hl => ?_)
  refine lv_aload hx hb dX8_answer_7 (lv_at hl 0 rfl) ?_
  refine lv_ifnull hx hb dX8_answer_9 ?_
  refine lv_iload_n hx hb dX8_answer_12 rfl (lv_at hl 3 rfl) ?_
  refine lv_sipush (v := 1000) hx hb dX8_answer_13 (by decide) ?_
  refine m_callSE (As := [.int v, .int 1000]) (rest := []) (c_isBelow_t l D ty L ad _ _ _ (by omega) (by omega)) ⟨hx, hb, hml, hown, hts⟩ (va_cwS 2 hts gX8_answer_X8_isBelow rfl rfl rfl (by decide +kernel) ⟨Nat.le_of_ble_eq_true rfl, Nat.le_of_ble_eq_true rfl⟩) hB rfl hl.1 rfl (Nat.le_of_ble_eq_true rfl) dX8_answer_16 ⟨Nat.le_of_ble_eq_true rfl, Nat.le_of_ble_eq_true rfl⟩ (fun H locs hB => ?_)
  refine b_if_ne_t 24 hx hb dX8_answer_19 (by decide) (by decide) ?_
  refine lv_aload hx hb dX8_answer_24 (lv_at hl 0 rfl) ?_
  refine m_callVE (ci := 3) (As := []) (rest := []) (c_Question_isAnswered l D ty L ad g q pq tp ak rc sv m_q h_q) ⟨hx, hb, hml, hown, hts⟩ (cwV 0 hts gX8_answer_X3_isAnswered rfl rfl rfl (by decide +kernel) ⟨Nat.le_of_ble_eq_true rfl, Nat.le_of_ble_eq_true rfl⟩) hB m_q h_q rfl rfl hl.1 rfl (Nat.le_of_ble_eq_true rfl) dX8_answer_26 ⟨Nat.le_of_ble_eq_true rfl, Nat.le_of_ble_eq_true rfl⟩ (fun H locs hB => ?_)
  refine b_if_eq_f 35 hx hb dX8_answer_29 (by decide) (by rw [dt hrc]; decide) ?_
  refine lv_bipush (v := (-2)) hx hb dX8_answer_32 (by decide) ?_
  exact m_iret hx hb hrt hlocks hB (Nat.le_refl _) (Nat.le_refl _) dX8_answer_34 ⟨rfl, rfl, rfl, rfl⟩
set_option maxHeartbeats 1000000 in
set_option maxRecDepth 100000 in
theorem c_X_answer_0 (l : Launch) (D : va_G) (ty : Nat → ClassId) (L : List Nat) (ad : Nat → Nat) (g : Nat → va_E) (pn qn : Nat) (nw : Int32) (tr : Int64) (qf : Nat → Option Nat) (q : Nat) (pq tp ak rc sv : Int32) (k : Nat) (v : Int32) (m_0 : 0 ∈ L) (m_28 : 28 ∈ L) (m_q : q ∈ L) (h_0 : g 0 = .inr (8, [.ref (ad 1), .ref (ad 3), .ref (ad 6), .int (nI pn), .ref (ad 7), .ref (ad 20), .ref (ad 22), .ref (ad 28), .int (nI qn), .ref (ad 29), .int nw, .long tr])) (h_28 : g 28 = .inl (ty 5, 30, .inr (.inr (.inr (.inr qf))))) (h_q : g q = .inr (3, [.int pq, .int tp, .int ak, .int rc, .int sv])) (hk : k < 30) (hqq : qf k = some (ad q)) (h1 : 0 ≤ v.toInt ∧ v.toInt < 1000) (hrc : rc = 0) (h30 : 30 ≤ q) : m_E l yX8_answer wsX8_answer 2 42 D ty [.ref (ad 0), .int (nI k), .int v, .int 0] L ad g (some (.int (bc ak))) (va_up g q (.inr (3, [.int pq, .int tp, .int ak, .int 1, .int v]))) := by
  intro sz
  refine Met.ofW (cc := cX8_answer) (maxL := 5) (ret := (some .int)) (by decide) rfl ?_
  intro p e s m args below meth c s₁ B hml hv
  have hx := B.exec
  have hb := B.bytes
  have hrt := B.returns
  have hts := atoms_spec (ws := wsX8_answer) B.pre
  have hown : s.vm.findClass RX8 = some m.cls := findClass_of_methodNamed B.named
  have hlocks := B.notSynchronized
  obtain ⟨rfl, hB⟩ := m_start hv
  generalize va_A (m_w L ad g) sz = A at hB ⊢
  generalize s.heap = H at hB ⊢
  generalize ([] : List Loc) = locs at hB ⊢
  have hl := lv_entry ([.ref (ad 0), .int (nI k), .int v, .int 0]) (n := 5) (Nat.le_of_ble_eq_true rfl)
  rw [lg_entry_eq]
  generalize (lg_sl ([.ref (ad 0), .int (nI k), .int v, .int 0]) ++ List.replicate (5 - (lg_sl ([.ref (ad 0), .int (nI k), .int v, .int 0])).length) Slot.unset).toArray = ls at hl ⊢
  have hl : lv_has ls 5 [(0, .ref (ad 0)), (1, .int (nI k)), (2, .int v), (3, .int 0)] := hl
  have l1000 : (1000 : Int32).toInt = 1000 := by decide
  refine lv_aload_n hx hb dX8_answer_0 rfl (lv_at hl 0 rfl) ?_
  refine lv_iload_n hx hb dX8_answer_1 rfl (lv_at hl 1 rfl) ?_
  refine m_callVE (ci := 8) (As := [.int (nI k)]) (rest := []) ((by have h9 := c_X_questionNumber_t l D ty L ad g pn qn nw tr qf k m_0 m_28 h_0 h_28 hk; rw [hqq] at h9; exact h9 : m_E l yX8_questionNumber wsX8_questionNumber 1 21 D ty [.ref (ad 0), .int (nI k)] L ad g (some (.ref (ad q))) g)) ⟨hx, hb, hml, hown, hts⟩ (cwV 1 hts gX8_answer_X8_questionNumber rfl rfl rfl (by decide +kernel) ⟨Nat.le_of_ble_eq_true rfl, Nat.le_of_ble_eq_true rfl⟩) hB m_0 h_0 rfl rfl hl.1 rfl (Nat.le_of_ble_eq_true rfl) dX8_answer_2 ⟨Nat.le_of_ble_eq_true rfl, Nat.le_of_ble_eq_true rfl⟩ (fun H locs hB => ?_)
  refine lv_astore (lv' := [(4, .ref (ad q)), (0, .ref (ad 0)), (1, .int (nI k)), (2, .int v), (3, .int 0)]) hx hb dX8_answer_5 hl (by decide) rfl (fun ls hl => ?_)
  refine lv_aload hx hb dX8_answer_7 (lv_at hl 0 rfl) ?_
  refine lv_ifnull hx hb dX8_answer_9 ?_
  refine lv_iload_n hx hb dX8_answer_12 rfl (lv_at hl 3 rfl) ?_
  refine lv_sipush (v := 1000) hx hb dX8_answer_13 (by decide) ?_
  refine m_callSE (As := [.int v, .int 1000]) (rest := []) (c_isBelow_t l D ty L ad _ _ _ (by omega) (by omega)) ⟨hx, hb, hml, hown, hts⟩ (va_cwS 2 hts gX8_answer_X8_isBelow rfl rfl rfl (by decide +kernel) ⟨Nat.le_of_ble_eq_true rfl, Nat.le_of_ble_eq_true rfl⟩) hB rfl hl.1 rfl (Nat.le_of_ble_eq_true rfl) dX8_answer_16 ⟨Nat.le_of_ble_eq_true rfl, Nat.le_of_ble_eq_true rfl⟩ (fun H locs hB => ?_)
  refine b_if_ne_t 24 hx hb dX8_answer_19 (by decide) (by decide) ?_
  refine lv_aload hx hb dX8_answer_24 (lv_at hl 0 rfl) ?_
  refine m_callVE (ci := 3) (As := []) (rest := []) (c_Question_isAnswered l D ty L ad g q pq tp ak rc sv m_q h_q) ⟨hx, hb, hml, hown, hts⟩ (cwV 0 hts gX8_answer_X3_isAnswered rfl rfl rfl (by decide +kernel) ⟨Nat.le_of_ble_eq_true rfl, Nat.le_of_ble_eq_true rfl⟩) hB m_q h_q rfl rfl hl.1 rfl (Nat.le_of_ble_eq_true rfl) dX8_answer_26 ⟨Nat.le_of_ble_eq_true rfl, Nat.le_of_ble_eq_true rfl⟩ (fun H locs hB => ?_)
  refine b_if_eq_t 35 hx hb dX8_answer_29 (by decide) (by rw [df (fun h => h hrc)]; decide) ?_
  refine lv_aload hx hb dX8_answer_35 (lv_at hl 0 rfl) ?_
  refine lv_iload_n hx hb dX8_answer_37 rfl (lv_at hl 3 rfl) ?_
  refine lv_iload_n hx hb dX8_answer_38 rfl (lv_at hl 4 rfl) ?_
  refine b_if_eq_t 46 hx hb dX8_answer_39 (by decide) (by decide) ?_
  refine lv_iconst (v := 1) hx hb dX8_answer_46 (by decide) ?_
  refine m_callVZ (ci := 3) (As := [.int v, .int 1]) (rest := []) (c_Question_settle l D ty L ad g q pq tp ak rc sv v 1 m_q h_q) ⟨hx, hb, hml, hown, hts⟩ (cwV 2 hts gX8_answer_X3_settle rfl rfl rfl (by decide +kernel) ⟨Nat.le_of_ble_eq_true rfl, Nat.le_of_ble_eq_true rfl⟩) hB m_q h_q rfl rfl hl.1 rfl (Nat.le_of_ble_eq_true rfl) dX8_answer_47 ⟨Nat.le_of_ble_eq_true rfl, Nat.le_of_ble_eq_true rfl⟩ (fun H locs hB => ?_)
  replace hB : m_B D ty A s L ad (va_up g q (.inr (3, [.int pq, .int tp, .int ak, .int 1, .int v]))) H locs := hB
  refine lv_aload hx hb dX8_answer_50 (lv_at hl 0 rfl) ?_
  refine m_callVE (ci := 3) (As := []) (rest := []) (c_Question_askers l D ty L ad _ q pq tp ak 1 v m_q (va_up_self _ _ _)) ⟨hx, hb, hml, hown, hts⟩ (cwV 0 hts gX8_answer_X3_askers rfl rfl rfl (by decide +kernel) ⟨Nat.le_of_ble_eq_true rfl, Nat.le_of_ble_eq_true rfl⟩) hB m_q (va_up_self _ _ _) rfl rfl hl.1 rfl (Nat.le_of_ble_eq_true rfl) dX8_answer_52 ⟨Nat.le_of_ble_eq_true rfl, Nat.le_of_ble_eq_true rfl⟩ (fun H locs hB => ?_)
  refine m_callSE (As := [.int ak]) (rest := []) (c_bitCount l D ty L ad _ ak) ⟨hx, hb, hml, hown, hts⟩ (va_cwS 1 hts gX8_answer_J6_bitCount_0f7a4 rfl rfl rfl (by decide +kernel) ⟨Nat.le_of_ble_eq_true rfl, Nat.le_of_ble_eq_true rfl⟩) hB rfl hl.1 rfl (Nat.le_of_ble_eq_true rfl) dX8_answer_55 ⟨Nat.le_of_ble_eq_true rfl, Nat.le_of_ble_eq_true rfl⟩ (fun H locs hB => ?_)
  exact m_iret hx hb hrt hlocks hB (Nat.le_refl _) (Nat.le_refl _) dX8_answer_58 ⟨rfl, rfl, rfl, rfl⟩
set_option maxHeartbeats 1000000 in
set_option maxRecDepth 100000 in
theorem c_X_answer_1 (l : Launch) (D : va_G) (ty : Nat → ClassId) (L : List Nat) (ad : Nat → Nat) (g : Nat → va_E) (pn qn : Nat) (nw : Int32) (tr : Int64) (qf : Nat → Option Nat) (q : Nat) (pq tp ak rc sv : Int32) (k : Nat) (v : Int32) (m_0 : 0 ∈ L) (m_28 : 28 ∈ L) (m_q : q ∈ L) (h_0 : g 0 = .inr (8, [.ref (ad 1), .ref (ad 3), .ref (ad 6), .int (nI pn), .ref (ad 7), .ref (ad 20), .ref (ad 22), .ref (ad 28), .int (nI qn), .ref (ad 29), .int nw, .long tr])) (h_28 : g 28 = .inl (ty 5, 30, .inr (.inr (.inr (.inr qf))))) (h_q : g q = .inr (3, [.int pq, .int tp, .int ak, .int rc, .int sv])) (hk : k < 30) (hqq : qf k = some (ad q)) (h1 : 0 ≤ v.toInt ∧ v.toInt < 1000) (hrc : rc = 0) (h30 : 30 ≤ q) : m_E l yX8_answer wsX8_answer 2 42 D ty [.ref (ad 0), .int (nI k), .int v, .int 1] L ad g (some (.int (bc ak))) (va_up g q (.inr (3, [.int pq, .int tp, .int ak, .int 2, .int v]))) := by
  intro sz
  refine Met.ofW (cc := cX8_answer) (maxL := 5) (ret := (some .int)) (by decide) rfl ?_
  intro p e s m args below meth c s₁ B hml hv
  have hx := B.exec
  have hb := B.bytes
  have hrt := B.returns
  have hts := atoms_spec (ws := wsX8_answer) B.pre
  have hown : s.vm.findClass RX8 = some m.cls := findClass_of_methodNamed B.named
  have hlocks := B.notSynchronized
  obtain ⟨rfl, hB⟩ := m_start hv
  generalize va_A (m_w L ad g) sz = A at hB ⊢
  generalize s.heap = H at hB ⊢
  generalize ([] : List Loc) = locs at hB ⊢
  have hl := lv_entry ([.ref (ad 0), .int (nI k), .int v, .int 1]) (n := 5) (Nat.le_of_ble_eq_true rfl)
  rw [lg_entry_eq]
  generalize (lg_sl ([.ref (ad 0), .int (nI k), .int v, .int 1]) ++ List.replicate (5 - (lg_sl ([.ref (ad 0), .int (nI k), .int v, .int 1])).length) Slot.unset).toArray = ls at hl ⊢
  have hl : lv_has ls 5 [(0, .ref (ad 0)), (1, .int (nI k)), (2, .int v), (3, .int 1)] := hl
  have l1000 : (1000 : Int32).toInt = 1000 := by decide
  refine lv_aload_n hx hb dX8_answer_0 rfl (lv_at hl 0 rfl) ?_
  refine lv_iload_n hx hb dX8_answer_1 rfl (lv_at hl 1 rfl) ?_
  refine m_callVE (ci := 8) (As := [.int (nI k)]) (rest := []) ((by have h9 := c_X_questionNumber_t l D ty L ad g pn qn nw tr qf k m_0 m_28 h_0 h_28 hk; rw [hqq] at h9; exact h9 : m_E l yX8_questionNumber wsX8_questionNumber 1 21 D ty [.ref (ad 0), .int (nI k)] L ad g (some (.ref (ad q))) g)) ⟨hx, hb, hml, hown, hts⟩ (cwV 1 hts gX8_answer_X8_questionNumber rfl rfl rfl (by decide +kernel) ⟨Nat.le_of_ble_eq_true rfl, Nat.le_of_ble_eq_true rfl⟩) hB m_0 h_0 rfl rfl hl.1 rfl (Nat.le_of_ble_eq_true rfl) dX8_answer_2 ⟨Nat.le_of_ble_eq_true rfl, Nat.le_of_ble_eq_true rfl⟩ (fun H locs hB => ?_)
  refine lv_astore (lv' := [(4, .ref (ad q)), (0, .ref (ad 0)), (1, .int (nI k)), (2, .int v), (3, .int 1)]) hx hb dX8_answer_5 hl (by decide) rfl (fun ls hl => ?_)
  refine lv_aload hx hb dX8_answer_7 (lv_at hl 0 rfl) ?_
  refine lv_ifnull hx hb dX8_answer_9 ?_
  refine lv_iload_n hx hb dX8_answer_12 rfl (lv_at hl 3 rfl) ?_
  refine lv_sipush (v := 1000) hx hb dX8_answer_13 (by decide) ?_
  refine m_callSE (As := [.int v, .int 1000]) (rest := []) (c_isBelow_t l D ty L ad _ _ _ (by omega) (by omega)) ⟨hx, hb, hml, hown, hts⟩ (va_cwS 2 hts gX8_answer_X8_isBelow rfl rfl rfl (by decide +kernel) ⟨Nat.le_of_ble_eq_true rfl, Nat.le_of_ble_eq_true rfl⟩) hB rfl hl.1 rfl (Nat.le_of_ble_eq_true rfl) dX8_answer_16 ⟨Nat.le_of_ble_eq_true rfl, Nat.le_of_ble_eq_true rfl⟩ (fun H locs hB => ?_)
  refine b_if_ne_t 24 hx hb dX8_answer_19 (by decide) (by decide) ?_
  refine lv_aload hx hb dX8_answer_24 (lv_at hl 0 rfl) ?_
  refine m_callVE (ci := 3) (As := []) (rest := []) (c_Question_isAnswered l D ty L ad g q pq tp ak rc sv m_q h_q) ⟨hx, hb, hml, hown, hts⟩ (cwV 0 hts gX8_answer_X3_isAnswered rfl rfl rfl (by decide +kernel) ⟨Nat.le_of_ble_eq_true rfl, Nat.le_of_ble_eq_true rfl⟩) hB m_q h_q rfl rfl hl.1 rfl (Nat.le_of_ble_eq_true rfl) dX8_answer_26 ⟨Nat.le_of_ble_eq_true rfl, Nat.le_of_ble_eq_true rfl⟩ (fun H locs hB => ?_)
  refine b_if_eq_t 35 hx hb dX8_answer_29 (by decide) (by rw [df (fun h => h hrc)]; decide) ?_
  refine lv_aload hx hb dX8_answer_35 (lv_at hl 0 rfl) ?_
  refine lv_iload_n hx hb dX8_answer_37 rfl (lv_at hl 3 rfl) ?_
  refine lv_iload_n hx hb dX8_answer_38 rfl (lv_at hl 4 rfl) ?_
  refine b_if_eq_f 46 hx hb dX8_answer_39 (by decide) (by decide) ?_
  refine lv_iconst (v := 2) hx hb dX8_answer_42 (by decide) ?_
  refine lv_goto (tgt := 47) hx hb dX8_answer_43 (by decide) ?_
  refine m_callVZ (ci := 3) (As := [.int v, .int 2]) (rest := []) (c_Question_settle l D ty L ad g q pq tp ak rc sv v 2 m_q h_q) ⟨hx, hb, hml, hown, hts⟩ (cwV 2 hts gX8_answer_X3_settle rfl rfl rfl (by decide +kernel) ⟨Nat.le_of_ble_eq_true rfl, Nat.le_of_ble_eq_true rfl⟩) hB m_q h_q rfl rfl hl.1 rfl (Nat.le_of_ble_eq_true rfl) dX8_answer_47 ⟨Nat.le_of_ble_eq_true rfl, Nat.le_of_ble_eq_true rfl⟩ (fun H locs hB => ?_)
  replace hB : m_B D ty A s L ad (va_up g q (.inr (3, [.int pq, .int tp, .int ak, .int 2, .int v]))) H locs := hB
  refine lv_aload hx hb dX8_answer_50 (lv_at hl 0 rfl) ?_
  refine m_callVE (ci := 3) (As := []) (rest := []) (c_Question_askers l D ty L ad _ q pq tp ak 2 v m_q (va_up_self _ _ _)) ⟨hx, hb, hml, hown, hts⟩ (cwV 0 hts gX8_answer_X3_askers rfl rfl rfl (by decide +kernel) ⟨Nat.le_of_ble_eq_true rfl, Nat.le_of_ble_eq_true rfl⟩) hB m_q (va_up_self _ _ _) rfl rfl hl.1 rfl (Nat.le_of_ble_eq_true rfl) dX8_answer_52 ⟨Nat.le_of_ble_eq_true rfl, Nat.le_of_ble_eq_true rfl⟩ (fun H locs hB => ?_)
  refine m_callSE (As := [.int ak]) (rest := []) (c_bitCount l D ty L ad _ ak) ⟨hx, hb, hml, hown, hts⟩ (va_cwS 1 hts gX8_answer_J6_bitCount_0f7a4 rfl rfl rfl (by decide +kernel) ⟨Nat.le_of_ble_eq_true rfl, Nat.le_of_ble_eq_true rfl⟩) hB rfl hl.1 rfl (Nat.le_of_ble_eq_true rfl) dX8_answer_55 ⟨Nat.le_of_ble_eq_true rfl, Nat.le_of_ble_eq_true rfl⟩ (fun H locs hB => ?_)
  exact m_iret hx hb hrt hlocks hB (Nat.le_refl _) (Nat.le_refl _) dX8_answer_58 ⟨rfl, rfl, rfl, rfl⟩
