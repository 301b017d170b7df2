/-- byte k of a long, by the unsigned shift -/
def byU (v : Int64) (k : Nat) : Int32 := ((v.toUInt64 >>> ((nI (8 * k)).toInt64.toUInt64 &&& Int64.toUInt64 63)).toInt64).toInt32 &&& 255
set_option maxRecDepth 20000 in
theorem in_X8_paperNumber_X8 : ∀ w ∈ wsX80, w ∈ wsX8_paperNumber := by decide +kernel
set_option maxHeartbeats 1000000 in
set_option maxRecDepth 100000 in
theorem c_X_paperNumber_t (l : Launch) (D : va_G) (ty : Nat → ClassId) (L : List Nat) (ad : Nat → Nat) (g : Nat → va_E) (pn qn : Nat) (nw : Int32) (tr : Int64) (pf : Nat → Option Nat) (k : Nat) (m_0 : 0 ∈ L) (m_6 : 6 ∈ L) (h_0 : g 0 = .inr (8, [.ref (ad 1), .ref (ad 3), .ref (ad 6), .int (nI pn), .ref (ad 7), .ref (ad 20), .ref (ad 22), .ref (ad 28), .int (nI qn), .ref (ad 29), .int nw, .long tr])) (h_6 : g 6 = .inl (ty 4, 8, .inr (.inr (.inr (.inr pf))))) (hk : k < 8) : m_E l yX8_paperNumber wsX8_paperNumber 1 21 D ty [.ref (ad 0), .int (nI k)] L ad g (some (va_rf (pf k))) g := by
  intro sz
  refine Met.ofW (cc := cX8_paperNumber) (maxL := 2) (ret := (some (.object "PaperRoom$Paper"))) (by decide) rfl ?_
  intro p e s m args below meth c s₁ B hml hv
  have hx := B.exec
  have hb := B.bytes
  have hrt := B.returns
  have hts := atoms_spec (ws := wsX8_paperNumber) B.pre
  have hown : s.vm.findClass RX8 = some m.cls := findClass_of_methodNamed B.named
  have hlocks := B.notSynchronized
  obtain ⟨rfl, hB⟩ := m_start hv
  generalize va_A (m_w L ad g) sz = A at hB ⊢
  generalize s.heap = H at hB ⊢
  generalize ([] : List Loc) = locs at hB ⊢
  have hl := lv_entry ([.ref (ad 0), .int (nI k)]) (n := 2) (Nat.le_of_ble_eq_true rfl)
  rw [lg_entry_eq]
  generalize (lg_sl ([.ref (ad 0), .int (nI k)]) ++ List.replicate (2 - (lg_sl ([.ref (ad 0), .int (nI k)])).length) Slot.unset).toArray = ls at hl ⊢
  have hl : lv_has ls 2 [(0, .ref (ad 0)), (1, .int (nI k))] := hl
  have tI_k : (nI k).toInt = (k : Int) := nI_toInt (by omega)
  have ln : (nI 8).toInt = 8 := by decide
  refine lv_iload_n hx hb dX8_paperNumber_0 rfl (lv_at hl 1 rfl) ?_
  refine lv_aload_n hx hb dX8_paperNumber_1 rfl (lv_at hl 0 rfl) ?_
  refine m_get (C := RX8) (T := TX8) (N := 12) (ci := 8) hx hb hts in_X8_paperNumber_X8 hown hB m_0 h_0 rfl 2 (by decide) (hts (.fieldLink RX8 27 "PaperRoom" "papers" "[LPaperRoom$Paper;") (by decide +kernel)) (fun _ h9 => h9) rfl dX8_paperNumber_2 ?_
  refine m_alen hx hb hB m_6 4 h_6 rfl (v := nI 8) rfl dX8_paperNumber_5 ?_
  refine m_callSE (As := [.int (nI k), .int (nI 8)]) (rest := []) (c_isBelow_t l D ty L ad _ _ _ (by omega) (by omega)) ⟨hx, hb, hml, hown, hts⟩ (va_cwS 2 hts gX8_paperNumber_X8_isBelow rfl rfl rfl (by decide +kernel) ⟨Nat.le_of_ble_eq_true rfl, Nat.le_of_ble_eq_true rfl⟩) hB rfl hl.1 rfl (Nat.le_of_ble_eq_true rfl) dX8_paperNumber_6 ⟨Nat.le_of_ble_eq_true rfl, Nat.le_of_ble_eq_true rfl⟩ (fun H locs hB => ?_)
  refine b_if_eq_f 21 hx hb dX8_paperNumber_9 (by decide) (by decide) ?_
  refine lv_aload_n hx hb dX8_paperNumber_12 rfl (lv_at hl 0 rfl) ?_
  refine m_get (C := RX8) (T := TX8) (N := 12) (ci := 8) hx hb hts in_X8_paperNumber_X8 hown hB m_0 h_0 rfl 2 (by decide) (hts (.fieldLink RX8 27 "PaperRoom" "papers" "[LPaperRoom$Paper;") (by decide +kernel)) (fun _ h9 => h9) rfl dX8_paperNumber_13 ?_
  refine lv_iload_n hx hb dX8_paperNumber_16 rfl (lv_at hl 1 rfl) ?_
  refine n_aald hx hb hB m_6 4 h_6 rfl k rfl (by omega) (by omega) (w := pf k) rfl dX8_paperNumber_17 ?_
  refine W.eq (g2 := F0 m 18 ls [va_rf (pf k)]) rfl ?_
  refine lv_goto (tgt := 22) hx hb dX8_paperNumber_18 (by decide) ?_
  exact m_aret (v := (pf k)) hx hb hrt hlocks hB (Nat.le_refl _) (Nat.le_refl _) dX8_paperNumber_22 ⟨rfl, rfl, rfl, rfl⟩
set_option maxHeartbeats 1000000 in
set_option maxRecDepth 100000 in
theorem c_X_paperNumber_f (l : Launch) (D : va_G) (ty : Nat → ClassId) (L : List Nat) (ad : Nat → Nat) (g : Nat → va_E) (pn qn : Nat) (nw : Int32) (tr : Int64) (pf : Nat → Option Nat) (i : Int32) (m_0 : 0 ∈ L) (m_6 : 6 ∈ L) (h_0 : g 0 = .inr (8, [.ref (ad 1), .ref (ad 3), .ref (ad 6), .int (nI pn), .ref (ad 7), .ref (ad 20), .ref (ad 22), .ref (ad 28), .int (nI qn), .ref (ad 29), .int nw, .long tr])) (h_6 : g 6 = .inl (ty 4, 8, .inr (.inr (.inr (.inr pf))))) (hi : ¬ (0 ≤ i.toInt ∧ i.toInt < 8)) : m_E l yX8_paperNumber wsX8_paperNumber 1 21 D ty [.ref (ad 0), .int i] L ad g (some (.null)) g := by
  intro sz
  refine Met.ofW (cc := cX8_paperNumber) (maxL := 2) (ret := (some (.object "PaperRoom$Paper"))) (by decide) rfl ?_
  intro p e s m args below meth c s₁ B hml hv
  have hx := B.exec
  have hb := B.bytes
  have hrt := B.returns
  have hts := atoms_spec (ws := wsX8_paperNumber) B.pre
  have hown : s.vm.findClass RX8 = some m.cls := findClass_of_methodNamed B.named
  have hlocks := B.notSynchronized
  obtain ⟨rfl, hB⟩ := m_start hv
  generalize va_A (m_w L ad g) sz = A at hB ⊢
  generalize s.heap = H at hB ⊢
  generalize ([] : List Loc) = locs at hB ⊢
  have hl := lv_entry ([.ref (ad 0), .int i]) (n := 2) (Nat.le_of_ble_eq_true rfl)
  rw [lg_entry_eq]
  generalize (lg_sl ([.ref (ad 0), .int i]) ++ List.replicate (2 - (lg_sl ([.ref (ad 0), .int i])).length) Slot.unset).toArray = ls at hl ⊢
  have hl : lv_has ls 2 [(0, .ref (ad 0)), (1, .int i)] := hl
  have ln : (nI 8).toInt = 8 := by decide
  refine lv_iload_n hx hb dX8_paperNumber_0 rfl (lv_at hl 1 rfl) ?_
  refine lv_aload_n hx hb dX8_paperNumber_1 rfl (lv_at hl 0 rfl) ?_
  refine m_get (C := RX8) (T := TX8) (N := 12) (ci := 8) hx hb hts in_X8_paperNumber_X8 hown hB m_0 h_0 rfl 2 (by decide) (hts (.fieldLink RX8 27 "PaperRoom" "papers" "[LPaperRoom$Paper;") (by decide +kernel)) (fun _ h9 => h9) rfl dX8_paperNumber_2 ?_
  refine m_alen hx hb hB m_6 4 h_6 rfl (v := nI 8) rfl dX8_paperNumber_5 ?_
  refine m_callSE (As := [.int i, .int (nI 8)]) (rest := []) (c_isBelow_f l D ty L ad _ _ _ (by omega)) ⟨hx, hb, hml, hown, hts⟩ (va_cwS 2 hts gX8_paperNumber_X8_isBelow rfl rfl rfl (by decide +kernel) ⟨Nat.le_of_ble_eq_true rfl, Nat.le_of_ble_eq_true rfl⟩) hB rfl hl.1 rfl (Nat.le_of_ble_eq_true rfl) dX8_paperNumber_6 ⟨Nat.le_of_ble_eq_true rfl, Nat.le_of_ble_eq_true rfl⟩ (fun H locs hB => ?_)
  refine b_if_eq_t 21 hx hb dX8_paperNumber_9 (by decide) (by decide) ?_
  refine lv_null hx hb dX8_paperNumber_21 ?_
  exact m_aret (v := none) hx hb hrt hlocks hB (Nat.le_refl _) (Nat.le_refl _) dX8_paperNumber_22 ⟨rfl, rfl, rfl, rfl⟩
set_option maxRecDepth 20000 in
theorem in_X8_lastViewOf_X8 : ∀ w ∈ wsX80, w ∈ wsX8_lastViewOf := by decide +kernel
set_option maxHeartbeats 1000000 in
set_option maxRecDepth 100000 in
theorem c_X_lastView_t (l : Launch) (D : va_G) (ty : Nat → ClassId) (L : List Nat) (ad : Nat → Nat) (g : Nat → va_E) (pn qn : Nat) (nw : Int32) (tr : Int64) (vf : Nat → Option Nat) (k : Nat) (m_0 : 0 ∈ L) (m_7 : 7 ∈ L) (h_0 : g 0 = .inr (8, [.ref (ad 1), .ref (ad 3), .ref (ad 6), .int (nI pn), .ref (ad 7), .ref (ad 20), .ref (ad 22), .ref (ad 28), .int (nI qn), .ref (ad 29), .int nw, .long tr])) (h_7 : g 7 = .inl (ty 6, 6, .inr (.inr (.inr (.inr vf))))) (hk : k < 6) : m_E l yX8_lastViewOf wsX8_lastViewOf 1 21 D ty [.ref (ad 0), .int (nI k)] L ad g (some (va_rf (vf k))) g := by
  intro sz
  refine Met.ofW (cc := cX8_lastViewOf) (maxL := 2) (ret := (some (.object "PaperRoom$Row"))) (by decide) rfl ?_
  intro p e s m args below meth c s₁ B hml hv
  have hx := B.exec
  have hb := B.bytes
  have hrt := B.returns
  have hts := atoms_spec (ws := wsX8_lastViewOf) B.pre
  have hown : s.vm.findClass RX8 = some m.cls := findClass_of_methodNamed B.named
  have hlocks := B.notSynchronized
  obtain ⟨rfl, hB⟩ := m_start hv
  generalize va_A (m_w L ad g) sz = A at hB ⊢
  generalize s.heap = H at hB ⊢
  generalize ([] : List Loc) = locs at hB ⊢
  have hl := lv_entry ([.ref (ad 0), .int (nI k)]) (n := 2) (Nat.le_of_ble_eq_true rfl)
  rw [lg_entry_eq]
  generalize (lg_sl ([.ref (ad 0), .int (nI k)]) ++ List.replicate (2 - (lg_sl ([.ref (ad 0), .int (nI k)])).length) Slot.unset).toArray = ls at hl ⊢
  have hl : lv_has ls 2 [(0, .ref (ad 0)), (1, .int (nI k))] := hl
  have tI_k : (nI k).toInt = (k : Int) := nI_toInt (by omega)
  have ln : (nI 6).toInt = 6 := by decide
  refine lv_iload_n hx hb dX8_lastViewOf_0 rfl (lv_at hl 1 rfl) ?_
  refine lv_aload_n hx hb dX8_lastViewOf_1 rfl (lv_at hl 0 rfl) ?_
  refine m_get (C := RX8) (T := TX8) (N := 12) (ci := 8) hx hb hts in_X8_lastViewOf_X8 hown hB m_0 h_0 rfl 4 (by decide) (hts (.fieldLink RX8 31 "PaperRoom" "lastViews" "[LPaperRoom$Row;") (by decide +kernel)) (fun _ h9 => h9) rfl dX8_lastViewOf_2 ?_
  refine m_alen hx hb hB m_7 6 h_7 rfl (v := nI 6) rfl dX8_lastViewOf_5 ?_
  refine m_callSE (As := [.int (nI k), .int (nI 6)]) (rest := []) (c_isBelow_t l D ty L ad _ _ _ (by omega) (by omega)) ⟨hx, hb, hml, hown, hts⟩ (va_cwS 2 hts gX8_lastViewOf_X8_isBelow rfl rfl rfl (by decide +kernel) ⟨Nat.le_of_ble_eq_true rfl, Nat.le_of_ble_eq_true rfl⟩) hB rfl hl.1 rfl (Nat.le_of_ble_eq_true rfl) dX8_lastViewOf_6 ⟨Nat.le_of_ble_eq_true rfl, Nat.le_of_ble_eq_true rfl⟩ (fun H locs hB => ?_)
  refine b_if_eq_f 21 hx hb dX8_lastViewOf_9 (by decide) (by decide) ?_
  refine lv_aload_n hx hb dX8_lastViewOf_12 rfl (lv_at hl 0 rfl) ?_
  refine m_get (C := RX8) (T := TX8) (N := 12) (ci := 8) hx hb hts in_X8_lastViewOf_X8 hown hB m_0 h_0 rfl 4 (by decide) (hts (.fieldLink RX8 31 "PaperRoom" "lastViews" "[LPaperRoom$Row;") (by decide +kernel)) (fun _ h9 => h9) rfl dX8_lastViewOf_13 ?_
  refine lv_iload_n hx hb dX8_lastViewOf_16 rfl (lv_at hl 1 rfl) ?_
  refine n_aald hx hb hB m_7 6 h_7 rfl k rfl (by omega) (by omega) (w := vf k) rfl dX8_lastViewOf_17 ?_
  refine W.eq (g2 := F0 m 18 ls [va_rf (vf k)]) rfl ?_
  refine lv_goto (tgt := 22) hx hb dX8_lastViewOf_18 (by decide) ?_
  exact m_aret (v := (vf k)) hx hb hrt hlocks hB (Nat.le_refl _) (Nat.le_refl _) dX8_lastViewOf_22 ⟨rfl, rfl, rfl, rfl⟩
set_option maxHeartbeats 1000000 in
set_option maxRecDepth 100000 in
theorem c_X_lastView_f (l : Launch) (D : va_G) (ty : Nat → ClassId) (L : List Nat) (ad : Nat → Nat) (g : Nat → va_E) (pn qn : Nat) (nw : Int32) (tr : Int64) (vf : Nat → Option Nat) (i : Int32) (m_0 : 0 ∈ L) (m_7 : 7 ∈ L) (h_0 : g 0 = .inr (8, [.ref (ad 1), .ref (ad 3), .ref (ad 6), .int (nI pn), .ref (ad 7), .ref (ad 20), .ref (ad 22), .ref (ad 28), .int (nI qn), .ref (ad 29), .int nw, .long tr])) (h_7 : g 7 = .inl (ty 6, 6, .inr (.inr (.inr (.inr vf))))) (hi : ¬ (0 ≤ i.toInt ∧ i.toInt < 6)) : m_E l yX8_lastViewOf wsX8_lastViewOf 1 21 D ty [.ref (ad 0), .int i] L ad g (some (.null)) g := by
  intro sz
  refine Met.ofW (cc := cX8_lastViewOf) (maxL := 2) (ret := (some (.object "PaperRoom$Row"))) (by decide) rfl ?_
  intro p e s m args below meth c s₁ B hml hv
  have hx := B.exec
  have hb := B.bytes
  have hrt := B.returns
  have hts := atoms_spec (ws := wsX8_lastViewOf) B.pre
  have hown : s.vm.findClass RX8 = some m.cls := findClass_of_methodNamed B.named
  have hlocks := B.notSynchronized
  obtain ⟨rfl, hB⟩ := m_start hv
  generalize va_A (m_w L ad g) sz = A at hB ⊢
  generalize s.heap = H at hB ⊢
  generalize ([] : List Loc) = locs at hB ⊢
  have hl := lv_entry ([.ref (ad 0), .int i]) (n := 2) (Nat.le_of_ble_eq_true rfl)
  rw [lg_entry_eq]
  generalize (lg_sl ([.ref (ad 0), .int i]) ++ List.replicate (2 - (lg_sl ([.ref (ad 0), .int i])).length) Slot.unset).toArray = ls at hl ⊢
  have hl : lv_has ls 2 [(0, .ref (ad 0)), (1, .int i)] := hl
  have ln : (nI 6).toInt = 6 := by decide
  refine lv_iload_n hx hb dX8_lastViewOf_0 rfl (lv_at hl 1 rfl) ?_
  refine lv_aload_n hx hb dX8_lastViewOf_1 rfl (lv_at hl 0 rfl) ?_
  refine m_get (C := RX8) (T := TX8) (N := 12) (ci := 8) hx hb hts in_X8_lastViewOf_X8 hown hB m_0 h_0 rfl 4 (by decide) (hts (.fieldLink RX8 31 "PaperRoom" "lastViews" "[LPaperRoom$Row;") (by decide +kernel)) (fun _ h9 => h9) rfl dX8_lastViewOf_2 ?_
  refine m_alen hx hb hB m_7 6 h_7 rfl (v := nI 6) rfl dX8_lastViewOf_5 ?_
  refine m_callSE (As := [.int i, .int (nI 6)]) (rest := []) (c_isBelow_f l D ty L ad _ _ _ (by omega)) ⟨hx, hb, hml, hown, hts⟩ (va_cwS 2 hts gX8_lastViewOf_X8_isBelow rfl rfl rfl (by decide +kernel) ⟨Nat.le_of_ble_eq_true rfl, Nat.le_of_ble_eq_true rfl⟩) hB rfl hl.1 rfl (Nat.le_of_ble_eq_true rfl) dX8_lastViewOf_6 ⟨Nat.le_of_ble_eq_true rfl, Nat.le_of_ble_eq_true rfl⟩ (fun H locs hB => ?_)
  refine b_if_eq_t 21 hx hb dX8_lastViewOf_9 (by decide) (by decide) ?_
  refine lv_null hx hb dX8_lastViewOf_21 ?_
  exact m_aret (v := none) hx hb hrt hlocks hB (Nat.le_refl _) (Nat.le_refl _) dX8_lastViewOf_22 ⟨rfl, rfl, rfl, rfl⟩
set_option maxRecDepth 20000 in
theorem in_X8_questionNumber_X8 : ∀ w ∈ wsX80, w ∈ wsX8_questionNumber := by decide +kernel
set_option maxHeartbeats 1000000 in
set_option maxRecDepth 100000 in
theorem c_X_questionNumber_t (l : Launch) (D : va_G) (ty : Nat → ClassId) (L : List Nat) (ad : Nat → Nat) (g : Nat → va_E) (pn qn : Nat) (nw : Int32) (tr : Int64) (qf : Nat → Option Nat) (k : Nat) (m_0 : 0 ∈ L) (m_28 : 28 ∈ L) (h_0 : g 0 = .inr (8, [.ref (ad 1), .ref (ad 3), .ref (ad 6), .int (nI pn), .ref (ad 7), .ref (ad 20), .ref (ad 22), .ref (ad 28), .int (nI qn), .ref (ad 29), .int nw, .long tr])) (h_28 : g 28 = .inl (ty 5, 30, .inr (.inr (.inr (.inr qf))))) (hk : k < 30) : m_E l yX8_questionNumber wsX8_questionNumber 1 21 D ty [.ref (ad 0), .int (nI k)] L ad g (some (va_rf (qf k))) g := by
  intro sz
  refine Met.ofW (cc := cX8_questionNumber) (maxL := 2) (ret := (some (.object "PaperRoom$Question"))) (by decide) rfl ?_
  intro p e s m args below meth c s₁ B hml hv
  have hx := B.exec
  have hb := B.bytes
  have hrt := B.returns
  have hts := atoms_spec (ws := wsX8_questionNumber) B.pre
  have hown : s.vm.findClass RX8 = some m.cls := findClass_of_methodNamed B.named
  have hlocks := B.notSynchronized
  obtain ⟨rfl, hB⟩ := m_start hv
  generalize va_A (m_w L ad g) sz = A at hB ⊢
  generalize s.heap = H at hB ⊢
  generalize ([] : List Loc) = locs at hB ⊢
  have hl := lv_entry ([.ref (ad 0), .int (nI k)]) (n := 2) (Nat.le_of_ble_eq_true rfl)
  rw [lg_entry_eq]
  generalize (lg_sl ([.ref (ad 0), .int (nI k)]) ++ List.replicate (2 - (lg_sl ([.ref (ad 0), .int (nI k)])).length) Slot.unset).toArray = ls at hl ⊢
  have hl : lv_has ls 2 [(0, .ref (ad 0)), (1, .int (nI k))] := hl
  have tI_k : (nI k).toInt = (k : Int) := nI_toInt (by omega)
  have ln : (nI 30).toInt = 30 := by decide
  refine lv_iload_n hx hb dX8_questionNumber_0 rfl (lv_at hl 1 rfl) ?_
  refine lv_aload_n hx hb dX8_questionNumber_1 rfl (lv_at hl 0 rfl) ?_
  refine m_get (C := RX8) (T := TX8) (N := 12) (ci := 8) hx hb hts in_X8_questionNumber_X8 hown hB m_0 h_0 rfl 7 (by decide) (hts (.fieldLink RX8 47 "PaperRoom" "questions" "[LPaperRoom$Question;") (by decide +kernel)) (fun _ h9 => h9) rfl dX8_questionNumber_2 ?_
  refine m_alen hx hb hB m_28 5 h_28 rfl (v := nI 30) rfl dX8_questionNumber_5 ?_
  refine m_callSE (As := [.int (nI k), .int (nI 30)]) (rest := []) (c_isBelow_t l D ty L ad _ _ _ (by omega) (by omega)) ⟨hx, hb, hml, hown, hts⟩ (va_cwS 2 hts gX8_questionNumber_X8_isBelow rfl rfl rfl (by decide +kernel) ⟨Nat.le_of_ble_eq_true rfl, Nat.le_of_ble_eq_true rfl⟩) hB rfl hl.1 rfl (Nat.le_of_ble_eq_true rfl) dX8_questionNumber_6 ⟨Nat.le_of_ble_eq_true rfl, Nat.le_of_ble_eq_true rfl⟩ (fun H locs hB => ?_)
  refine b_if_eq_f 21 hx hb dX8_questionNumber_9 (by decide) (by decide) ?_
  refine lv_aload_n hx hb dX8_questionNumber_12 rfl (lv_at hl 0 rfl) ?_
  refine m_get (C := RX8) (T := TX8) (N := 12) (ci := 8) hx hb hts in_X8_questionNumber_X8 hown hB m_0 h_0 rfl 7 (by decide) (hts (.fieldLink RX8 47 "PaperRoom" "questions" "[LPaperRoom$Question;") (by decide +kernel)) (fun _ h9 => h9) rfl dX8_questionNumber_13 ?_
  refine lv_iload_n hx hb dX8_questionNumber_16 rfl (lv_at hl 1 rfl) ?_
  refine n_aald hx hb hB m_28 5 h_28 rfl k rfl (by omega) (by omega) (w := qf k) rfl dX8_questionNumber_17 ?_
  refine W.eq (g2 := F0 m 18 ls [va_rf (qf k)]) rfl ?_
  refine lv_goto (tgt := 22) hx hb dX8_questionNumber_18 (by decide) ?_
  exact m_aret (v := (qf k)) hx hb hrt hlocks hB (Nat.le_refl _) (Nat.le_refl _) dX8_questionNumber_22 ⟨rfl, rfl, rfl, rfl⟩
set_option maxHeartbeats 1000000 in
set_option maxRecDepth 100000 in
theorem c_X_questionNumber_f (l : Launch) (D : va_G) (ty : Nat → ClassId) (L : List Nat) (ad : Nat → Nat) (g : Nat → va_E) (pn qn : Nat) (nw : Int32) (tr : Int64) (qf : Nat → Option Nat) (i : Int32) (m_0 : 0 ∈ L) (m_28 : 28 ∈ L) (h_0 : g 0 = .inr (8, [.ref (ad 1), .ref (ad 3), .ref (ad 6), .int (nI pn), .ref (ad 7), .ref (ad 20), .ref (ad 22), .ref (ad 28), .int (nI qn), .ref (ad 29), .int nw, .long tr])) (h_28 : g 28 = .inl (ty 5, 30, .inr (.inr (.inr (.inr qf))))) (hi : ¬ (0 ≤ i.toInt ∧ i.toInt < 30)) : m_E l yX8_questionNumber wsX8_questionNumber 1 21 D ty [.ref (ad 0), .int i] L ad g (some (.null)) g := by
  intro sz
  refine Met.ofW (cc := cX8_questionNumber) (maxL := 2) (ret := (some (.object "PaperRoom$Question"))) (by decide) rfl ?_
  intro p e s m args below meth c s₁ B hml hv
  have hx := B.exec
  have hb := B.bytes
  have hrt := B.returns
  have hts := atoms_spec (ws := wsX8_questionNumber) B.pre
  have hown : s.vm.findClass RX8 = some m.cls := findClass_of_methodNamed B.named
  have hlocks := B.notSynchronized
  obtain ⟨rfl, hB⟩ := m_start hv
  generalize va_A (m_w L ad g) sz = A at hB ⊢
  generalize s.heap = H at hB ⊢
  generalize ([] : List Loc) = locs at hB ⊢
  have hl := lv_entry ([.ref (ad 0), .int i]) (n := 2) (Nat.le_of_ble_eq_true rfl)
  rw [lg_entry_eq]
  generalize (lg_sl ([.ref (ad 0), .int i]) ++ List.replicate (2 - (lg_sl ([.ref (ad 0), .int i])).length) Slot.unset).toArray = ls at hl ⊢
  have hl : lv_has ls 2 [(0, .ref (ad 0)), (1, .int i)] := hl
  have ln : (nI 30).toInt = 30 := by decide
  refine lv_iload_n hx hb dX8_questionNumber_0 rfl (lv_at hl 1 rfl) ?_
  refine lv_aload_n hx hb dX8_questionNumber_1 rfl (lv_at hl 0 rfl) ?_
  refine m_get (C := RX8) (T := TX8) (N := 12) (ci := 8) hx hb hts in_X8_questionNumber_X8 hown hB m_0 h_0 rfl 7 (by decide) (hts (.fieldLink RX8 47 "PaperRoom" "questions" "[LPaperRoom$Question;") (by decide +kernel)) (fun _ h9 => h9) rfl dX8_questionNumber_2 ?_
  refine m_alen hx hb hB m_28 5 h_28 rfl (v := nI 30) rfl dX8_questionNumber_5 ?_
  refine m_callSE (As := [.int i, .int (nI 30)]) (rest := []) (c_isBelow_f l D ty L ad _ _ _ (by omega)) ⟨hx, hb, hml, hown, hts⟩ (va_cwS 2 hts gX8_questionNumber_X8_isBelow rfl rfl rfl (by decide +kernel) ⟨Nat.le_of_ble_eq_true rfl, Nat.le_of_ble_eq_true rfl⟩) hB rfl hl.1 rfl (Nat.le_of_ble_eq_true rfl) dX8_questionNumber_6 ⟨Nat.le_of_ble_eq_true rfl, Nat.le_of_ble_eq_true rfl⟩ (fun H locs hB => ?_)
  refine b_if_eq_t 21 hx hb dX8_questionNumber_9 (by decide) (by decide) ?_
  refine lv_null hx hb dX8_questionNumber_21 ?_
  exact m_aret (v := none) hx hb hrt hlocks hB (Nat.le_refl _) (Nat.le_refl _) dX8_questionNumber_22 ⟨rfl, rfl, rfl, rfl⟩
set_option maxHeartbeats 1000000 in
set_option maxRecDepth 100000 in
theorem c_X_textOf_n (l : Launch) (D : va_G) (ty : Nat → ClassId) (L : List Nat) (ad : Nat → Nat) (g : Nat → va_E) (v : Int32)  : m_E l yX8_textOf wsX8_textOf 2 42 D ty [.null, .int v] L ad g (some (.null)) g := by
  intro sz
  refine Met.ofW (cc := cX8_textOf) (maxL := 2) (ret := (some (.object "PaperRoom$Text"))) (by decide) rfl ?_
  intro p e s m args below meth c s₁ B hml hv
  have hx := B.exec
  have hb := B.bytes
  have hrt := B.returns
  have hts := atoms_spec (ws := wsX8_textOf) B.pre
  have hown : s.vm.findClass RX8 = some m.cls := findClass_of_methodNamed B.named
  have hlocks := B.notSynchronized
  obtain ⟨rfl, hB⟩ := m_start hv
  generalize va_A (m_w L ad g) sz = A at hB ⊢
  generalize s.heap = H at hB ⊢
  generalize ([] : List Loc) = locs at hB ⊢
  have hl := lv_entry ([.null, .int v]) (n := 2) (Nat.le_of_ble_eq_true rfl)
  rw [lg_entry_eq]
  generalize (lg_sl ([.null, .int v]) ++ List.replicate (2 - (lg_sl ([.null, .int v])).length) Slot.unset).toArray = ls at hl ⊢
  have hl : lv_has ls 2 [(0, .null), (1, .int v)] := hl
  refine lv_aload_nN hx hb dX8_textOf_0 rfl (lv_at hl 0 rfl) ?_
  refine lv_ifnonnullN hx hb dX8_textOf_1 ?_
  refine lv_null hx hb dX8_textOf_4 ?_
  refine lv_goto (tgt := 13) hx hb dX8_textOf_5 (by decide) ?_
  exact m_aret (v := none) hx hb hrt hlocks hB (Nat.le_refl _) (Nat.le_refl _) dX8_textOf_13 ⟨rfl, rfl, rfl, rfl⟩
set_option maxHeartbeats 1000000 in
set_option maxRecDepth 100000 in
theorem c_X_textOf0_t (l : Launch) (D : va_G) (ty : Nat → ClassId) (L : List Nat) (ad : Nat → Nat) (g : Nat → va_E) (pp pt vn : Nat) (fo wd : Int32) (lg : Int32) (tf : Nat → Option Nat) (k : Nat) (m_pp : pp ∈ L) (m_pt : pt ∈ L) (h_pp : g pp = .inr (0, [.int fo, .ref (ad pt), .int (nI vn), .int wd, .int lg])) (h_pt : g pt = .inl (ty 7, 4, .inr (.inr (.inr (.inr tf))))) (hk : k < 4) : m_E l yX8_textOf wsX8_textOf 2 42 D ty [.ref (ad pp), .int (nI k)] L ad g (some (va_rf (tf k))) g := by
  intro sz
  refine Met.ofW (cc := cX8_textOf) (maxL := 2) (ret := (some (.object "PaperRoom$Text"))) (by decide) rfl ?_
  intro p e s m args below meth c s₁ B hml hv
  have hx := B.exec
  have hb := B.bytes
  have hrt := B.returns
  have hts := atoms_spec (ws := wsX8_textOf) B.pre
  have hown : s.vm.findClass RX8 = some m.cls := findClass_of_methodNamed B.named
  have hlocks := B.notSynchronized
  obtain ⟨rfl, hB⟩ := m_start hv
  generalize va_A (m_w L ad g) sz = A at hB ⊢
  generalize s.heap = H at hB ⊢
  generalize ([] : List Loc) = locs at hB ⊢
  have hl := lv_entry ([.ref (ad pp), .int (nI k)]) (n := 2) (Nat.le_of_ble_eq_true rfl)
  rw [lg_entry_eq]
  generalize (lg_sl ([.ref (ad pp), .int (nI k)]) ++ List.replicate (2 - (lg_sl ([.ref (ad pp), .int (nI k)])).length) Slot.unset).toArray = ls at hl ⊢
  have hl : lv_has ls 2 [(0, .ref (ad pp)), (1, .int (nI k))] := hl
  refine lv_aload_n hx hb dX8_textOf_0 rfl (lv_at hl 0 rfl) ?_
  refine lv_ifnonnull (tgt := 8) hx hb dX8_textOf_1 (by decide) ?_
  refine lv_aload_n hx hb dX8_textOf_8 rfl (lv_at hl 0 rfl) ?_
  refine lv_iload_n hx hb dX8_textOf_9 rfl (lv_at hl 1 rfl) ?_
  refine m_callUE (ci := 0) (As := [.int (nI k)]) (rest := []) (c_Held_text_t l D ty L ad g pp pt vn fo wd lg tf k m_pp m_pt h_pp h_pt hk) ⟨hx, hb, hml, hown, hts⟩ (va_cwU 1 hts gX8_textOf_X2_text_u247X0 rfl rfl rfl rfl (by decide +kernel) ⟨Nat.le_of_ble_eq_true rfl, Nat.le_of_ble_eq_true rfl⟩) hB m_pp h_pp rfl rfl hl.1 rfl (Nat.le_of_ble_eq_true rfl) dX8_textOf_10 ⟨Nat.le_of_ble_eq_true rfl, Nat.le_of_ble_eq_true rfl⟩ (fun H locs hB => ?_)
  exact m_aret (v := (tf k)) hx hb hrt hlocks hB (Nat.le_refl _) (Nat.le_refl _) dX8_textOf_13 ⟨rfl, rfl, rfl, rfl⟩
set_option maxHeartbeats 1000000 in
set_option maxRecDepth 100000 in
theorem c_X_textOf0_f (l : Launch) (D : va_G) (ty : Nat → ClassId) (L : List Nat) (ad : Nat → Nat) (g : Nat → va_E) (pp pt vn : Nat) (fo wd : Int32) (lg : Int32) (tf : Nat → Option Nat) (i : Int32) (m_pp : pp ∈ L) (m_pt : pt ∈ L) (h_pp : g pp = .inr (0, [.int fo, .ref (ad pt), .int (nI vn), .int wd, .int lg])) (h_pt : g pt = .inl (ty 7, 4, .inr (.inr (.inr (.inr tf))))) (hi : ¬ (0 ≤ i.toInt ∧ i.toInt < (nI 4).toInt)) : m_E l yX8_textOf wsX8_textOf 2 42 D ty [.ref (ad pp), .int i] L ad g (some (.null)) g := by
  intro sz
  refine Met.ofW (cc := cX8_textOf) (maxL := 2) (ret := (some (.object "PaperRoom$Text"))) (by decide) rfl ?_
  intro p e s m args below meth c s₁ B hml hv
  have hx := B.exec
  have hb := B.bytes
  have hrt := B.returns
  have hts := atoms_spec (ws := wsX8_textOf) B.pre
  have hown : s.vm.findClass RX8 = some m.cls := findClass_of_methodNamed B.named
  have hlocks := B.notSynchronized
  obtain ⟨rfl, hB⟩ := m_start hv
  generalize va_A (m_w L ad g) sz = A at hB ⊢
  generalize s.heap = H at hB ⊢
  generalize ([] : List Loc) = locs at hB ⊢
  have hl := lv_entry ([.ref (ad pp), .int i]) (n := 2) (Nat.le_of_ble_eq_true rfl)
  rw [lg_entry_eq]
  generalize (lg_sl ([.ref (ad pp), .int i]) ++ List.replicate (2 - (lg_sl ([.ref (ad pp), .int i])).length) Slot.unset).toArray = ls at hl ⊢
  have hl : lv_has ls 2 [(0, .ref (ad pp)), (1, .int i)] := hl
  refine lv_aload_n hx hb dX8_textOf_0 rfl (lv_at hl 0 rfl) ?_
  refine lv_ifnonnull (tgt := 8) hx hb dX8_textOf_1 (by decide) ?_
  refine lv_aload_n hx hb dX8_textOf_8 rfl (lv_at hl 0 rfl) ?_
  refine lv_iload_n hx hb dX8_textOf_9 rfl (lv_at hl 1 rfl) ?_
  refine m_callUE (ci := 0) (As := [.int i]) (rest := []) (c_Held_text_f l D ty L ad g pp pt vn fo wd lg tf i m_pp m_pt h_pp h_pt hi) ⟨hx, hb, hml, hown, hts⟩ (va_cwU 1 hts gX8_textOf_X2_text_u247X0 rfl rfl rfl rfl (by decide +kernel) ⟨Nat.le_of_ble_eq_true rfl, Nat.le_of_ble_eq_true rfl⟩) hB m_pp h_pp rfl rfl hl.1 rfl (Nat.le_of_ble_eq_true rfl) dX8_textOf_10 ⟨Nat.le_of_ble_eq_true rfl, Nat.le_of_ble_eq_true rfl⟩ (fun H locs hB => ?_)
  exact m_aret (v := none) hx hb hrt hlocks hB (Nat.le_refl _) (Nat.le_refl _) dX8_textOf_13 ⟨rfl, rfl, rfl, rfl⟩
set_option maxHeartbeats 1000000 in
set_option maxRecDepth 100000 in
theorem c_X_textOf1_t (l : Launch) (D : va_G) (ty : Nat → ClassId) (L : List Nat) (ad : Nat → Nat) (g : Nat → va_E) (pp pt vn : Nat) (fo wd : Int32) (tf : Nat → Option Nat) (k : Nat) (m_pp : pp ∈ L) (m_pt : pt ∈ L) (h_pp : g pp = .inr (1, [.int fo, .ref (ad pt), .int (nI vn), .int wd])) (h_pt : g pt = .inl (ty 7, 4, .inr (.inr (.inr (.inr tf))))) (hk : k < 4) : m_E l yX8_textOf wsX8_textOf 2 42 D ty [.ref (ad pp), .int (nI k)] L ad g (some (va_rf (tf k))) g := by
  intro sz
  refine Met.ofW (cc := cX8_textOf) (maxL := 2) (ret := (some (.object "PaperRoom$Text"))) (by decide) rfl ?_
  intro p e s m args below meth c s₁ B hml hv
  have hx := B.exec
  have hb := B.bytes
  have hrt := B.returns
  have hts := atoms_spec (ws := wsX8_textOf) B.pre
  have hown : s.vm.findClass RX8 = some m.cls := findClass_of_methodNamed B.named
  have hlocks := B.notSynchronized
  obtain ⟨rfl, hB⟩ := m_start hv
  generalize va_A (m_w L ad g) sz = A at hB ⊢
  generalize s.heap = H at hB ⊢
  generalize ([] : List Loc) = locs at hB ⊢
  have hl := lv_entry ([.ref (ad pp), .int (nI k)]) (n := 2) (Nat.le_of_ble_eq_true rfl)
  rw [lg_entry_eq]
  generalize (lg_sl ([.ref (ad pp), .int (nI k)]) ++ List.replicate (2 - (lg_sl ([.ref (ad pp), .int (nI k)])).length) Slot.unset).toArray = ls at hl ⊢
  have hl : lv_has ls 2 [(0, .ref (ad pp)), (1, .int (nI k))] := hl
  refine lv_aload_n hx hb dX8_textOf_0 rfl (lv_at hl 0 rfl) ?_
  refine lv_ifnonnull (tgt := 8) hx hb dX8_textOf_1 (by decide) ?_
  refine lv_aload_n hx hb dX8_textOf_8 rfl (lv_at hl 0 rfl) ?_
  refine lv_iload_n hx hb dX8_textOf_9 rfl (lv_at hl 1 rfl) ?_
  refine m_callUE (ci := 1) (As := [.int (nI k)]) (rest := []) (c_Marked_text_t l D ty L ad g pp pt vn fo wd tf k m_pp m_pt h_pp h_pt hk) ⟨hx, hb, hml, hown, hts⟩ (va_cwU 1 hts gX8_textOf_X2_text_u247X1 rfl rfl rfl rfl (by decide +kernel) ⟨Nat.le_of_ble_eq_true rfl, Nat.le_of_ble_eq_true rfl⟩) hB m_pp h_pp rfl rfl hl.1 rfl (Nat.le_of_ble_eq_true rfl) dX8_textOf_10 ⟨Nat.le_of_ble_eq_true rfl, Nat.le_of_ble_eq_true rfl⟩ (fun H locs hB => ?_)
  exact m_aret (v := (tf k)) hx hb hrt hlocks hB (Nat.le_refl _) (Nat.le_refl _) dX8_textOf_13 ⟨rfl, rfl, rfl, rfl⟩
set_option maxHeartbeats 1000000 in
set_option maxRecDepth 100000 in
theorem c_X_textOf1_f (l : Launch) (D : va_G) (ty : Nat → ClassId) (L : List Nat) (ad : Nat → Nat) (g : Nat → va_E) (pp pt vn : Nat) (fo wd : Int32) (tf : Nat → Option Nat) (i : Int32) (m_pp : pp ∈ L) (m_pt : pt ∈ L) (h_pp : g pp = .inr (1, [.int fo, .ref (ad pt), .int (nI vn), .int wd])) (h_pt : g pt = .inl (ty 7, 4, .inr (.inr (.inr (.inr tf))))) (hi : ¬ (0 ≤ i.toInt ∧ i.toInt < (nI 4).toInt)) : m_E l yX8_textOf wsX8_textOf 2 42 D ty [.ref (ad pp), .int i] L ad g (some (.null)) g := by
  intro sz
  refine Met.ofW (cc := cX8_textOf) (maxL := 2) (ret := (some (.object "PaperRoom$Text"))) (by decide) rfl ?_
  intro p e s m args below meth c s₁ B hml hv
  have hx := B.exec
  have hb := B.bytes
  have hrt := B.returns
  have hts := atoms_spec (ws := wsX8_textOf) B.pre
  have hown : s.vm.findClass RX8 = some m.cls := findClass_of_methodNamed B.named
  have hlocks := B.notSynchronized
  obtain ⟨rfl, hB⟩ := m_start hv
  generalize va_A (m_w L ad g) sz = A at hB ⊢
  generalize s.heap = H at hB ⊢
  generalize ([] : List Loc) = locs at hB ⊢
  have hl := lv_entry ([.ref (ad pp), .int i]) (n := 2) (Nat.le_of_ble_eq_true rfl)
  rw [lg_entry_eq]
  generalize (lg_sl ([.ref (ad pp), .int i]) ++ List.replicate (2 - (lg_sl ([.ref (ad pp), .int i])).length) Slot.unset).toArray = ls at hl ⊢
  have hl : lv_has ls 2 [(0, .ref (ad pp)), (1, .int i)] := hl
  refine lv_aload_n hx hb dX8_textOf_0 rfl (lv_at hl 0 rfl) ?_
  refine lv_ifnonnull (tgt := 8) hx hb dX8_textOf_1 (by decide) ?_
  refine lv_aload_n hx hb dX8_textOf_8 rfl (lv_at hl 0 rfl) ?_
  refine lv_iload_n hx hb dX8_textOf_9 rfl (lv_at hl 1 rfl) ?_
  refine m_callUE (ci := 1) (As := [.int i]) (rest := []) (c_Marked_text_f l D ty L ad g pp pt vn fo wd tf i m_pp m_pt h_pp h_pt hi) ⟨hx, hb, hml, hown, hts⟩ (va_cwU 1 hts gX8_textOf_X2_text_u247X1 rfl rfl rfl rfl (by decide +kernel) ⟨Nat.le_of_ble_eq_true rfl, Nat.le_of_ble_eq_true rfl⟩) hB m_pp h_pp rfl rfl hl.1 rfl (Nat.le_of_ble_eq_true rfl) dX8_textOf_10 ⟨Nat.le_of_ble_eq_true rfl, Nat.le_of_ble_eq_true rfl⟩ (fun H locs hB => ?_)
  exact m_aret (v := none) hx hb hrt hlocks hB (Nat.le_refl _) (Nat.le_refl _) dX8_textOf_13 ⟨rfl, rfl, rfl, rfl⟩
set_option maxHeartbeats 1000000 in
set_option maxRecDepth 100000 in
theorem c_X_textOf2_t (l : Launch) (D : va_G) (ty : Nat → ClassId) (L : List Nat) (ad : Nat → Nat) (g : Nat → va_E) (pp pt vn : Nat) (fo wd : Int32) (tf : Nat → Option Nat) (k : Nat) (m_pp : pp ∈ L) (m_pt : pt ∈ L) (h_pp : g pp = .inr (2, [.int fo, .ref (ad pt), .int (nI vn), .int wd])) (h_pt : g pt = .inl (ty 7, 4, .inr (.inr (.inr (.inr tf))))) (hk : k < 4) : m_E l yX8_textOf wsX8_textOf 2 42 D ty [.ref (ad pp), .int (nI k)] L ad g (some (va_rf (tf k))) g := by
  intro sz
  refine Met.ofW (cc := cX8_textOf) (maxL := 2) (ret := (some (.object "PaperRoom$Text"))) (by decide) rfl ?_
  intro p e s m args below meth c s₁ B hml hv
  have hx := B.exec
  have hb := B.bytes
  have hrt := B.returns
  have hts := atoms_spec (ws := wsX8_textOf) B.pre
  have hown : s.vm.findClass RX8 = some m.cls := findClass_of_methodNamed B.named
  have hlocks := B.notSynchronized
  obtain ⟨rfl, hB⟩ := m_start hv
  generalize va_A (m_w L ad g) sz = A at hB ⊢
  generalize s.heap = H at hB ⊢
  generalize ([] : List Loc) = locs at hB ⊢
  have hl := lv_entry ([.ref (ad pp), .int (nI k)]) (n := 2) (Nat.le_of_ble_eq_true rfl)
  rw [lg_entry_eq]
  generalize (lg_sl ([.ref (ad pp), .int (nI k)]) ++ List.replicate (2 - (lg_sl ([.ref (ad pp), .int (nI k)])).length) Slot.unset).toArray = ls at hl ⊢
  have hl : lv_has ls 2 [(0, .ref (ad pp)), (1, .int (nI k))] := hl
  refine lv_aload_n hx hb dX8_textOf_0 rfl (lv_at hl 0 rfl) ?_
  refine lv_ifnonnull (tgt := 8) hx hb dX8_textOf_1 (by decide) ?_
  refine lv_aload_n hx hb dX8_textOf_8 rfl (lv_at hl 0 rfl) ?_
  refine lv_iload_n hx hb dX8_textOf_9 rfl (lv_at hl 1 rfl) ?_
  refine m_callVE (ci := 2) (As := [.int (nI k)]) (rest := []) (c_Paper_text_t l D ty L ad g pp pt vn fo wd tf k m_pp m_pt h_pp h_pt hk) ⟨hx, hb, hml, hown, hts⟩ (cwV 1 hts gX8_textOf_X2_text rfl rfl rfl (by decide +kernel) ⟨Nat.le_of_ble_eq_true rfl, Nat.le_of_ble_eq_true rfl⟩) hB m_pp h_pp rfl rfl hl.1 rfl (Nat.le_of_ble_eq_true rfl) dX8_textOf_10 ⟨Nat.le_of_ble_eq_true rfl, Nat.le_of_ble_eq_true rfl⟩ (fun H locs hB => ?_)
  exact m_aret (v := (tf k)) hx hb hrt hlocks hB (Nat.le_refl _) (Nat.le_refl _) dX8_textOf_13 ⟨rfl, rfl, rfl, rfl⟩
set_option maxHeartbeats 1000000 in
set_option maxRecDepth 100000 in
theorem c_X_textOf2_f (l : Launch) (D : va_G) (ty : Nat → ClassId) (L : List Nat) (ad : Nat → Nat) (g : Nat → va_E) (pp pt vn : Nat) (fo wd : Int32) (tf : Nat → Option Nat) (i : Int32) (m_pp : pp ∈ L) (m_pt : pt ∈ L) (h_pp : g pp = .inr (2, [.int fo, .ref (ad pt), .int (nI vn), .int wd])) (h_pt : g pt = .inl (ty 7, 4, .inr (.inr (.inr (.inr tf))))) (hi : ¬ (0 ≤ i.toInt ∧ i.toInt < (nI 4).toInt)) : m_E l yX8_textOf wsX8_textOf 2 42 D ty [.ref (ad pp), .int i] L ad g (some (.null)) g := by
  intro sz
  refine Met.ofW (cc := cX8_textOf) (maxL := 2) (ret := (some (.object "PaperRoom$Text"))) (by decide) rfl ?_
  intro p e s m args below meth c s₁ B hml hv
  have hx := B.exec
  have hb := B.bytes
  have hrt := B.returns
  have hts := atoms_spec (ws := wsX8_textOf) B.pre
  have hown : s.vm.findClass RX8 = some m.cls := findClass_of_methodNamed B.named
  have hlocks := B.notSynchronized
  obtain ⟨rfl, hB⟩ := m_start hv
  generalize va_A (m_w L ad g) sz = A at hB ⊢
  generalize s.heap = H at hB ⊢
  generalize ([] : List Loc) = locs at hB ⊢
  have hl := lv_entry ([.ref (ad pp), .int i]) (n := 2) (Nat.le_of_ble_eq_true rfl)
  rw [lg_entry_eq]
  generalize (lg_sl ([.ref (ad pp), .int i]) ++ List.replicate (2 - (lg_sl ([.ref (ad pp), .int i])).length) Slot.unset).toArray = ls at hl ⊢
  have hl : lv_has ls 2 [(0, .ref (ad pp)), (1, .int i)] := hl
  refine lv_aload_n hx hb dX8_textOf_0 rfl (lv_at hl 0 rfl) ?_
  refine lv_ifnonnull (tgt := 8) hx hb dX8_textOf_1 (by decide) ?_
  refine lv_aload_n hx hb dX8_textOf_8 rfl (lv_at hl 0 rfl) ?_
  refine lv_iload_n hx hb dX8_textOf_9 rfl (lv_at hl 1 rfl) ?_
  refine m_callVE (ci := 2) (As := [.int i]) (rest := []) (c_Paper_text_f l D ty L ad g pp pt vn fo wd tf i m_pp m_pt h_pp h_pt hi) ⟨hx, hb, hml, hown, hts⟩ (cwV 1 hts gX8_textOf_X2_text rfl rfl rfl (by decide +kernel) ⟨Nat.le_of_ble_eq_true rfl, Nat.le_of_ble_eq_true rfl⟩) hB m_pp h_pp rfl rfl hl.1 rfl (Nat.le_of_ble_eq_true rfl) dX8_textOf_10 ⟨Nat.le_of_ble_eq_true rfl, Nat.le_of_ble_eq_true rfl⟩ (fun H locs hB => ?_)
  exact m_aret (v := none) hx hb hrt hlocks hB (Nat.le_refl _) (Nat.le_refl _) dX8_textOf_13 ⟨rfl, rfl, rfl, rfl⟩
set_option maxHeartbeats 1000000 in
set_option maxRecDepth 100000 in
theorem c_X_isOpen_n (l : Launch) (D : va_G) (ty : Nat → ClassId) (L : List Nat) (ad : Nat → Nat) (g : Nat → va_E) (pn qn : Nat) (nw : Int32) (tr : Int64) (v : Int32) (m_0 : 0 ∈ L) (h_0 : g 0 = .inr (8, [.ref (ad 1), .ref (ad 3), .ref (ad 6), .int (nI pn), .ref (ad 7), .ref (ad 20), .ref (ad 22), .ref (ad 28), .int (nI qn), .ref (ad 29), .int nw, .long tr]))  : m_E l yX8_isOpen wsX8_isOpen 4 91 D ty [.ref (ad 0), .null, .int v] L ad g (some (.int 0)) g := by
  intro sz
  refine Met.ofW (cc := cX8_isOpen) (maxL := 3) (ret := (some .boolean)) (by decide) rfl ?_
  intro p e s m args below meth c s₁ B hml hv
  have hx := B.exec
  have hb := B.bytes
  have hrt := B.returns
  have hts := atoms_spec (ws := wsX8_isOpen) B.pre
  have hown : s.vm.findClass RX8 = some m.cls := findClass_of_methodNamed B.named
  have hlocks := B.notSynchronized
  obtain ⟨rfl, hB⟩ := m_start hv
  generalize va_A (m_w L ad g) sz = A at hB ⊢
  generalize s.heap = H at hB ⊢
  generalize ([] : List Loc) = locs at hB ⊢
  have hl := lv_entry ([.ref (ad 0), .null, .int v]) (n := 3) (Nat.le_of_ble_eq_true rfl)
  rw [lg_entry_eq]
  generalize (lg_sl ([.ref (ad 0), .null, .int v]) ++ List.replicate (3 - (lg_sl ([.ref (ad 0), .null, .int v])).length) Slot.unset).toArray = ls at hl ⊢
  have hl : lv_has ls 3 [(0, .ref (ad 0)), (1, .null), (2, .int v)] := hl
  refine lv_aload_nN hx hb dX8_isOpen_0 rfl (lv_at hl 1 rfl) ?_
  refine lv_ifnullN (tgt := 26) hx hb dX8_isOpen_1 (by decide) ?_
  refine lv_iconst (v := 0) hx hb dX8_isOpen_26 (by decide) ?_
  exact m_zret hx hb hrt hlocks hB (Nat.le_refl _) (Nat.le_refl _) dX8_isOpen_27 rfl ⟨rfl, rfl, rfl, rfl⟩
set_option maxRecDepth 20000 in
theorem in_X8_isOpen_X8 : ∀ w ∈ wsX80, w ∈ wsX8_isOpen := by decide +kernel
set_option maxRecDepth 20000 in
theorem oc_X8_isOpen_X2_isOpenTo : Cond.code yX2_isOpenTo cX2_isOpenTo 4 (some .boolean) ∈ wsX8_isOpen := List.mem_of_getElem? (i := 15) rfl
set_option maxHeartbeats 1000000 in
set_option maxRecDepth 100000 in
theorem c_X_isOpen0 (l : Launch) (D : va_G) (ty : Nat → ClassId) (L : List Nat) (ad : Nat → Nat) (g : Nat → va_E) (pn qn : Nat) (nw : Int32) (tr : Int64) (fs fe : Nat → Int32) (pp pt vn : Nat) (wd : Int32) (lg : Int32) (b f : Nat) (m_0 : 0 ∈ L) (m_3 : 3 ∈ L) (m_4 : 4 ∈ L) (m_5 : 5 ∈ L) (m_pp : pp ∈ L) (h_0 : g 0 = .inr (8, [.ref (ad 1), .ref (ad 3), .ref (ad 6), .int (nI pn), .ref (ad 7), .ref (ad 20), .ref (ad 22), .ref (ad 28), .int (nI qn), .ref (ad 29), .int nw, .long tr])) (h_3 : g 3 = .inr (4, [.ref (ad 4), .ref (ad 5)])) (h_4 : g 4 = .inl (ty 0, 12, .inl fs)) (h_5 : g 5 = .inl (ty 0, 12, .inl fe)) (h_pp : g pp = .inr (0, [.int (nI f), .ref (ad pt), .int (nI vn), .int wd, .int lg])) (hb6 : b < 6) (hf4 : f < 4) (hwd : wd = 0 ∨ wd = 1) : m_E l yX8_isOpen wsX8_isOpen 4 91 D ty [.ref (ad 0), .ref (ad pp), .int (nI b)] L ad g (some (.int (zb (opn wd fs fe (b % 3 * 4 + f) nw && decide (lg.toInt ≤ nw.toInt))))) g := by
  intro sz
  refine Met.ofW (cc := cX8_isOpen) (maxL := 3) (ret := (some .boolean)) (by decide) rfl ?_
  intro p e s m args below meth c s₁ B hml hv
  have hx := B.exec
  have hb := B.bytes
  have hrt := B.returns
  have hts := atoms_spec (ws := wsX8_isOpen) B.pre
  have hown : s.vm.findClass RX8 = some m.cls := findClass_of_methodNamed B.named
  have hlocks := B.notSynchronized
  obtain ⟨rfl, hB⟩ := m_start hv
  generalize va_A (m_w L ad g) sz = A at hB ⊢
  generalize s.heap = H at hB ⊢
  generalize ([] : List Loc) = locs at hB ⊢
  have hl := lv_entry ([.ref (ad 0), .ref (ad pp), .int (nI b)]) (n := 3) (Nat.le_of_ble_eq_true rfl)
  rw [lg_entry_eq]
  generalize (lg_sl ([.ref (ad 0), .ref (ad pp), .int (nI b)]) ++ List.replicate (3 - (lg_sl ([.ref (ad 0), .ref (ad pp), .int (nI b)])).length) Slot.unset).toArray = ls at hl ⊢
  have hl : lv_has ls 3 [(0, .ref (ad 0)), (1, .ref (ad pp)), (2, .int (nI b))] := hl
  rcases bool2 (opn wd fs fe (b % 3 * 4 + f) nw && decide (lg.toInt ≤ nw.toInt)) with hc | hc
  · skip
    refine lv_aload_n hx hb dX8_isOpen_0 rfl (lv_at hl 1 rfl) ?_
    refine lv_ifnull hx hb dX8_isOpen_1 ?_
    refine lv_aload_n hx hb dX8_isOpen_4 rfl (lv_at hl 1 rfl) ?_
    refine lv_iload_n hx hb dX8_isOpen_5 rfl (lv_at hl 2 rfl) ?_
    refine lv_iconst (v := 3) hx hb dX8_isOpen_6 (by decide) ?_
    refine lv_irem hx hb dX8_isOpen_7 (by decide) ?_
    refine b_topi (w := nI (b % 3)) (i_rem3 b (by omega)) ?_
    refine lv_aload_n hx hb dX8_isOpen_8 rfl (lv_at hl 0 rfl) ?_
    refine m_get (C := RX8) (T := TX8) (N := 12) (ci := 8) hx hb hts in_X8_isOpen_X8 hown hB m_0 h_0 rfl 1 (by decide) (hts (.fieldLink RX8 21 "PaperRoom" "granted" "LPaperRoom$Rights;") (by decide +kernel)) (fun _ h9 => h9) rfl dX8_isOpen_9 ?_
    refine lv_aload_n hx hb dX8_isOpen_12 rfl (lv_at hl 0 rfl) ?_
    refine m_get (C := RX8) (T := TX8) (N := 12) (ci := 8) hx hb hts in_X8_isOpen_X8 hown hB m_0 h_0 rfl 10 (by decide) (hts (.fieldLink RX8 122 "PaperRoom" "now" "I") (by decide +kernel)) (fun _ h9 => h9) rfl dX8_isOpen_13 ?_
    refine m_callUE (ci := 0) (As := [.int (nI (b % 3)), .ref (ad 3), .int nw]) (rest := []) (c_Held_isOpen l D ty L ad g pp pt vn wd lg 3 4 5 fs fe (b % 3) f nw m_pp m_3 m_4 m_5 h_pp h_3 h_4 h_5 (by omega) hf4 hwd) ⟨hx, hb, hml, hown, hts⟩ (va_cwO 3 hts gX8_isOpen_X0_isOpenTo_u251X0 rfl rfl rfl oc_X8_isOpen_X2_isOpenTo (by decide +kernel) ⟨Nat.le_of_ble_eq_true rfl, Nat.le_of_ble_eq_true rfl⟩) hB m_pp h_pp rfl rfl hl.1 rfl (Nat.le_of_ble_eq_true rfl) dX8_isOpen_16 ⟨Nat.le_of_ble_eq_true rfl, Nat.le_of_ble_eq_true rfl⟩ (fun H locs hB => ?_)
    refine b_if_eq_f 26 hx hb dX8_isOpen_19 (by decide) (by rw [hc]; decide) ?_
    refine lv_iconst (v := 1) hx hb dX8_isOpen_22 (by decide) ?_
    refine lv_goto (tgt := 27) hx hb dX8_isOpen_23 (by decide) ?_
    exact m_zret hx hb hrt hlocks hB (Nat.le_refl _) (Nat.le_refl _) dX8_isOpen_27 rfl ⟨zt hc, rfl, rfl, rfl⟩
  · skip
    refine lv_aload_n hx hb dX8_isOpen_0 rfl (lv_at hl 1 rfl) ?_
    refine lv_ifnull hx hb dX8_isOpen_1 ?_
    refine lv_aload_n hx hb dX8_isOpen_4 rfl (lv_at hl 1 rfl) ?_
    refine lv_iload_n hx hb dX8_isOpen_5 rfl (lv_at hl 2 rfl) ?_
    refine lv_iconst (v := 3) hx hb dX8_isOpen_6 (by decide) ?_
    refine lv_irem hx hb dX8_isOpen_7 (by decide) ?_
    refine b_topi (w := nI (b % 3)) (i_rem3 b (by omega)) ?_
    refine lv_aload_n hx hb dX8_isOpen_8 rfl (lv_at hl 0 rfl) ?_
    refine m_get (C := RX8) (T := TX8) (N := 12) (ci := 8) hx hb hts in_X8_isOpen_X8 hown hB m_0 h_0 rfl 1 (by decide) (hts (.fieldLink RX8 21 "PaperRoom" "granted" "LPaperRoom$Rights;") (by decide +kernel)) (fun _ h9 => h9) rfl dX8_isOpen_9 ?_
    refine lv_aload_n hx hb dX8_isOpen_12 rfl (lv_at hl 0 rfl) ?_
    refine m_get (C := RX8) (T := TX8) (N := 12) (ci := 8) hx hb hts in_X8_isOpen_X8 hown hB m_0 h_0 rfl 10 (by decide) (hts (.fieldLink RX8 122 "PaperRoom" "now" "I") (by decide +kernel)) (fun _ h9 => h9) rfl dX8_isOpen_13 ?_
    refine m_callUE (ci := 0) (As := [.int (nI (b % 3)), .ref (ad 3), .int nw]) (rest := []) (c_Held_isOpen l D ty L ad g pp pt vn wd lg 3 4 5 fs fe (b % 3) f nw m_pp m_3 m_4 m_5 h_pp h_3 h_4 h_5 (by omega) hf4 hwd) ⟨hx, hb, hml, hown, hts⟩ (va_cwO 3 hts gX8_isOpen_X0_isOpenTo_u251X0 rfl rfl rfl oc_X8_isOpen_X2_isOpenTo (by decide +kernel) ⟨Nat.le_of_ble_eq_true rfl, Nat.le_of_ble_eq_true rfl⟩) hB m_pp h_pp rfl rfl hl.1 rfl (Nat.le_of_ble_eq_true rfl) dX8_isOpen_16 ⟨Nat.le_of_ble_eq_true rfl, Nat.le_of_ble_eq_true rfl⟩ (fun H locs hB => ?_)
    refine b_if_eq_t 26 hx hb dX8_isOpen_19 (by decide) (by rw [hc]; decide) ?_
    refine lv_iconst (v := 0) hx hb dX8_isOpen_26 (by decide) ?_
    exact m_zret hx hb hrt hlocks hB (Nat.le_refl _) (Nat.le_refl _) dX8_isOpen_27 rfl ⟨zf hc, rfl, rfl, rfl⟩
set_option maxHeartbeats 1000000 in
set_option maxRecDepth 100000 in
theorem c_X_isOpen1 (l : Launch) (D : va_G) (ty : Nat → ClassId) (L : List Nat) (ad : Nat → Nat) (g : Nat → va_E) (pn qn : Nat) (nw : Int32) (tr : Int64) (fs fe : Nat → Int32) (pp pt vn : Nat) (wd : Int32) (b f : Nat) (m_0 : 0 ∈ L) (m_3 : 3 ∈ L) (m_4 : 4 ∈ L) (m_5 : 5 ∈ L) (m_pp : pp ∈ L) (h_0 : g 0 = .inr (8, [.ref (ad 1), .ref (ad 3), .ref (ad 6), .int (nI pn), .ref (ad 7), .ref (ad 20), .ref (ad 22), .ref (ad 28), .int (nI qn), .ref (ad 29), .int nw, .long tr])) (h_3 : g 3 = .inr (4, [.ref (ad 4), .ref (ad 5)])) (h_4 : g 4 = .inl (ty 0, 12, .inl fs)) (h_5 : g 5 = .inl (ty 0, 12, .inl fe)) (h_pp : g pp = .inr (1, [.int (nI f), .ref (ad pt), .int (nI vn), .int wd])) (hb6 : b < 6) (hf4 : f < 4) (hwd : wd = 0 ∨ wd = 1) : m_E l yX8_isOpen wsX8_isOpen 4 91 D ty [.ref (ad 0), .ref (ad pp), .int (nI b)] L ad g (some (.int (zb (opn wd fs fe (b % 3 * 4 + f) nw)))) g := by
  intro sz
  refine Met.ofW (cc := cX8_isOpen) (maxL := 3) (ret := (some .boolean)) (by decide) rfl ?_
  intro p e s m args below meth c s₁ B hml hv
  have hx := B.exec
  have hb := B.bytes
  have hrt := B.returns
  have hts := atoms_spec (ws := wsX8_isOpen) B.pre
  have hown : s.vm.findClass RX8 = some m.cls := findClass_of_methodNamed B.named
  have hlocks := B.notSynchronized
  obtain ⟨rfl, hB⟩ := m_start hv
  generalize va_A (m_w L ad g) sz = A at hB ⊢
  generalize s.heap = H at hB ⊢
  generalize ([] : List Loc) = locs at hB ⊢
  have hl := lv_entry ([.ref (ad 0), .ref (ad pp), .int (nI b)]) (n := 3) (Nat.le_of_ble_eq_true rfl)
  rw [lg_entry_eq]
  generalize (lg_sl ([.ref (ad 0), .ref (ad pp), .int (nI b)]) ++ List.replicate (3 - (lg_sl ([.ref (ad 0), .ref (ad pp), .int (nI b)])).length) Slot.unset).toArray = ls at hl ⊢
  have hl : lv_has ls 3 [(0, .ref (ad 0)), (1, .ref (ad pp)), (2, .int (nI b))] := hl
  rcases bool2 (opn wd fs fe (b % 3 * 4 + f) nw) with hc | hc
  · skip
    refine lv_aload_n hx hb dX8_isOpen_0 rfl (lv_at hl 1 rfl) ?_
    refine lv_ifnull hx hb dX8_isOpen_1 ?_
    refine lv_aload_n hx hb dX8_isOpen_4 rfl (lv_at hl 1 rfl) ?_
    refine lv_iload_n hx hb dX8_isOpen_5 rfl (lv_at hl 2 rfl) ?_
    refine lv_iconst (v := 3) hx hb dX8_isOpen_6 (by decide) ?_
    refine lv_irem hx hb dX8_isOpen_7 (by decide) ?_
    refine b_topi (w := nI (b % 3)) (i_rem3 b (by omega)) ?_
    refine lv_aload_n hx hb dX8_isOpen_8 rfl (lv_at hl 0 rfl) ?_
    refine m_get (C := RX8) (T := TX8) (N := 12) (ci := 8) hx hb hts in_X8_isOpen_X8 hown hB m_0 h_0 rfl 1 (by decide) (hts (.fieldLink RX8 21 "PaperRoom" "granted" "LPaperRoom$Rights;") (by decide +kernel)) (fun _ h9 => h9) rfl dX8_isOpen_9 ?_
    refine lv_aload_n hx hb dX8_isOpen_12 rfl (lv_at hl 0 rfl) ?_
    refine m_get (C := RX8) (T := TX8) (N := 12) (ci := 8) hx hb hts in_X8_isOpen_X8 hown hB m_0 h_0 rfl 10 (by decide) (hts (.fieldLink RX8 122 "PaperRoom" "now" "I") (by decide +kernel)) (fun _ h9 => h9) rfl dX8_isOpen_13 ?_
    refine m_callUE (ci := 1) (As := [.int (nI (b % 3)), .ref (ad 3), .int nw]) (rest := []) (c_Marked_isOpen0 l D ty L ad g pp pt vn wd 3 4 5 fs fe (b % 3) f nw m_pp m_3 m_4 m_5 h_pp h_3 h_4 h_5 (by omega) hf4 hwd) ⟨hx, hb, hml, hown, hts⟩ (va_cwU 3 hts gX8_isOpen_X2_isOpenTo_u251X1 rfl rfl rfl rfl (by decide +kernel) ⟨Nat.le_of_ble_eq_true rfl, Nat.le_of_ble_eq_true rfl⟩) hB m_pp h_pp rfl rfl hl.1 rfl (Nat.le_of_ble_eq_true rfl) dX8_isOpen_16 ⟨Nat.le_of_ble_eq_true rfl, Nat.le_of_ble_eq_true rfl⟩ (fun H locs hB => ?_)
    refine b_if_eq_f 26 hx hb dX8_isOpen_19 (by decide) (by rw [hc]; decide) ?_
    refine lv_iconst (v := 1) hx hb dX8_isOpen_22 (by decide) ?_
    refine lv_goto (tgt := 27) hx hb dX8_isOpen_23 (by decide) ?_
    exact m_zret hx hb hrt hlocks hB (Nat.le_refl _) (Nat.le_refl _) dX8_isOpen_27 rfl ⟨zt hc, rfl, rfl, rfl⟩
  · skip
    refine lv_aload_n hx hb dX8_isOpen_0 rfl (lv_at hl 1 rfl) ?_
    refine lv_ifnull hx hb dX8_isOpen_1 ?_
    refine lv_aload_n hx hb dX8_isOpen_4 rfl (lv_at hl 1 rfl) ?_
    refine lv_iload_n hx hb dX8_isOpen_5 rfl (lv_at hl 2 rfl) ?_
    refine lv_iconst (v := 3) hx hb dX8_isOpen_6 (by decide) ?_
    refine lv_irem hx hb dX8_isOpen_7 (by decide) ?_
    refine b_topi (w := nI (b % 3)) (i_rem3 b (by omega)) ?_
    refine lv_aload_n hx hb dX8_isOpen_8 rfl (lv_at hl 0 rfl) ?_
    refine m_get (C := RX8) (T := TX8) (N := 12) (ci := 8) hx hb hts in_X8_isOpen_X8 hown hB m_0 h_0 rfl 1 (by decide) (hts (.fieldLink RX8 21 "PaperRoom" "granted" "LPaperRoom$Rights;") (by decide +kernel)) (fun _ h9 => h9) rfl dX8_isOpen_9 ?_
    refine lv_aload_n hx hb dX8_isOpen_12 rfl (lv_at hl 0 rfl) ?_
    refine m_get (C := RX8) (T := TX8) (N := 12) (ci := 8) hx hb hts in_X8_isOpen_X8 hown hB m_0 h_0 rfl 10 (by decide) (hts (.fieldLink RX8 122 "PaperRoom" "now" "I") (by decide +kernel)) (fun _ h9 => h9) rfl dX8_isOpen_13 ?_
    refine m_callUE (ci := 1) (As := [.int (nI (b % 3)), .ref (ad 3), .int nw]) (rest := []) (c_Marked_isOpen0 l D ty L ad g pp pt vn wd 3 4 5 fs fe (b % 3) f nw m_pp m_3 m_4 m_5 h_pp h_3 h_4 h_5 (by omega) hf4 hwd) ⟨hx, hb, hml, hown, hts⟩ (va_cwU 3 hts gX8_isOpen_X2_isOpenTo_u251X1 rfl rfl rfl rfl (by decide +kernel) ⟨Nat.le_of_ble_eq_true rfl, Nat.le_of_ble_eq_true rfl⟩) hB m_pp h_pp rfl rfl hl.1 rfl (Nat.le_of_ble_eq_true rfl) dX8_isOpen_16 ⟨Nat.le_of_ble_eq_true rfl, Nat.le_of_ble_eq_true rfl⟩ (fun H locs hB => ?_)
    refine b_if_eq_t 26 hx hb dX8_isOpen_19 (by decide) (by rw [hc]; decide) ?_
    refine lv_iconst (v := 0) hx hb dX8_isOpen_26 (by decide) ?_
    exact m_zret hx hb hrt hlocks hB (Nat.le_refl _) (Nat.le_refl _) dX8_isOpen_27 rfl ⟨zf hc, rfl, rfl, rfl⟩
set_option maxHeartbeats 1000000 in
set_option maxRecDepth 100000 in
theorem c_X_isOpen2 (l : Launch) (D : va_G) (ty : Nat → ClassId) (L : List Nat) (ad : Nat → Nat) (g : Nat → va_E) (pn qn : Nat) (nw : Int32) (tr : Int64) (fs fe : Nat → Int32) (pp pt vn : Nat) (wd : Int32) (b f : Nat) (m_0 : 0 ∈ L) (m_3 : 3 ∈ L) (m_4 : 4 ∈ L) (m_5 : 5 ∈ L) (m_pp : pp ∈ L) (h_0 : g 0 = .inr (8, [.ref (ad 1), .ref (ad 3), .ref (ad 6), .int (nI pn), .ref (ad 7), .ref (ad 20), .ref (ad 22), .ref (ad 28), .int (nI qn), .ref (ad 29), .int nw, .long tr])) (h_3 : g 3 = .inr (4, [.ref (ad 4), .ref (ad 5)])) (h_4 : g 4 = .inl (ty 0, 12, .inl fs)) (h_5 : g 5 = .inl (ty 0, 12, .inl fe)) (h_pp : g pp = .inr (2, [.int (nI f), .ref (ad pt), .int (nI vn), .int wd])) (hb6 : b < 6) (hf4 : f < 4) (hwd : wd = 0 ∨ wd = 1) : m_E l yX8_isOpen wsX8_isOpen 4 91 D ty [.ref (ad 0), .ref (ad pp), .int (nI b)] L ad g (some (.int (zb (opn wd fs fe (b % 3 * 4 + f) nw)))) g := by
  intro sz
  refine Met.ofW (cc := cX8_isOpen) (maxL := 3) (ret := (some .boolean)) (by decide) rfl ?_
  intro p e s m args below meth c s₁ B hml hv
  have hx := B.exec
  have hb := B.bytes
  have hrt := B.returns
  have hts := atoms_spec (ws := wsX8_isOpen) B.pre
  have hown : s.vm.findClass RX8 = some m.cls := findClass_of_methodNamed B.named
  have hlocks := B.notSynchronized
  obtain ⟨rfl, hB⟩ := m_start hv
  generalize va_A (m_w L ad g) sz = A at hB ⊢
  generalize s.heap = H at hB ⊢
  generalize ([] : List Loc) = locs at hB ⊢
  have hl := lv_entry ([.ref (ad 0), .ref (ad pp), .int (nI b)]) (n := 3) (Nat.le_of_ble_eq_true rfl)
  rw [lg_entry_eq]
  generalize (lg_sl ([.ref (ad 0), .ref (ad pp), .int (nI b)]) ++ List.replicate (3 - (lg_sl ([.ref (ad 0), .ref (ad pp), .int (nI b)])).length) Slot.unset).toArray = ls at hl ⊢
  have hl : lv_has ls 3 [(0, .ref (ad 0)), (1, .ref (ad pp)), (2, .int (nI b))] := hl
  rcases bool2 (opn wd fs fe (b % 3 * 4 + f) nw) with hc | hc
  · skip
    refine lv_aload_n hx hb dX8_isOpen_0 rfl (lv_at hl 1 rfl) ?_
    refine lv_ifnull hx hb dX8_isOpen_1 ?_
    refine lv_aload_n hx hb dX8_isOpen_4 rfl (lv_at hl 1 rfl) ?_
    refine lv_iload_n hx hb dX8_isOpen_5 rfl (lv_at hl 2 rfl) ?_
    refine lv_iconst (v := 3) hx hb dX8_isOpen_6 (by decide) ?_
    refine lv_irem hx hb dX8_isOpen_7 (by decide) ?_
    refine b_topi (w := nI (b % 3)) (i_rem3 b (by omega)) ?_
    refine lv_aload_n hx hb dX8_isOpen_8 rfl (lv_at hl 0 rfl) ?_
    refine m_get (C := RX8) (T := TX8) (N := 12) (ci := 8) hx hb hts in_X8_isOpen_X8 hown hB m_0 h_0 rfl 1 (by decide) (hts (.fieldLink RX8 21 "PaperRoom" "granted" "LPaperRoom$Rights;") (by decide +kernel)) (fun _ h9 => h9) rfl dX8_isOpen_9 ?_
    refine lv_aload_n hx hb dX8_isOpen_12 rfl (lv_at hl 0 rfl) ?_
    refine m_get (C := RX8) (T := TX8) (N := 12) (ci := 8) hx hb hts in_X8_isOpen_X8 hown hB m_0 h_0 rfl 10 (by decide) (hts (.fieldLink RX8 122 "PaperRoom" "now" "I") (by decide +kernel)) (fun _ h9 => h9) rfl dX8_isOpen_13 ?_
    refine m_callVE (ci := 2) (As := [.int (nI (b % 3)), .ref (ad 3), .int nw]) (rest := []) (c_Paper_isOpen0 l D ty L ad g pp pt vn wd 3 4 5 fs fe (b % 3) f nw m_pp m_3 m_4 m_5 h_pp h_3 h_4 h_5 (by omega) hf4 hwd) ⟨hx, hb, hml, hown, hts⟩ (cwV 3 hts gX8_isOpen_X2_isOpenTo rfl rfl rfl (by decide +kernel) ⟨Nat.le_of_ble_eq_true rfl, Nat.le_of_ble_eq_true rfl⟩) hB m_pp h_pp rfl rfl hl.1 rfl (Nat.le_of_ble_eq_true rfl) dX8_isOpen_16 ⟨Nat.le_of_ble_eq_true rfl, Nat.le_of_ble_eq_true rfl⟩ (fun H locs hB => ?_)
    refine b_if_eq_f 26 hx hb dX8_isOpen_19 (by decide) (by rw [hc]; decide) ?_
    refine lv_iconst (v := 1) hx hb dX8_isOpen_22 (by decide) ?_
    refine lv_goto (tgt := 27) hx hb dX8_isOpen_23 (by decide) ?_
    exact m_zret hx hb hrt hlocks hB (Nat.le_refl _) (Nat.le_refl _) dX8_isOpen_27 rfl ⟨zt hc, rfl, rfl, rfl⟩
  · skip
    refine lv_aload_n hx hb dX8_isOpen_0 rfl (lv_at hl 1 rfl) ?_
    refine lv_ifnull hx hb dX8_isOpen_1 ?_
    refine lv_aload_n hx hb dX8_isOpen_4 rfl (lv_at hl 1 rfl) ?_
    refine lv_iload_n hx hb dX8_isOpen_5 rfl (lv_at hl 2 rfl) ?_
    refine lv_iconst (v := 3) hx hb dX8_isOpen_6 (by decide) ?_
    refine lv_irem hx hb dX8_isOpen_7 (by decide) ?_
    refine b_topi (w := nI (b % 3)) (i_rem3 b (by omega)) ?_
    refine lv_aload_n hx hb dX8_isOpen_8 rfl (lv_at hl 0 rfl) ?_
    refine m_get (C := RX8) (T := TX8) (N := 12) (ci := 8) hx hb hts in_X8_isOpen_X8 hown hB m_0 h_0 rfl 1 (by decide) (hts (.fieldLink RX8 21 "PaperRoom" "granted" "LPaperRoom$Rights;") (by decide +kernel)) (fun _ h9 => h9) rfl dX8_isOpen_9 ?_
    refine lv_aload_n hx hb dX8_isOpen_12 rfl (lv_at hl 0 rfl) ?_
    refine m_get (C := RX8) (T := TX8) (N := 12) (ci := 8) hx hb hts in_X8_isOpen_X8 hown hB m_0 h_0 rfl 10 (by decide) (hts (.fieldLink RX8 122 "PaperRoom" "now" "I") (by decide +kernel)) (fun _ h9 => h9) rfl dX8_isOpen_13 ?_
    refine m_callVE (ci := 2) (As := [.int (nI (b % 3)), .ref (ad 3), .int nw]) (rest := []) (c_Paper_isOpen0 l D ty L ad g pp pt vn wd 3 4 5 fs fe (b % 3) f nw m_pp m_3 m_4 m_5 h_pp h_3 h_4 h_5 (by omega) hf4 hwd) ⟨hx, hb, hml, hown, hts⟩ (cwV 3 hts gX8_isOpen_X2_isOpenTo rfl rfl rfl (by decide +kernel) ⟨Nat.le_of_ble_eq_true rfl, Nat.le_of_ble_eq_true rfl⟩) hB m_pp h_pp rfl rfl hl.1 rfl (Nat.le_of_ble_eq_true rfl) dX8_isOpen_16 ⟨Nat.le_of_ble_eq_true rfl, Nat.le_of_ble_eq_true rfl⟩ (fun H locs hB => ?_)
    refine b_if_eq_t 26 hx hb dX8_isOpen_19 (by decide) (by rw [hc]; decide) ?_
    refine lv_iconst (v := 0) hx hb dX8_isOpen_26 (by decide) ?_
    exact m_zret hx hb hrt hlocks hB (Nat.le_refl _) (Nat.le_refl _) dX8_isOpen_27 rfl ⟨zf hc, rfl, rfl, rfl⟩
set_option maxHeartbeats 1000000 in
set_option maxRecDepth 100000 in
theorem c_X_byteOf (l : Launch) (D : va_G) (ty : Nat → ClassId) (L : List Nat) (ad : Nat → Nat) (g : Nat → va_E) (v : Int64) (k : Nat)  : m_E l yX8_byteOf wsX8_byteOf 0 0 D ty [.long v, .int (nI k)] L ad g (some (.int (byU v k))) g := by
  intro sz
  refine Met.ofW (cc := cX8_byteOf) (maxL := 3) (ret := (some .int)) (by decide) rfl ?_
  intro p e s m args below meth c s₁ B hml hv
  have hx := B.exec
  have hb := B.bytes
  have hrt := B.returns
  have hts := atoms_spec (ws := wsX8_byteOf) B.pre
  have hown : s.vm.findClass RX8 = some m.cls := findClass_of_methodNamed B.named
  have hlocks := B.notSynchronized
  obtain ⟨rfl, hB⟩ := m_start hv
  generalize va_A (m_w L ad g) sz = A at hB ⊢
  generalize s.heap = H at hB ⊢
  generalize ([] : List Loc) = locs at hB ⊢
  have hl := lv_entry ([.long v, .int (nI k)]) (n := 3) (Nat.le_of_ble_eq_true rfl)
  rw [lg_entry_eq]
  generalize (lg_sl ([.long v, .int (nI k)]) ++ List.replicate (3 - (lg_sl ([.long v, .int (nI k)])).length) Slot.unset).toArray = ls at hl ⊢
  have hl : lv_has ls 3 [(0, .long v), (2, .int (nI k))] := hl
  refine lv_lload_n hx hb dX8_byteOf_0 rfl (lv_at hl 0 rfl) ?_
  refine lv_bipush (v := 8) hx hb dX8_byteOf_1 (by decide) ?_
  refine lv_iload_n hx hb dX8_byteOf_3 rfl (lv_at hl 1 rfl) ?_
  refine lv_imul hx hb dX8_byteOf_4 ?_
  refine b_topi (w := nI (8 * k)) (pk_mul 8 k) ?_
  refine lv_lushr hx hb dX8_byteOf_5 rfl ?_
  refine lv_l2i hx hb dX8_byteOf_6 rfl ?_
  refine lv_sipush (v := 255) hx hb dX8_byteOf_7 (by decide) ?_
  refine lv_iand hx hb dX8_byteOf_10 ?_
  refine b_topi (w := byU v k) (rfl) ?_
  exact m_iret hx hb hrt hlocks hB (Nat.le_refl _) (Nat.le_refl _) dX8_byteOf_11 ⟨rfl, rfl, rfl, rfl⟩
set_option maxRecDepth 20000 in
theorem in_X8_clear_X8 : ∀ w ∈ wsX80, w ∈ wsX8_clear := by decide +kernel
set_option maxHeartbeats 1000000 in
set_option maxRecDepth 100000 in
theorem c_X_clear (l : Launch) (D : va_G) (ty : Nat → ClassId) (L : List Nat) (ad : Nat → Nat) (g : Nat → va_E) (pn qn : Nat) (nw : Int32) (tr : Int64) (dn : Nat) (m_0 : 0 ∈ L) (m_1 : 1 ∈ L) (h_0 : g 0 = .inr (8, [.ref (ad 1), .ref (ad 3), .ref (ad 6), .int (nI pn), .ref (ad 7), .ref (ad 20), .ref (ad 22), .ref (ad 28), .int (nI qn), .ref (ad 29), .int nw, .long tr])) (h_1 : g 1 = .inr (5, [.ref (ad 2), .int (nI dn)]))  : m_E l yX8_clear wsX8_clear 1 20 D ty [.ref (ad 0)] L ad g (some (.int (nI dn))) (va_up g 1 (.inr (5, [.ref (ad 2), .int 0]))) := by
  intro sz
  refine Met.ofW (cc := cX8_clear) (maxL := 2) (ret := (some .int)) (by decide) rfl ?_
  intro p e s m args below meth c s₁ B hml hv
  have hx := B.exec
  have hb := B.bytes
  have hrt := B.returns
  have hts := atoms_spec (ws := wsX8_clear) B.pre
  have hown : s.vm.findClass RX8 = some m.cls := findClass_of_methodNamed B.named
  have hlocks := B.notSynchronized
  obtain ⟨rfl, hB⟩ := m_start hv
  generalize va_A (m_w L ad g) sz = A at hB ⊢
  generalize s.heap = H at hB ⊢
  generalize ([] : List Loc) = locs at hB ⊢
  have hl := lv_entry ([.ref (ad 0)]) (n := 2) (Nat.le_of_ble_eq_true rfl)
  rw [lg_entry_eq]
  generalize (lg_sl ([.ref (ad 0)]) ++ List.replicate (2 - (lg_sl ([.ref (ad 0)])).length) Slot.unset).toArray = ls at hl ⊢
  have hl : lv_has ls 2 [(0, .ref (ad 0))] := hl
  refine lv_aload_n hx hb dX8_clear_0 rfl (lv_at hl 0 rfl) ?_
  refine m_get (C := RX8) (T := TX8) (N := 12) (ci := 8) hx hb hts in_X8_clear_X8 hown hB m_0 h_0 rfl 0 (by decide) (hts (.fieldLink RX8 14 "PaperRoom" "draft" "LPaperRoom$Row;") (by decide +kernel)) (fun _ h9 => h9) rfl dX8_clear_1 ?_
  refine m_callVE (ci := 5) (As := []) (rest := []) (c_Row_length l D ty L ad _ 1 2 dn m_1 h_1) ⟨hx, hb, hml, hown, hts⟩ (cwV 0 hts gX8_clear_X5_length rfl rfl rfl (by decide +kernel) ⟨Nat.le_of_ble_eq_true rfl, Nat.le_of_ble_eq_true rfl⟩) hB m_1 h_1 rfl rfl hl.1 rfl (Nat.le_of_ble_eq_true rfl) dX8_clear_4 ⟨Nat.le_of_ble_eq_true rfl, Nat.le_of_ble_eq_true rfl⟩ (fun H locs hB => ?_)
  refine lv_istore_n (lv' := [(1, .int (nI dn)), (0, .ref (ad 0))]) hx hb dX8_clear_7 rfl hl (by decide) rfl (fun ls hl => ?_)
  refine lv_aload_n hx hb dX8_clear_8 rfl (lv_at hl 1 rfl) ?_
  refine m_get (C := RX8) (T := TX8) (N := 12) (ci := 8) hx hb hts in_X8_clear_X8 hown hB m_0 h_0 rfl 0 (by decide) (hts (.fieldLink RX8 14 "PaperRoom" "draft" "LPaperRoom$Row;") (by decide +kernel)) (fun _ h9 => h9) rfl dX8_clear_9 ?_
  refine m_callVZ (ci := 5) (As := []) (rest := []) (c_Row_empty l D ty L ad g 1 2 dn m_1 h_1) ⟨hx, hb, hml, hown, hts⟩ (cwV 0 hts gX8_clear_X5_empty rfl rfl rfl (by decide +kernel) ⟨Nat.le_of_ble_eq_true rfl, Nat.le_of_ble_eq_true rfl⟩) hB m_1 h_1 rfl rfl hl.1 rfl (Nat.le_of_ble_eq_true rfl) dX8_clear_12 ⟨Nat.le_of_ble_eq_true rfl, Nat.le_of_ble_eq_true rfl⟩ (fun H locs hB => ?_)
  replace hB : m_B D ty A s L ad (va_up g 1 (.inr (5, [.ref (ad 2), .int 0]))) H locs := hB
  refine lv_iload_n hx hb dX8_clear_15 rfl (lv_at hl 0 rfl) ?_
  exact m_iret hx hb hrt hlocks hB (Nat.le_refl _) (Nat.le_refl _) dX8_clear_16 ⟨rfl, rfl, rfl, rfl⟩
set_option maxRecDepth 20000 in
theorem in_X8_trace_X8 : ∀ w ∈ wsX80, w ∈ wsX8_trace := by decide +kernel
set_option maxHeartbeats 1000000 in
set_option maxRecDepth 100000 in
theorem c_X_trace (l : Launch) (D : va_G) (ty : Nat → ClassId) (L : List Nat) (ad : Nat → Nat) (g : Nat → va_E) (pn qn : Nat) (nw : Int32) (tr : Int64) (m_0 : 0 ∈ L) (h_0 : g 0 = .inr (8, [.ref (ad 1), .ref (ad 3), .ref (ad 6), .int (nI pn), .ref (ad 7), .ref (ad 20), .ref (ad 22), .ref (ad 28), .int (nI qn), .ref (ad 29), .int nw, .long tr]))  : m_E l yX8_trace wsX8_trace 0 0 D ty [.ref (ad 0)] L ad g (some (.long tr)) g := by
  intro sz
  refine Met.ofW (cc := cX8_trace) (maxL := 1) (ret := (some .long)) (by decide) rfl ?_
  intro p e s m args below meth c s₁ B hml hv
  have hx := B.exec
  have hb := B.bytes
  have hrt := B.returns
  have hts := atoms_spec (ws := wsX8_trace) B.pre
  have hown : s.vm.findClass RX8 = some m.cls := findClass_of_methodNamed B.named
  have hlocks := B.notSynchronized
  obtain ⟨rfl, hB⟩ := m_start hv
  generalize va_A (m_w L ad g) sz = A at hB ⊢
  generalize s.heap = H at hB ⊢
  generalize ([] : List Loc) = locs at hB ⊢
  have hl := lv_entry ([.ref (ad 0)]) (n := 1) (Nat.le_of_ble_eq_true rfl)
  rw [lg_entry_eq]
  generalize (lg_sl ([.ref (ad 0)]) ++ List.replicate (1 - (lg_sl ([.ref (ad 0)])).length) Slot.unset).toArray = ls at hl ⊢
  have hl : lv_has ls 1 [(0, .ref (ad 0))] := hl
  refine lv_aload_n hx hb dX8_trace_0 rfl (lv_at hl 0 rfl) ?_
  refine m_get (C := RX8) (T := TX8) (N := 12) (ci := 8) hx hb hts in_X8_trace_X8 hown hB m_0 h_0 rfl 11 (by decide) (hts (.fieldLink RX8 143 "PaperRoom" "traced" "J") (by decide +kernel)) (fun _ h9 => h9) rfl dX8_trace_1 ?_
  exact m_lret hx hb hrt hlocks hB (Nat.le_refl _) (Nat.le_refl _) dX8_trace_4 ⟨rfl, rfl, rfl, rfl⟩
set_option maxRecDepth 20000 in
theorem in_X8_count_X8 : ∀ w ∈ wsX80, w ∈ wsX8_count := by decide +kernel
set_option maxHeartbeats 1000000 in
set_option maxRecDepth 100000 in
theorem c_X_count_0 (l : Launch) (D : va_G) (ty : Nat → ClassId) (L : List Nat) (ad : Nat → Nat) (g : Nat → va_E) (pn qn : Nat) (nw : Int32) (tr : Int64) (m_0 : 0 ∈ L) (h_0 : g 0 = .inr (8, [.ref (ad 1), .ref (ad 3), .ref (ad 6), .int (nI pn), .ref (ad 7), .ref (ad 20), .ref (ad 22), .ref (ad 28), .int (nI qn), .ref (ad 29), .int nw, .long tr]))  : m_E l yX8_count wsX8_count 1 20 D ty [.ref (ad 0), .int 0] L ad g (some (.int (nI pn))) g := by
  intro sz
  refine Met.ofW (cc := cX8_count) (maxL := 2) (ret := (some .int)) (by decide) rfl ?_
  intro p e s m args below meth c s₁ B hml hv
  have hx := B.exec
  have hb := B.bytes
  have hrt := B.returns
  have hts := atoms_spec (ws := wsX8_count) B.pre
  have hown : s.vm.findClass RX8 = some m.cls := findClass_of_methodNamed B.named
  have hlocks := B.notSynchronized
  obtain ⟨rfl, hB⟩ := m_start hv
  generalize va_A (m_w L ad g) sz = A at hB ⊢
  generalize s.heap = H at hB ⊢
  generalize ([] : List Loc) = locs at hB ⊢
  have hl := lv_entry ([.ref (ad 0), .int 0]) (n := 2) (Nat.le_of_ble_eq_true rfl)
  rw [lg_entry_eq]
  generalize (lg_sl ([.ref (ad 0), .int 0]) ++ List.replicate (2 - (lg_sl ([.ref (ad 0), .int 0])).length) Slot.unset).toArray = ls at hl ⊢
  have hl : lv_has ls 2 [(0, .ref (ad 0)), (1, .int 0)] := hl
  refine lv_iload_n hx hb dX8_count_0 rfl (lv_at hl 1 rfl) ?_
  refine lv_tableIn (off := 39) (tgt := 40) hx hb dX8_count_1 (by decide) (by decide) (by decide) (by decide) ?_
  refine lv_aload_n hx hb dX8_count_40 rfl (lv_at hl 0 rfl) ?_
  refine m_get (C := RX8) (T := TX8) (N := 12) (ci := 8) hx hb hts in_X8_count_X8 hown hB m_0 h_0 rfl 3 (by decide) (hts (.fieldLink RX8 76 "PaperRoom" "paperCount" "I") (by decide +kernel)) (fun _ h9 => h9) rfl dX8_count_41 ?_
  exact m_iret hx hb hrt hlocks hB (Nat.le_refl _) (Nat.le_refl _) dX8_count_44 ⟨rfl, rfl, rfl, rfl⟩
set_option maxHeartbeats 1000000 in
set_option maxRecDepth 100000 in
theorem c_X_count_1 (l : Launch) (D : va_G) (ty : Nat → ClassId) (L : List Nat) (ad : Nat → Nat) (g : Nat → va_E) (pn qn : Nat) (nw : Int32) (tr : Int64) (m_0 : 0 ∈ L) (h_0 : g 0 = .inr (8, [.ref (ad 1), .ref (ad 3), .ref (ad 6), .int (nI pn), .ref (ad 7), .ref (ad 20), .ref (ad 22), .ref (ad 28), .int (nI qn), .ref (ad 29), .int nw, .long tr]))  : m_E l yX8_count wsX8_count 1 20 D ty [.ref (ad 0), .int 1] L ad g (some (.int nw)) g := by
  intro sz
  refine Met.ofW (cc := cX8_count) (maxL := 2) (ret := (some .int)) (by decide) rfl ?_
  intro p e s m args below meth c s₁ B hml hv
  have hx := B.exec
  have hb := B.bytes
  have hrt := B.returns
  have hts := atoms_spec (ws := wsX8_count) B.pre
  have hown : s.vm.findClass RX8 = some m.cls := findClass_of_methodNamed B.named
  have hlocks := B.notSynchronized
  obtain ⟨rfl, hB⟩ := m_start hv
  generalize va_A (m_w L ad g) sz = A at hB ⊢
  generalize s.heap = H at hB ⊢
  generalize ([] : List Loc) = locs at hB ⊢
  have hl := lv_entry ([.ref (ad 0), .int 1]) (n := 2) (Nat.le_of_ble_eq_true rfl)
  rw [lg_entry_eq]
  generalize (lg_sl ([.ref (ad 0), .int 1]) ++ List.replicate (2 - (lg_sl ([.ref (ad 0), .int 1])).length) Slot.unset).toArray = ls at hl ⊢
  have hl : lv_has ls 2 [(0, .ref (ad 0)), (1, .int 1)] := hl
  refine lv_iload_n hx hb dX8_count_0 rfl (lv_at hl 1 rfl) ?_
  refine lv_tableIn (off := 44) (tgt := 45) hx hb dX8_count_1 (by decide) (by decide) (by decide) (by decide) ?_
  refine lv_aload_n hx hb dX8_count_45 rfl (lv_at hl 0 rfl) ?_
  refine m_get (C := RX8) (T := TX8) (N := 12) (ci := 8) hx hb hts in_X8_count_X8 hown hB m_0 h_0 rfl 10 (by decide) (hts (.fieldLink RX8 122 "PaperRoom" "now" "I") (by decide +kernel)) (fun _ h9 => h9) rfl dX8_count_46 ?_
  exact m_iret hx hb hrt hlocks hB (Nat.le_refl _) (Nat.le_refl _) dX8_count_49 ⟨rfl, rfl, rfl, rfl⟩
set_option maxHeartbeats 1000000 in
set_option maxRecDepth 100000 in
theorem c_X_count_2 (l : Launch) (D : va_G) (ty : Nat → ClassId) (L : List Nat) (ad : Nat → Nat) (g : Nat → va_E) (pn qn : Nat) (nw : Int32) (tr : Int64) (dn : Nat) (m_0 : 0 ∈ L) (m_1 : 1 ∈ L) (h_0 : g 0 = .inr (8, [.ref (ad 1), .ref (ad 3), .ref (ad 6), .int (nI pn), .ref (ad 7), .ref (ad 20), .ref (ad 22), .ref (ad 28), .int (nI qn), .ref (ad 29), .int nw, .long tr])) (h_1 : g 1 = .inr (5, [.ref (ad 2), .int (nI dn)]))  : m_E l yX8_count wsX8_count 1 20 D ty [.ref (ad 0), .int 2] L ad g (some (.int (nI dn))) g := by
  intro sz
  refine Met.ofW (cc := cX8_count) (maxL := 2) (ret := (some .int)) (by decide) rfl ?_
  intro p e s m args below meth c s₁ B hml hv
  have hx := B.exec
  have hb := B.bytes
  have hrt := B.returns
  have hts := atoms_spec (ws := wsX8_count) B.pre
  have hown : s.vm.findClass RX8 = some m.cls := findClass_of_methodNamed B.named
  have hlocks := B.notSynchronized
  obtain ⟨rfl, hB⟩ := m_start hv
  generalize va_A (m_w L ad g) sz = A at hB ⊢
  generalize s.heap = H at hB ⊢
  generalize ([] : List Loc) = locs at hB ⊢
  have hl := lv_entry ([.ref (ad 0), .int 2]) (n := 2) (Nat.le_of_ble_eq_true rfl)
  rw [lg_entry_eq]
  generalize (lg_sl ([.ref (ad 0), .int 2]) ++ List.replicate (2 - (lg_sl ([.ref (ad 0), .int 2])).length) Slot.unset).toArray = ls at hl ⊢
  have hl : lv_has ls 2 [(0, .ref (ad 0)), (1, .int 2)] := hl
  refine lv_iload_n hx hb dX8_count_0 rfl (lv_at hl 1 rfl) ?_
  refine lv_tableIn (off := 49) (tgt := 50) hx hb dX8_count_1 (by decide) (by decide) (by decide) (by decide) ?_
  refine lv_aload_n hx hb dX8_count_50 rfl (lv_at hl 0 rfl) ?_
  refine m_get (C := RX8) (T := TX8) (N := 12) (ci := 8) hx hb hts in_X8_count_X8 hown hB m_0 h_0 rfl 0 (by decide) (hts (.fieldLink RX8 14 "PaperRoom" "draft" "LPaperRoom$Row;") (by decide +kernel)) (fun _ h9 => h9) rfl dX8_count_51 ?_
  refine m_callVE (ci := 5) (As := []) (rest := []) (c_Row_length l D ty L ad _ 1 2 dn m_1 h_1) ⟨hx, hb, hml, hown, hts⟩ (cwV 0 hts gX8_count_X5_length rfl rfl rfl (by decide +kernel) ⟨Nat.le_of_ble_eq_true rfl, Nat.le_of_ble_eq_true rfl⟩) hB m_1 h_1 rfl rfl hl.1 rfl (Nat.le_of_ble_eq_true rfl) dX8_count_54 ⟨Nat.le_of_ble_eq_true rfl, Nat.le_of_ble_eq_true rfl⟩ (fun H locs hB => ?_)
  exact m_iret hx hb hrt hlocks hB (Nat.le_refl _) (Nat.le_refl _) dX8_count_57 ⟨rfl, rfl, rfl, rfl⟩
set_option maxHeartbeats 1000000 in
set_option maxRecDepth 100000 in
theorem c_X_count_3 (l : Launch) (D : va_G) (ty : Nat → ClassId) (L : List Nat) (ad : Nat → Nat) (g : Nat → va_E) (pn qn : Nat) (nw : Int32) (tr : Int64) (en : Nat) (lo : Int32) (m_0 : 0 ∈ L) (m_22 : 22 ∈ L) (h_0 : g 0 = .inr (8, [.ref (ad 1), .ref (ad 3), .ref (ad 6), .int (nI pn), .ref (ad 7), .ref (ad 20), .ref (ad 22), .ref (ad 28), .int (nI qn), .ref (ad 29), .int nw, .long tr])) (h_22 : g 22 = .inr (6, [.ref (ad 23), .ref (ad 24), .ref (ad 25), .ref (ad 26), .ref (ad 27), .int (nI en), .int lo]))  : m_E l yX8_count wsX8_count 1 20 D ty [.ref (ad 0), .int 3] L ad g (some (.int (nI en))) g := by
  intro sz
  refine Met.ofW (cc := cX8_count) (maxL := 2) (ret := (some .int)) (by decide) rfl ?_
  intro p e s m args below meth c s₁ B hml hv
  have hx := B.exec
  have hb := B.bytes
  have hrt := B.returns
  have hts := atoms_spec (ws := wsX8_count) B.pre
  have hown : s.vm.findClass RX8 = some m.cls := findClass_of_methodNamed B.named
  have hlocks := B.notSynchronized
  obtain ⟨rfl, hB⟩ := m_start hv
  generalize va_A (m_w L ad g) sz = A at hB ⊢
  generalize s.heap = H at hB ⊢
  generalize ([] : List Loc) = locs at hB ⊢
  have hl := lv_entry ([.ref (ad 0), .int 3]) (n := 2) (Nat.le_of_ble_eq_true rfl)
  rw [lg_entry_eq]
  generalize (lg_sl ([.ref (ad 0), .int 3]) ++ List.replicate (2 - (lg_sl ([.ref (ad 0), .int 3])).length) Slot.unset).toArray = ls at hl ⊢
  have hl : lv_has ls 2 [(0, .ref (ad 0)), (1, .int 3)] := hl
  refine lv_iload_n hx hb dX8_count_0 rfl (lv_at hl 1 rfl) ?_
  refine lv_tableIn (off := 57) (tgt := 58) hx hb dX8_count_1 (by decide) (by decide) (by decide) (by decide) ?_
  refine lv_aload_n hx hb dX8_count_58 rfl (lv_at hl 0 rfl) ?_
  refine m_get (C := RX8) (T := TX8) (N := 12) (ci := 8) hx hb hts in_X8_count_X8 hown hB m_0 h_0 rfl 6 (by decide) (hts (.fieldLink RX8 41 "PaperRoom" "seen" "LPaperRoom$Seen;") (by decide +kernel)) (fun _ h9 => h9) rfl dX8_count_59 ?_
  refine m_callVE (ci := 6) (As := []) (rest := []) (c_Seen_entries l D ty L ad g 22 23 24 25 26 27 en lo m_22 h_22) ⟨hx, hb, hml, hown, hts⟩ (cwV 0 hts gX8_count_X6_entries rfl rfl rfl (by decide +kernel) ⟨Nat.le_of_ble_eq_true rfl, Nat.le_of_ble_eq_true rfl⟩) hB m_22 h_22 rfl rfl hl.1 rfl (Nat.le_of_ble_eq_true rfl) dX8_count_62 ⟨Nat.le_of_ble_eq_true rfl, Nat.le_of_ble_eq_true rfl⟩ (fun H locs hB => ?_)
  exact m_iret hx hb hrt hlocks hB (Nat.le_refl _) (Nat.le_refl _) dX8_count_65 ⟨rfl, rfl, rfl, rfl⟩
set_option maxHeartbeats 1000000 in
set_option maxRecDepth 100000 in
theorem c_X_count_4 (l : Launch) (D : va_G) (ty : Nat → ClassId) (L : List Nat) (ad : Nat → Nat) (g : Nat → va_E) (pn qn : Nat) (nw : Int32) (tr : Int64) (en : Nat) (lo : Int32) (m_0 : 0 ∈ L) (m_22 : 22 ∈ L) (h_0 : g 0 = .inr (8, [.ref (ad 1), .ref (ad 3), .ref (ad 6), .int (nI pn), .ref (ad 7), .ref (ad 20), .ref (ad 22), .ref (ad 28), .int (nI qn), .ref (ad 29), .int nw, .long tr])) (h_22 : g 22 = .inr (6, [.ref (ad 23), .ref (ad 24), .ref (ad 25), .ref (ad 26), .ref (ad 27), .int (nI en), .int lo]))  : m_E l yX8_count wsX8_count 1 20 D ty [.ref (ad 0), .int 4] L ad g (some (.int lo)) g := by
  intro sz
  refine Met.ofW (cc := cX8_count) (maxL := 2) (ret := (some .int)) (by decide) rfl ?_
  intro p e s m args below meth c s₁ B hml hv
  have hx := B.exec
  have hb := B.bytes
  have hrt := B.returns
  have hts := atoms_spec (ws := wsX8_count) B.pre
  have hown : s.vm.findClass RX8 = some m.cls := findClass_of_methodNamed B.named
  have hlocks := B.notSynchronized
  obtain ⟨rfl, hB⟩ := m_start hv
  generalize va_A (m_w L ad g) sz = A at hB ⊢
  generalize s.heap = H at hB ⊢
  generalize ([] : List Loc) = locs at hB ⊢
  have hl := lv_entry ([.ref (ad 0), .int 4]) (n := 2) (Nat.le_of_ble_eq_true rfl)
  rw [lg_entry_eq]
  generalize (lg_sl ([.ref (ad 0), .int 4]) ++ List.replicate (2 - (lg_sl ([.ref (ad 0), .int 4])).length) Slot.unset).toArray = ls at hl ⊢
  have hl : lv_has ls 2 [(0, .ref (ad 0)), (1, .int 4)] := hl
  refine lv_iload_n hx hb dX8_count_0 rfl (lv_at hl 1 rfl) ?_
  refine lv_tableIn (off := 65) (tgt := 66) hx hb dX8_count_1 (by decide) (by decide) (by decide) (by decide) ?_
  refine lv_aload_n hx hb dX8_count_66 rfl (lv_at hl 0 rfl) ?_
  refine m_get (C := RX8) (T := TX8) (N := 12) (ci := 8) hx hb hts in_X8_count_X8 hown hB m_0 h_0 rfl 6 (by decide) (hts (.fieldLink RX8 41 "PaperRoom" "seen" "LPaperRoom$Seen;") (by decide +kernel)) (fun _ h9 => h9) rfl dX8_count_67 ?_
  refine m_callVE (ci := 6) (As := []) (rest := []) (c_Seen_lost l D ty L ad g 22 23 24 25 26 27 en lo m_22 h_22) ⟨hx, hb, hml, hown, hts⟩ (cwV 0 hts gX8_count_X6_lost rfl rfl rfl (by decide +kernel) ⟨Nat.le_of_ble_eq_true rfl, Nat.le_of_ble_eq_true rfl⟩) hB m_22 h_22 rfl rfl hl.1 rfl (Nat.le_of_ble_eq_true rfl) dX8_count_70 ⟨Nat.le_of_ble_eq_true rfl, Nat.le_of_ble_eq_true rfl⟩ (fun H locs hB => ?_)
  exact m_iret hx hb hrt hlocks hB (Nat.le_refl _) (Nat.le_refl _) dX8_count_73 ⟨rfl, rfl, rfl, rfl⟩
set_option maxHeartbeats 1000000 in
set_option maxRecDepth 100000 in
theorem c_X_count_5 (l : Launch) (D : va_G) (ty : Nat → ClassId) (L : List Nat) (ad : Nat → Nat) (g : Nat → va_E) (pn qn : Nat) (nw : Int32) (tr : Int64) (m_0 : 0 ∈ L) (h_0 : g 0 = .inr (8, [.ref (ad 1), .ref (ad 3), .ref (ad 6), .int (nI pn), .ref (ad 7), .ref (ad 20), .ref (ad 22), .ref (ad 28), .int (nI qn), .ref (ad 29), .int nw, .long tr]))  : m_E l yX8_count wsX8_count 1 20 D ty [.ref (ad 0), .int 5] L ad g (some (.int (nI qn))) g := by
  intro sz
  refine Met.ofW (cc := cX8_count) (maxL := 2) (ret := (some .int)) (by decide) rfl ?_
  intro p e s m args below meth c s₁ B hml hv
  have hx := B.exec
  have hb := B.bytes
  have hrt := B.returns
  have hts := atoms_spec (ws := wsX8_count) B.pre
  have hown : s.vm.findClass RX8 = some m.cls := findClass_of_methodNamed B.named
  have hlocks := B.notSynchronized
  obtain ⟨rfl, hB⟩ := m_start hv
  generalize va_A (m_w L ad g) sz = A at hB ⊢
  generalize s.heap = H at hB ⊢
  generalize ([] : List Loc) = locs at hB ⊢
  have hl := lv_entry ([.ref (ad 0), .int 5]) (n := 2) (Nat.le_of_ble_eq_true rfl)
  rw [lg_entry_eq]
  generalize (lg_sl ([.ref (ad 0), .int 5]) ++ List.replicate (2 - (lg_sl ([.ref (ad 0), .int 5])).length) Slot.unset).toArray = ls at hl ⊢
  have hl : lv_has ls 2 [(0, .ref (ad 0)), (1, .int 5)] := hl
  refine lv_iload_n hx hb dX8_count_0 rfl (lv_at hl 1 rfl) ?_
  refine lv_tableIn (off := 73) (tgt := 74) hx hb dX8_count_1 (by decide) (by decide) (by decide) (by decide) ?_
  refine lv_aload_n hx hb dX8_count_74 rfl (lv_at hl 0 rfl) ?_
  refine m_get (C := RX8) (T := TX8) (N := 12) (ci := 8) hx hb hts in_X8_count_X8 hown hB m_0 h_0 rfl 8 (by decide) (hts (.fieldLink RX8 233 "PaperRoom" "questionCount" "I") (by decide +kernel)) (fun _ h9 => h9) rfl dX8_count_75 ?_
  exact m_iret hx hb hrt hlocks hB (Nat.le_refl _) (Nat.le_refl _) dX8_count_78 ⟨rfl, rfl, rfl, rfl⟩
set_option maxHeartbeats 1000000 in
set_option maxRecDepth 100000 in
theorem c_X_count_x (l : Launch) (D : va_G) (ty : Nat → ClassId) (L : List Nat) (ad : Nat → Nat) (g : Nat → va_E) (pn qn : Nat) (nw : Int32) (tr : Int64) (w : Int32) (m_0 : 0 ∈ L) (h_0 : g 0 = .inr (8, [.ref (ad 1), .ref (ad 3), .ref (ad 6), .int (nI pn), .ref (ad 7), .ref (ad 20), .ref (ad 22), .ref (ad 28), .int (nI qn), .ref (ad 29), .int nw, .long tr])) (hw : w.toInt < 0 ∨ 5 < w.toInt) : m_E l yX8_count wsX8_count 1 20 D ty [.ref (ad 0), .int w] L ad g (some (.int (-1))) g := by
  intro sz
  refine Met.ofW (cc := cX8_count) (maxL := 2) (ret := (some .int)) (by decide) rfl ?_
  intro p e s m args below meth c s₁ B hml hv
  have hx := B.exec
  have hb := B.bytes
  have hrt := B.returns
  have hts := atoms_spec (ws := wsX8_count) B.pre
  have hown : s.vm.findClass RX8 = some m.cls := findClass_of_methodNamed B.named
  have hlocks := B.notSynchronized
  obtain ⟨rfl, hB⟩ := m_start hv
  generalize va_A (m_w L ad g) sz = A at hB ⊢
  generalize s.heap = H at hB ⊢
  generalize ([] : List Loc) = locs at hB ⊢
  have hl := lv_entry ([.ref (ad 0), .int w]) (n := 2) (Nat.le_of_ble_eq_true rfl)
  rw [lg_entry_eq]
  generalize (lg_sl ([.ref (ad 0), .int w]) ++ List.replicate (2 - (lg_sl ([.ref (ad 0), .int w])).length) Slot.unset).toArray = ls at hl ⊢
  have hl : lv_has ls 2 [(0, .ref (ad 0)), (1, .int w)] := hl
  refine lv_iload_n hx hb dX8_count_0 rfl (lv_at hl 1 rfl) ?_
  refine lv_tableOut (tgt := 79) hx hb dX8_count_1 (by omega) (by decide) ?_
  refine lv_iconst (v := (-1)) hx hb dX8_count_79 (by decide) ?_
  exact m_iret hx hb hrt hlocks hB (Nat.le_refl _) (Nat.le_refl _) dX8_count_80 ⟨rfl, rfl, rfl, rfl⟩
set_option maxHeartbeats 1000000 in
set_option maxRecDepth 100000 in
theorem c_X_tick_bad (l : Launch) (D : va_G) (ty : Nat → ClassId) (L : List Nat) (ad : Nat → Nat) (g : Nat → va_E) (pn qn : Nat) (nw : Int32) (tr : Int64) (n : Int32) (m_0 : 0 ∈ L) (h_0 : g 0 = .inr (8, [.ref (ad 1), .ref (ad 3), .ref (ad 6), .int (nI pn), .ref (ad 7), .ref (ad 20), .ref (ad 22), .ref (ad 28), .int (nI qn), .ref (ad 29), .int nw, .long tr])) (h : ¬ (1 ≤ n.toInt ∧ n.toInt ≤ 1000)) : m_E l yX8_tick wsX8_tick 1 23 D ty [.ref (ad 0), .int n] L ad g (some (.int (-1))) g := by
  intro sz
  refine Met.ofW (cc := cX8_tick) (maxL := 2) (ret := (some .int)) (by decide) rfl ?_
  intro p e s m args below meth c s₁ B hml hv
  have hx := B.exec
  have hb := B.bytes
  have hrt := B.returns
  have hts := atoms_spec (ws := wsX8_tick) B.pre
  have hown : s.vm.findClass RX8 = some m.cls := findClass_of_methodNamed B.named
  have hlocks := B.notSynchronized
  obtain ⟨rfl, hB⟩ := m_start hv
  generalize va_A (m_w L ad g) sz = A at hB ⊢
  generalize s.heap = H at hB ⊢
  generalize ([] : List Loc) = locs at hB ⊢
  have hl := lv_entry ([.ref (ad 0), .int n]) (n := 2) (Nat.le_of_ble_eq_true rfl)
  rw [lg_entry_eq]
  generalize (lg_sl ([.ref (ad 0), .int n]) ++ List.replicate (2 - (lg_sl ([.ref (ad 0), .int n])).length) Slot.unset).toArray = ls at hl ⊢
  have hl : lv_has ls 2 [(0, .ref (ad 0)), (1, .int n)] := hl
  have l1 : (1 : Int32).toInt = 1 := by decide
  refine lv_iload_n hx hb dX8_tick_0 rfl (lv_at hl 1 rfl) ?_
  refine lv_iconst (v := 1) hx hb dX8_tick_1 (by decide) ?_
  refine b_icmp_lt 12 hx hb dX8_tick_2 (by decide) (fun c_2 => ?_) (fun c_2 => ?_)
  · skip
    refine lv_iconst (v := (-1)) hx hb dX8_tick_12 (by decide) ?_
    exact m_iret hx hb hrt hlocks hB (Nat.le_refl _) (Nat.le_refl _) dX8_tick_13 ⟨rfl, rfl, rfl, rfl⟩
  · skip
    refine lv_iload_n hx hb dX8_tick_5 rfl (lv_at hl 1 rfl) ?_
    refine lv_sipush (v := 1000) hx hb dX8_tick_6 (by decide) ?_
    refine b_icmp_le_f 14 hx hb dX8_tick_9 (by decide) (by have := (by decide : (1000 : Int32).toInt = 1000); omega) ?_
    refine lv_iconst (v := (-1)) hx hb dX8_tick_12 (by decide) ?_
    exact m_iret hx hb hrt hlocks hB (Nat.le_refl _) (Nat.le_refl _) dX8_tick_13 ⟨rfl, rfl, rfl, rfl⟩
set_option maxRecDepth 20000 in
theorem in_X8_tick_X8 : ∀ w ∈ wsX80, w ∈ wsX8_tick := by decide +kernel
set_option maxHeartbeats 1000000 in
set_option maxRecDepth 100000 in
theorem c_X_tick_ok (l : Launch) (D : va_G) (ty : Nat → ClassId) (L : List Nat) (ad : Nat → Nat) (g : Nat → va_E) (pn qn : Nat) (nw : Int32) (tr : Int64) (ak : Nat → Int32) (n : Int32) (m_0 : 0 ∈ L) (m_29 : 29 ∈ L) (h_0 : g 0 = .inr (8, [.ref (ad 1), .ref (ad 3), .ref (ad 6), .int (nI pn), .ref (ad 7), .ref (ad 20), .ref (ad 22), .ref (ad 28), .int (nI qn), .ref (ad 29), .int nw, .long tr])) (h_29 : g 29 = .inl (ty 0, 6, .inl ak)) (h : 1 ≤ n.toInt ∧ n.toInt ≤ 1000) : m_E l yX8_tick wsX8_tick 1 23 D ty [.ref (ad 0), .int n] L ad g (some (.int (nw + n))) (va_up (va_up g 0 (.inr (8, [.ref (ad 1), .ref (ad 3), .ref (ad 6), .int (nI pn), .ref (ad 7), .ref (ad 20), .ref (ad 22), .ref (ad 28), .int (nI qn), .ref (ad 29), .int (nw + n), .long tr]))) 29 (.inl (ty 0, 6, .inl (fl_f ak 0 6)))) := by
  intro sz
  refine Met.ofW (cc := cX8_tick) (maxL := 2) (ret := (some .int)) (by decide) rfl ?_
  intro p e s m args below meth c s₁ B hml hv
  have hx := B.exec
  have hb := B.bytes
  have hrt := B.returns
  have hts := atoms_spec (ws := wsX8_tick) B.pre
  have hown : s.vm.findClass RX8 = some m.cls := findClass_of_methodNamed B.named
  have hlocks := B.notSynchronized
  obtain ⟨rfl, hB⟩ := m_start hv
  generalize va_A (m_w L ad g) sz = A at hB ⊢
  generalize s.heap = H at hB ⊢
  generalize ([] : List Loc) = locs at hB ⊢
  have hl := lv_entry ([.ref (ad 0), .int n]) (n := 2) (Nat.le_of_ble_eq_true rfl)
  rw [lg_entry_eq]
  generalize (lg_sl ([.ref (ad 0), .int n]) ++ List.replicate (2 - (lg_sl ([.ref (ad 0), .int n])).length) Slot.unset).toArray = ls at hl ⊢
  have hl : lv_has ls 2 [(0, .ref (ad 0)), (1, .int n)] := hl
  refine lv_iload_n hx hb dX8_tick_0 rfl (lv_at hl 1 rfl) ?_
  refine lv_iconst (v := 1) hx hb dX8_tick_1 (by decide) ?_
  refine b_icmp_lt_f 12 hx hb dX8_tick_2 (by decide) (by have := (by decide : (1 : Int32).toInt = 1); omega) ?_
  refine lv_iload_n hx hb dX8_tick_5 rfl (lv_at hl 1 rfl) ?_
  refine lv_sipush (v := 1000) hx hb dX8_tick_6 (by decide) ?_
  refine b_icmp_le_t 14 hx hb dX8_tick_9 (by decide) (by have := (by decide : (1000 : Int32).toInt = 1000); omega) ?_
  refine lv_aload_n hx hb dX8_tick_14 rfl (lv_at hl 0 rfl) ?_
  refine lv_dup hx hb dX8_tick_15 rfl ?_
  refine m_get (C := RX8) (T := TX8) (N := 12) (ci := 8) hx hb hts in_X8_tick_X8 hown hB m_0 h_0 rfl 10 (by decide) (hts (.fieldLink RX8 122 "PaperRoom" "now" "I") (by decide +kernel)) (fun _ h9 => h9) rfl dX8_tick_16 ?_
  refine lv_iload_n hx hb dX8_tick_19 rfl (lv_at hl 1 rfl) ?_
  refine lv_iadd hx hb dX8_tick_20 ?_
  refine m_put (C := RX8) (T := TX8) (N := 12) (ci := 8) (v := .int (nw + n)) (ft := .int) hx hb hts in_X8_tick_X8 tyX8 tyX8_ok nmX8 hown hB m_0 h_0 rfl 10 (by decide) (hts (.fieldLink RX8 122 "PaperRoom" "now" "I") (by decide +kernel)) (fun _ h9 => h9) rfl (by decide +kernel) rfl rfl (Nat.le_of_ble_eq_true rfl) dX8_tick_21 (fun H locs hB => ?_)
  replace hB : m_B D ty A s L ad (va_up g 0 (.inr (8, [.ref (ad 1), .ref (ad 3), .ref (ad 6), .int (nI pn), .ref (ad 7), .ref (ad 20), .ref (ad 22), .ref (ad 28), .int (nI qn), .ref (ad 29), .int (nw + n), .long tr]))) H locs := hB
  refine lv_aload_n hx hb dX8_tick_24 rfl (lv_at hl 0 rfl) ?_
  refine m_get (C := RX8) (T := TX8) (N := 12) (ci := 8) hx hb hts in_X8_tick_X8 hown hB m_0 (va_up_self _ _ _) rfl 9 (by decide) (hts (.fieldLink RX8 51 "PaperRoom" "asksThisTick" "[I") (by decide +kernel)) (fun _ h9 => h9) rfl dX8_tick_25 ?_
  refine lv_iconst (v := 0) hx hb dX8_tick_28 (by decide) ?_
  refine m_callSZ (As := [.ref (ad 29), .int 0]) (rest := []) (c_fill l D ty L ad _ 29 6 ak 0 m_29 ((va_up_ne _ _ (by decide)).trans h_29) (by omega)) ⟨hx, hb, hml, hown, hts⟩ (va_cwS 2 hts gX8_tick_J7_fill_53178 rfl rfl rfl (by decide +kernel) ⟨Nat.le_of_ble_eq_true rfl, Nat.le_of_ble_eq_true rfl⟩) hB rfl hl.1 rfl (Nat.le_of_ble_eq_true rfl) dX8_tick_29 ⟨Nat.le_of_ble_eq_true rfl, Nat.le_of_ble_eq_true rfl⟩ (fun H locs hB => ?_)
  replace hB : m_B D ty A s L ad (va_up (va_up g 0 (.inr (8, [.ref (ad 1), .ref (ad 3), .ref (ad 6), .int (nI pn), .ref (ad 7), .ref (ad 20), .ref (ad 22), .ref (ad 28), .int (nI qn), .ref (ad 29), .int (nw + n), .long tr]))) 29 (.inl (ty 0, 6, .inl (fl_f ak 0 6)))) H locs := hB
  refine lv_aload_n hx hb dX8_tick_32 rfl (lv_at hl 0 rfl) ?_
  refine m_get (C := RX8) (T := TX8) (N := 12) (ci := 8) hx hb hts in_X8_tick_X8 hown hB m_0 ((va_up_ne _ _ (by decide)).trans (va_up_self _ _ _)) rfl 10 (by decide) (hts (.fieldLink RX8 122 "PaperRoom" "now" "I") (by decide +kernel)) (fun _ h9 => h9) rfl dX8_tick_33 ?_
  exact m_iret hx hb hrt hlocks hB (Nat.le_refl _) (Nat.le_refl _) dX8_tick_36 ⟨rfl, rfl, rfl, rfl⟩
set_option maxHeartbeats 1000000 in
set_option maxRecDepth 100000 in
theorem c_X_rights_1 (l : Launch) (D : va_G) (ty : Nat → ClassId) (L : List Nat) (ad : Nat → Nat) (g : Nat → va_E) (pn qn : Nat) (nw : Int32) (tr : Int64) (x f u w : Int32) (m_0 : 0 ∈ L) (h_0 : g 0 = .inr (8, [.ref (ad 1), .ref (ad 3), .ref (ad 6), .int (nI pn), .ref (ad 7), .ref (ad 20), .ref (ad 22), .ref (ad 28), .int (nI qn), .ref (ad 29), .int nw, .long tr])) (h : ¬ (0 ≤ x.toInt ∧ x.toInt < 3)) : m_E l yX8_rights wsX8_rights 2 46 D ty [.ref (ad 0), .int x, .int f, .int u, .int w] L ad g (some (.int (-1))) g := by
  intro sz
  refine Met.ofW (cc := cX8_rights) (maxL := 5) (ret := (some .int)) (by decide) rfl ?_
  intro p e s m args below meth c s₁ B hml hv
  have hx := B.exec
  have hb := B.bytes
  have hrt := B.returns
  have hts := atoms_spec (ws := wsX8_rights) B.pre
  have hown : s.vm.findClass RX8 = some m.cls := findClass_of_methodNamed B.named
  have hlocks := B.notSynchronized
  obtain ⟨rfl, hB⟩ := m_start hv
  generalize va_A (m_w L ad g) sz = A at hB ⊢
  generalize s.heap = H at hB ⊢
  generalize ([] : List Loc) = locs at hB ⊢
  have hl := lv_entry ([.ref (ad 0), .int x, .int f, .int u, .int w]) (n := 5) (Nat.le_of_ble_eq_true rfl)
  rw [lg_entry_eq]
  generalize (lg_sl ([.ref (ad 0), .int x, .int f, .int u, .int w]) ++ List.replicate (5 - (lg_sl ([.ref (ad 0), .int x, .int f, .int u, .int w])).length) Slot.unset).toArray = ls at hl ⊢
  have hl : lv_has ls 5 [(0, .ref (ad 0)), (1, .int x), (2, .int f), (3, .int u), (4, .int w)] := hl
  have l3 : (3 : Int32).toInt = 3 := by decide
  have l4 : (4 : Int32).toInt = 4 := by decide
  have l1000001 : (1000001 : Int32).toInt = 1000001 := by decide
  refine lv_iload_n hx hb dX8_rights_0 rfl (lv_at hl 1 rfl) ?_
  refine lv_iconst (v := 3) hx hb dX8_rights_1 (by decide) ?_
  refine m_callSE (As := [.int x, .int 3]) (rest := []) (c_isBelow_f l D ty L ad _ _ _ (by omega)) ⟨hx, hb, hml, hown, hts⟩ (va_cwS 2 hts gX8_rights_X8_isBelow rfl rfl rfl (by decide +kernel) ⟨Nat.le_of_ble_eq_true rfl, Nat.le_of_ble_eq_true rfl⟩) hB rfl hl.1 rfl (Nat.le_of_ble_eq_true rfl) dX8_rights_2 ⟨Nat.le_of_ble_eq_true rfl, Nat.le_of_ble_eq_true rfl⟩ (fun H locs hB => ?_)
  refine b_if_eq_t 16 hx hb dX8_rights_5 (by decide) (by decide) ?_
  refine lv_iconst (v := (-1)) hx hb dX8_rights_16 (by decide) ?_
  exact m_iret hx hb hrt hlocks hB (Nat.le_refl _) (Nat.le_refl _) dX8_rights_17 ⟨rfl, rfl, rfl, rfl⟩
set_option maxHeartbeats 1000000 in
set_option maxRecDepth 100000 in
theorem c_X_rights_2 (l : Launch) (D : va_G) (ty : Nat → ClassId) (L : List Nat) (ad : Nat → Nat) (g : Nat → va_E) (pn qn : Nat) (nw : Int32) (tr : Int64) (x f u w : Int32) (m_0 : 0 ∈ L) (h_0 : g 0 = .inr (8, [.ref (ad 1), .ref (ad 3), .ref (ad 6), .int (nI pn), .ref (ad 7), .ref (ad 20), .ref (ad 22), .ref (ad 28), .int (nI qn), .ref (ad 29), .int nw, .long tr])) (h1 : 0 ≤ x.toInt ∧ x.toInt < 3) (h : ¬ (0 ≤ f.toInt ∧ f.toInt < 4)) : m_E l yX8_rights wsX8_rights 2 46 D ty [.ref (ad 0), .int x, .int f, .int u, .int w] L ad g (some (.int (-1))) g := by
  intro sz
  refine Met.ofW (cc := cX8_rights) (maxL := 5) (ret := (some .int)) (by decide) rfl ?_
  intro p e s m args below meth c s₁ B hml hv
  have hx := B.exec
  have hb := B.bytes
  have hrt := B.returns
  have hts := atoms_spec (ws := wsX8_rights) B.pre
  have hown : s.vm.findClass RX8 = some m.cls := findClass_of_methodNamed B.named
  have hlocks := B.notSynchronized
  obtain ⟨rfl, hB⟩ := m_start hv
  generalize va_A (m_w L ad g) sz = A at hB ⊢
  generalize s.heap = H at hB ⊢
  generalize ([] : List Loc) = locs at hB ⊢
  have hl := lv_entry ([.ref (ad 0), .int x, .int f, .int u, .int w]) (n := 5) (Nat.le_of_ble_eq_true rfl)
  rw [lg_entry_eq]
  generalize (lg_sl ([.ref (ad 0), .int x, .int f, .int u, .int w]) ++ List.replicate (5 - (lg_sl ([.ref (ad 0), .int x, .int f, .int u, .int w])).length) Slot.unset).toArray = ls at hl ⊢
  have hl : lv_has ls 5 [(0, .ref (ad 0)), (1, .int x), (2, .int f), (3, .int u), (4, .int w)] := hl
  have l3 : (3 : Int32).toInt = 3 := by decide
  have l4 : (4 : Int32).toInt = 4 := by decide
  have l1000001 : (1000001 : Int32).toInt = 1000001 := by decide
  refine lv_iload_n hx hb dX8_rights_0 rfl (lv_at hl 1 rfl) ?_
  refine lv_iconst (v := 3) hx hb dX8_rights_1 (by decide) ?_
  refine m_callSE (As := [.int x, .int 3]) (rest := []) (c_isBelow_t l D ty L ad _ _ _ (by omega) (by omega)) ⟨hx, hb, hml, hown, hts⟩ (va_cwS 2 hts gX8_rights_X8_isBelow rfl rfl rfl (by decide +kernel) ⟨Nat.le_of_ble_eq_true rfl, Nat.le_of_ble_eq_true rfl⟩) hB rfl hl.1 rfl (Nat.le_of_ble_eq_true rfl) dX8_rights_2 ⟨Nat.le_of_ble_eq_true rfl, Nat.le_of_ble_eq_true rfl⟩ (fun H locs hB => ?_)
  refine b_if_eq_f 16 hx hb dX8_rights_5 (by decide) (by decide) ?_
  refine lv_iload_n hx hb dX8_rights_8 rfl (lv_at hl 2 rfl) ?_
  refine lv_iconst (v := 4) hx hb dX8_rights_9 (by decide) ?_
  refine m_callSE (As := [.int f, .int 4]) (rest := []) (c_isBelow_f l D ty L ad _ _ _ (by omega)) ⟨hx, hb, hml, hown, hts⟩ (va_cwS 2 hts gX8_rights_X8_isBelow rfl rfl rfl (by decide +kernel) ⟨Nat.le_of_ble_eq_true rfl, Nat.le_of_ble_eq_true rfl⟩) hB rfl hl.1 rfl (Nat.le_of_ble_eq_true rfl) dX8_rights_10 ⟨Nat.le_of_ble_eq_true rfl, Nat.le_of_ble_eq_true rfl⟩ (fun H locs hB => ?_)
  refine b_if_ne_f 18 hx hb dX8_rights_13 (by decide) (by decide) ?_
  refine lv_iconst (v := (-1)) hx hb dX8_rights_16 (by decide) ?_
  exact m_iret hx hb hrt hlocks hB (Nat.le_refl _) (Nat.le_refl _) dX8_rights_17 ⟨rfl, rfl, rfl, rfl⟩
set_option maxHeartbeats 1000000 in
set_option maxRecDepth 100000 in
theorem c_X_rights_3 (l : Launch) (D : va_G) (ty : Nat → ClassId) (L : List Nat) (ad : Nat → Nat) (g : Nat → va_E) (pn qn : Nat) (nw : Int32) (tr : Int64) (x f u w : Int32) (m_0 : 0 ∈ L) (h_0 : g 0 = .inr (8, [.ref (ad 1), .ref (ad 3), .ref (ad 6), .int (nI pn), .ref (ad 7), .ref (ad 20), .ref (ad 22), .ref (ad 28), .int (nI qn), .ref (ad 29), .int nw, .long tr])) (h1 : 0 ≤ x.toInt ∧ x.toInt < 3) (h2 : 0 ≤ f.toInt ∧ f.toInt < 4) (h : ¬ (0 ≤ u.toInt ∧ u.toInt < 1000001)) : m_E l yX8_rights wsX8_rights 2 46 D ty [.ref (ad 0), .int x, .int f, .int u, .int w] L ad g (some (.int (-1))) g := by
  intro sz
  refine Met.ofW (cc := cX8_rights) (maxL := 5) (ret := (some .int)) (by decide) rfl ?_
  intro p e s m args below meth c s₁ B hml hv
  have hx := B.exec
  have hb := B.bytes
  have hrt := B.returns
  have hts := atoms_spec (ws := wsX8_rights) B.pre
  have hown : s.vm.findClass RX8 = some m.cls := findClass_of_methodNamed B.named
  have hlocks := B.notSynchronized
  obtain ⟨rfl, hB⟩ := m_start hv
  generalize va_A (m_w L ad g) sz = A at hB ⊢
  generalize s.heap = H at hB ⊢
  generalize ([] : List Loc) = locs at hB ⊢
  have hl := lv_entry ([.ref (ad 0), .int x, .int f, .int u, .int w]) (n := 5) (Nat.le_of_ble_eq_true rfl)
  rw [lg_entry_eq]
  generalize (lg_sl ([.ref (ad 0), .int x, .int f, .int u, .int w]) ++ List.replicate (5 - (lg_sl ([.ref (ad 0), .int x, .int f, .int u, .int w])).length) Slot.unset).toArray = ls at hl ⊢
  have hl : lv_has ls 5 [(0, .ref (ad 0)), (1, .int x), (2, .int f), (3, .int u), (4, .int w)] := hl
  have l3 : (3 : Int32).toInt = 3 := by decide
  have l4 : (4 : Int32).toInt = 4 := by decide
  have l1000001 : (1000001 : Int32).toInt = 1000001 := by decide
  refine lv_iload_n hx hb dX8_rights_0 rfl (lv_at hl 1 rfl) ?_
  refine lv_iconst (v := 3) hx hb dX8_rights_1 (by decide) ?_
  refine m_callSE (As := [.int x, .int 3]) (rest := []) (c_isBelow_t l D ty L ad _ _ _ (by omega) (by omega)) ⟨hx, hb, hml, hown, hts⟩ (va_cwS 2 hts gX8_rights_X8_isBelow rfl rfl rfl (by decide +kernel) ⟨Nat.le_of_ble_eq_true rfl, Nat.le_of_ble_eq_true rfl⟩) hB rfl hl.1 rfl (Nat.le_of_ble_eq_true rfl) dX8_rights_2 ⟨Nat.le_of_ble_eq_true rfl, Nat.le_of_ble_eq_true rfl⟩ (fun H locs hB => ?_)
  refine b_if_eq_f 16 hx hb dX8_rights_5 (by decide) (by decide) ?_
  refine lv_iload_n hx hb dX8_rights_8 rfl (lv_at hl 2 rfl) ?_
  refine lv_iconst (v := 4) hx hb dX8_rights_9 (by decide) ?_
  refine m_callSE (As := [.int f, .int 4]) (rest := []) (c_isBelow_t l D ty L ad _ _ _ (by omega) (by omega)) ⟨hx, hb, hml, hown, hts⟩ (va_cwS 2 hts gX8_rights_X8_isBelow rfl rfl rfl (by decide +kernel) ⟨Nat.le_of_ble_eq_true rfl, Nat.le_of_ble_eq_true rfl⟩) hB rfl hl.1 rfl (Nat.le_of_ble_eq_true rfl) dX8_rights_10 ⟨Nat.le_of_ble_eq_true rfl, Nat.le_of_ble_eq_true rfl⟩ (fun H locs hB => ?_)
  refine b_if_ne_t 18 hx hb dX8_rights_13 (by decide) (by decide) ?_
  refine lv_iload_n hx hb dX8_rights_18 rfl (lv_at hl 3 rfl) ?_
  refine lv_ldc hx hb hown (hts (.constant RX8 117 (1000001)) (by decide +kernel)) dX8_rights_19 ?_
  refine m_callSE (As := [.int u, .int 1000001]) (rest := []) (c_isBelow_f l D ty L ad _ _ _ (by omega)) ⟨hx, hb, hml, hown, hts⟩ (va_cwS 2 hts gX8_rights_X8_isBelow rfl rfl rfl (by decide +kernel) ⟨Nat.le_of_ble_eq_true rfl, Nat.le_of_ble_eq_true rfl⟩) hB rfl hl.1 rfl (Nat.le_of_ble_eq_true rfl) dX8_rights_21 ⟨Nat.le_of_ble_eq_true rfl, Nat.le_of_ble_eq_true rfl⟩ (fun H locs hB => ?_)
  refine b_if_eq_t 37 hx hb dX8_rights_24 (by decide) (by decide) ?_
  refine lv_iconst (v := (-1)) hx hb dX8_rights_37 (by decide) ?_
  exact m_iret hx hb hrt hlocks hB (Nat.le_refl _) (Nat.le_refl _) dX8_rights_38 ⟨rfl, rfl, rfl, rfl⟩
set_option maxHeartbeats 1000000 in
set_option maxRecDepth 100000 in
theorem c_X_rights_4 (l : Launch) (D : va_G) (ty : Nat → ClassId) (L : List Nat) (ad : Nat → Nat) (g : Nat → va_E) (pn qn : Nat) (nw : Int32) (tr : Int64) (x f u w : Int32) (m_0 : 0 ∈ L) (h_0 : g 0 = .inr (8, [.ref (ad 1), .ref (ad 3), .ref (ad 6), .int (nI pn), .ref (ad 7), .ref (ad 20), .ref (ad 22), .ref (ad 28), .int (nI qn), .ref (ad 29), .int nw, .long tr])) (h1 : 0 ≤ x.toInt ∧ x.toInt < 3) (h2 : 0 ≤ f.toInt ∧ f.toInt < 4) (h3 : 0 ≤ u.toInt ∧ u.toInt < 1000001) (h : ¬ (0 ≤ w.toInt ∧ w.toInt < 1000001)) : m_E l yX8_rights wsX8_rights 2 46 D ty [.ref (ad 0), .int x, .int f, .int u, .int w] L ad g (some (.int (-1))) g := by
  intro sz
  refine Met.ofW (cc := cX8_rights) (maxL := 5) (ret := (some .int)) (by decide) rfl ?_
  intro p e s m args below meth c s₁ B hml hv
  have hx := B.exec
  have hb := B.bytes
  have hrt := B.returns
  have hts := atoms_spec (ws := wsX8_rights) B.pre
  have hown : s.vm.findClass RX8 = some m.cls := findClass_of_methodNamed B.named
  have hlocks := B.notSynchronized
  obtain ⟨rfl, hB⟩ := m_start hv
  generalize va_A (m_w L ad g) sz = A at hB ⊢
  generalize s.heap = H at hB ⊢
  generalize ([] : List Loc) = locs at hB ⊢
  have hl := lv_entry ([.ref (ad 0), .int x, .int f, .int u, .int w]) (n := 5) (Nat.le_of_ble_eq_true rfl)
  rw [lg_entry_eq]
  generalize (lg_sl ([.ref (ad 0), .int x, .int f, .int u, .int w]) ++ List.replicate (5 - (lg_sl ([.ref (ad 0), .int x, .int f, .int u, .int w])).length) Slot.unset).toArray = ls at hl ⊢
  have hl : lv_has ls 5 [(0, .ref (ad 0)), (1, .int x), (2, .int f), (3, .int u), (4, .int w)] := hl
  have l3 : (3 : Int32).toInt = 3 := by decide
  have l4 : (4 : Int32).toInt = 4 := by decide
  have l1000001 : (1000001 : Int32).toInt = 1000001 := by decide
  refine lv_iload_n hx hb dX8_rights_0 rfl (lv_at hl 1 rfl) ?_
  refine lv_iconst (v := 3) hx hb dX8_rights_1 (by decide) ?_
  refine m_callSE (As := [.int x, .int 3]) (rest := []) (c_isBelow_t l D ty L ad _ _ _ (by omega) (by omega)) ⟨hx, hb, hml, hown, hts⟩ (va_cwS 2 hts gX8_rights_X8_isBelow rfl rfl rfl (by decide +kernel) ⟨Nat.le_of_ble_eq_true rfl, Nat.le_of_ble_eq_true rfl⟩) hB rfl hl.1 rfl (Nat.le_of_ble_eq_true rfl) dX8_rights_2 ⟨Nat.le_of_ble_eq_true rfl, Nat.le_of_ble_eq_true rfl⟩ (fun H locs hB => ?_)
  refine b_if_eq_f 16 hx hb dX8_rights_5 (by decide) (by decide) ?_
  refine lv_iload_n hx hb dX8_rights_8 rfl (lv_at hl 2 rfl) ?_
  refine lv_iconst (v := 4) hx hb dX8_rights_9 (by decide) ?_
  refine m_callSE (As := [.int f, .int 4]) (rest := []) (c_isBelow_t l D ty L ad _ _ _ (by omega) (by omega)) ⟨hx, hb, hml, hown, hts⟩ (va_cwS 2 hts gX8_rights_X8_isBelow rfl rfl rfl (by decide +kernel) ⟨Nat.le_of_ble_eq_true rfl, Nat.le_of_ble_eq_true rfl⟩) hB rfl hl.1 rfl (Nat.le_of_ble_eq_true rfl) dX8_rights_10 ⟨Nat.le_of_ble_eq_true rfl, Nat.le_of_ble_eq_true rfl⟩ (fun H locs hB => ?_)
  refine b_if_ne_t 18 hx hb dX8_rights_13 (by decide) (by decide) ?_
  refine lv_iload_n hx hb dX8_rights_18 rfl (lv_at hl 3 rfl) ?_
  refine lv_ldc hx hb hown (hts (.constant RX8 117 (1000001)) (by decide +kernel)) dX8_rights_19 ?_
  refine m_callSE (As := [.int u, .int 1000001]) (rest := []) (c_isBelow_t l D ty L ad _ _ _ (by omega) (by omega)) ⟨hx, hb, hml, hown, hts⟩ (va_cwS 2 hts gX8_rights_X8_isBelow rfl rfl rfl (by decide +kernel) ⟨Nat.le_of_ble_eq_true rfl, Nat.le_of_ble_eq_true rfl⟩) hB rfl hl.1 rfl (Nat.le_of_ble_eq_true rfl) dX8_rights_21 ⟨Nat.le_of_ble_eq_true rfl, Nat.le_of_ble_eq_true rfl⟩ (fun H locs hB => ?_)
  refine b_if_eq_f 37 hx hb dX8_rights_24 (by decide) (by decide) ?_
  refine lv_iload hx hb dX8_rights_27 (lv_at hl 4 rfl) ?_
  refine lv_ldc hx hb hown (hts (.constant RX8 117 (1000001)) (by decide +kernel)) dX8_rights_29 ?_
  refine m_callSE (As := [.int w, .int 1000001]) (rest := []) (c_isBelow_f l D ty L ad _ _ _ (by omega)) ⟨hx, hb, hml, hown, hts⟩ (va_cwS 2 hts gX8_rights_X8_isBelow rfl rfl rfl (by decide +kernel) ⟨Nat.le_of_ble_eq_true rfl, Nat.le_of_ble_eq_true rfl⟩) hB rfl hl.1 rfl (Nat.le_of_ble_eq_true rfl) dX8_rights_31 ⟨Nat.le_of_ble_eq_true rfl, Nat.le_of_ble_eq_true rfl⟩ (fun H locs hB => ?_)
  refine b_if_ne_f 39 hx hb dX8_rights_34 (by decide) (by decide) ?_
  refine lv_iconst (v := (-1)) hx hb dX8_rights_37 (by decide) ?_
  exact m_iret hx hb hrt hlocks hB (Nat.le_refl _) (Nat.le_refl _) dX8_rights_38 ⟨rfl, rfl, rfl, rfl⟩
set_option maxRecDepth 20000 in
theorem in_X8_rights_X8 : ∀ w ∈ wsX80, w ∈ wsX8_rights := by decide +kernel
set_option maxHeartbeats 1000000 in
set_option maxRecDepth 100000 in
theorem c_X_rights_ok (l : Launch) (D : va_G) (ty : Nat → ClassId) (L : List Nat) (ad : Nat → Nat) (g : Nat → va_E) (pn qn : Nat) (nw : Int32) (tr : Int64) (fs fe : Nat → Int32) (x f : Nat) (u w : Int32) (m_0 : 0 ∈ L) (m_3 : 3 ∈ L) (m_4 : 4 ∈ L) (m_5 : 5 ∈ L) (h_0 : g 0 = .inr (8, [.ref (ad 1), .ref (ad 3), .ref (ad 6), .int (nI pn), .ref (ad 7), .ref (ad 20), .ref (ad 22), .ref (ad 28), .int (nI qn), .ref (ad 29), .int nw, .long tr])) (h_3 : g 3 = .inr (4, [.ref (ad 4), .ref (ad 5)])) (h_4 : g 4 = .inl (ty 0, 12, .inl fs)) (h_5 : g 5 = .inl (ty 0, 12, .inl fe)) (h1 : x < 3) (h2 : f < 4) (h3 : 0 ≤ u.toInt ∧ u.toInt < 1000001) (h4 : 0 ≤ w.toInt ∧ w.toInt < 1000001) : m_E l yX8_rights wsX8_rights 2 46 D ty [.ref (ad 0), .int (nI x), .int (nI f), .int u, .int w] L ad g (some (.int 1)) (va_up (va_up g 4 (.inl (ty 0, 12, .inl (upd fs (x * 4 + f) u)))) 5 (.inl (ty 0, 12, .inl (upd fe (x * 4 + f) w)))) := by
  intro sz
  refine Met.ofW (cc := cX8_rights) (maxL := 5) (ret := (some .int)) (by decide) rfl ?_
  intro p e s m args below meth c s₁ B hml hv
  have hx := B.exec
  have hb := B.bytes
  have hrt := B.returns
  have hts := atoms_spec (ws := wsX8_rights) B.pre
  have hown : s.vm.findClass RX8 = some m.cls := findClass_of_methodNamed B.named
  have hlocks := B.notSynchronized
  obtain ⟨rfl, hB⟩ := m_start hv
  generalize va_A (m_w L ad g) sz = A at hB ⊢
  generalize s.heap = H at hB ⊢
  generalize ([] : List Loc) = locs at hB ⊢
  have hl := lv_entry ([.ref (ad 0), .int (nI x), .int (nI f), .int u, .int w]) (n := 5) (Nat.le_of_ble_eq_true rfl)
  rw [lg_entry_eq]
  generalize (lg_sl ([.ref (ad 0), .int (nI x), .int (nI f), .int u, .int w]) ++ List.replicate (5 - (lg_sl ([.ref (ad 0), .int (nI x), .int (nI f), .int u, .int w])).length) Slot.unset).toArray = ls at hl ⊢
  have hl : lv_has ls 5 [(0, .ref (ad 0)), (1, .int (nI x)), (2, .int (nI f)), (3, .int u), (4, .int w)] := hl
  have l3 : (3 : Int32).toInt = 3 := by decide
  have l4 : (4 : Int32).toInt = 4 := by decide
  have l1000001 : (1000001 : Int32).toInt = 1000001 := by decide
  have tI_x : (nI x).toInt = (x : Int) := nI_toInt (by omega)
  have tI_f : (nI f).toInt = (f : Int) := nI_toInt (by omega)
  refine lv_iload_n hx hb dX8_rights_0 rfl (lv_at hl 1 rfl) ?_
  refine lv_iconst (v := 3) hx hb dX8_rights_1 (by decide) ?_
  refine m_callSE (As := [.int (nI x), .int 3]) (rest := []) (c_isBelow_t l D ty L ad _ _ _ (by omega) (by omega)) ⟨hx, hb, hml, hown, hts⟩ (va_cwS 2 hts gX8_rights_X8_isBelow rfl rfl rfl (by decide +kernel) ⟨Nat.le_of_ble_eq_true rfl, Nat.le_of_ble_eq_true rfl⟩) hB rfl hl.1 rfl (Nat.le_of_ble_eq_true rfl) dX8_rights_2 ⟨Nat.le_of_ble_eq_true rfl, Nat.le_of_ble_eq_true rfl⟩ (fun H locs hB => ?_)
  refine b_if_eq_f 16 hx hb dX8_rights_5 (by decide) (by decide) ?_
  refine lv_iload_n hx hb dX8_rights_8 rfl (lv_at hl 2 rfl) ?_
  refine lv_iconst (v := 4) hx hb dX8_rights_9 (by decide) ?_
  refine m_callSE (As := [.int (nI f), .int 4]) (rest := []) (c_isBelow_t l D ty L ad _ _ _ (by omega) (by omega)) ⟨hx, hb, hml, hown, hts⟩ (va_cwS 2 hts gX8_rights_X8_isBelow rfl rfl rfl (by decide +kernel) ⟨Nat.le_of_ble_eq_true rfl, Nat.le_of_ble_eq_true rfl⟩) hB rfl hl.1 rfl (Nat.le_of_ble_eq_true rfl) dX8_rights_10 ⟨Nat.le_of_ble_eq_true rfl, Nat.le_of_ble_eq_true rfl⟩ (fun H locs hB => ?_)
  refine b_if_ne_t 18 hx hb dX8_rights_13 (by decide) (by decide) ?_
  refine lv_iload_n hx hb dX8_rights_18 rfl (lv_at hl 3 rfl) ?_
  refine lv_ldc hx hb hown (hts (.constant RX8 117 (1000001)) (by decide +kernel)) dX8_rights_19 ?_
  refine m_callSE (As := [.int u, .int 1000001]) (rest := []) (c_isBelow_t l D ty L ad _ _ _ (by omega) (by omega)) ⟨hx, hb, hml, hown, hts⟩ (va_cwS 2 hts gX8_rights_X8_isBelow rfl rfl rfl (by decide +kernel) ⟨Nat.le_of_ble_eq_true rfl, Nat.le_of_ble_eq_true rfl⟩) hB rfl hl.1 rfl (Nat.le_of_ble_eq_true rfl) dX8_rights_21 ⟨Nat.le_of_ble_eq_true rfl, Nat.le_of_ble_eq_true rfl⟩ (fun H locs hB => ?_)
  refine b_if_eq_f 37 hx hb dX8_rights_24 (by decide) (by decide) ?_
  refine lv_iload hx hb dX8_rights_27 (lv_at hl 4 rfl) ?_
  refine lv_ldc hx hb hown (hts (.constant RX8 117 (1000001)) (by decide +kernel)) dX8_rights_29 ?_
  refine m_callSE (As := [.int w, .int 1000001]) (rest := []) (c_isBelow_t l D ty L ad _ _ _ (by omega) (by omega)) ⟨hx, hb, hml, hown, hts⟩ (va_cwS 2 hts gX8_rights_X8_isBelow rfl rfl rfl (by decide +kernel) ⟨Nat.le_of_ble_eq_true rfl, Nat.le_of_ble_eq_true rfl⟩) hB rfl hl.1 rfl (Nat.le_of_ble_eq_true rfl) dX8_rights_31 ⟨Nat.le_of_ble_eq_true rfl, Nat.le_of_ble_eq_true rfl⟩ (fun H locs hB => ?_)
  refine b_if_ne_t 39 hx hb dX8_rights_34 (by decide) (by decide) ?_
  refine lv_aload_n hx hb dX8_rights_39 rfl (lv_at hl 0 rfl) ?_
  refine m_get (C := RX8) (T := TX8) (N := 12) (ci := 8) hx hb hts in_X8_rights_X8 hown hB m_0 h_0 rfl 1 (by decide) (hts (.fieldLink RX8 21 "PaperRoom" "granted" "LPaperRoom$Rights;") (by decide +kernel)) (fun _ h9 => h9) rfl dX8_rights_40 ?_
  refine lv_iload_n hx hb dX8_rights_43 rfl (lv_at hl 1 rfl) ?_
  refine lv_iload_n hx hb dX8_rights_44 rfl (lv_at hl 2 rfl) ?_
  refine lv_iload_n hx hb dX8_rights_45 rfl (lv_at hl 3 rfl) ?_
  refine lv_iload hx hb dX8_rights_46 (lv_at hl 4 rfl) ?_
  refine m_callVZ (ci := 4) (As := [.int (nI x), .int (nI f), .int u, .int w]) (rest := []) (c_Rights_grant l D ty L ad g 3 4 5 fs fe x f u w m_3 m_4 m_5 h_3 h_4 h_5 h1 h2 (by decide) (by decide) (by decide)) ⟨hx, hb, hml, hown, hts⟩ (cwV 4 hts gX8_rights_X4_grant rfl rfl rfl (by decide +kernel) ⟨Nat.le_of_ble_eq_true rfl, Nat.le_of_ble_eq_true rfl⟩) hB m_3 h_3 rfl rfl hl.1 rfl (Nat.le_of_ble_eq_true rfl) dX8_rights_48 ⟨Nat.le_of_ble_eq_true rfl, Nat.le_of_ble_eq_true rfl⟩ (fun H locs hB => ?_)
  replace hB : m_B D ty A s L ad (va_up (va_up g 4 (.inl (ty 0, 12, .inl (upd fs (x * 4 + f) u)))) 5 (.inl (ty 0, 12, .inl (upd fe (x * 4 + f) w)))) H locs := hB
  refine lv_iconst (v := 1) hx hb dX8_rights_51 (by decide) ?_
  exact m_iret hx hb hrt hlocks hB (Nat.le_refl _) (Nat.le_refl _) dX8_rights_52 ⟨rfl, rfl, rfl, rfl⟩
