set_option maxRecDepth 20000 in
theorem in_X6_entries_X6 : ∀ w ∈ wsX60, w ∈ wsX6_entries := by decide +kernel
set_option maxHeartbeats 1000000 in
set_option maxRecDepth 100000 in
theorem c_Seen_entries (l : Launch) (D : va_G) (ty : Nat → ClassId) (L : List Nat) (ad : Nat → Nat) (g : Nat → va_E) (sn c0 c1 c2 c3 c4 en : Nat) (ls0 : Int32) (m_sn : sn ∈ L) (h_sn : g sn = .inr (6, [.ref (ad c0), .ref (ad c1), .ref (ad c2), .ref (ad c3), .ref (ad c4), .int (nI en), .int ls0])) : m_E l yX6_entries wsX6_entries 0 0 D ty [.ref (ad sn)] L ad g (some (.int (nI en))) g := by
  intro sz
  refine Met.ofW (cc := cX6_entries) (maxL := 1) (ret := (some .int)) (by decide) rfl ?_
  intro p e s m args below meth c s₁ B hml hv
  have hx := B.exec
  have hb := B.bytes
  have hrt := B.returns
  have hts := atoms_spec (ws := wsX6_entries) B.pre
  have hown : s.vm.findClass RX6 = some m.cls := findClass_of_methodNamed B.named
  have hlocks := B.notSynchronized
  obtain ⟨rfl, hB⟩ := m_start hv
  generalize va_A (m_w L ad g) sz = A at hB ⊢
  generalize s.heap = H at hB ⊢
  generalize ([] : List Loc) = locs at hB ⊢
  have hl := lv_entry ([.ref (ad sn)]) (n := 1) (Nat.le_of_ble_eq_true rfl)
  rw [lg_entry_eq]
  generalize (lg_sl ([.ref (ad sn)]) ++ List.replicate (1 - (lg_sl ([.ref (ad sn)])).length) Slot.unset).toArray = ls at hl ⊢
  have hl : lv_has ls 1 [(0, .ref (ad sn))] := hl
  refine lv_aload_n hx hb dX6_entries_0 rfl (lv_at hl 0 rfl) ?_
  refine m_get (C := RX6) (T := TX6) (N := 7) (ci := 6) hx hb hts in_X6_entries_X6 hown hB m_sn h_sn rfl 5 (by decide) (hts (.fieldLink RX6 28 "PaperRoom$Seen" "entries" "I") (by decide +kernel)) (fun _ h9 => h9) rfl dX6_entries_1 ?_
  exact m_iret hx hb hrt hlocks hB (Nat.le_refl _) (Nat.le_refl _) dX6_entries_4 ⟨rfl, rfl, rfl, rfl⟩
set_option maxRecDepth 20000 in
theorem in_X6_lost_X6 : ∀ w ∈ wsX60, w ∈ wsX6_lost := by decide +kernel
set_option maxHeartbeats 1000000 in
set_option maxRecDepth 100000 in
theorem c_Seen_lost (l : Launch) (D : va_G) (ty : Nat → ClassId) (L : List Nat) (ad : Nat → Nat) (g : Nat → va_E) (sn c0 c1 c2 c3 c4 en : Nat) (ls0 : Int32) (m_sn : sn ∈ L) (h_sn : g sn = .inr (6, [.ref (ad c0), .ref (ad c1), .ref (ad c2), .ref (ad c3), .ref (ad c4), .int (nI en), .int ls0])) : m_E l yX6_lost wsX6_lost 0 0 D ty [.ref (ad sn)] L ad g (some (.int ls0)) g := by
  intro sz
  refine Met.ofW (cc := cX6_lost) (maxL := 1) (ret := (some .int)) (by decide) rfl ?_
  intro p e s m args below meth c s₁ B hml hv
  have hx := B.exec
  have hb := B.bytes
  have hrt := B.returns
  have hts := atoms_spec (ws := wsX6_lost) B.pre
  have hown : s.vm.findClass RX6 = some m.cls := findClass_of_methodNamed B.named
  have hlocks := B.notSynchronized
  obtain ⟨rfl, hB⟩ := m_start hv
  generalize va_A (m_w L ad g) sz = A at hB ⊢
  generalize s.heap = H at hB ⊢
  generalize ([] : List Loc) = locs at hB ⊢
  have hl := lv_entry ([.ref (ad sn)]) (n := 1) (Nat.le_of_ble_eq_true rfl)
  rw [lg_entry_eq]
  generalize (lg_sl ([.ref (ad sn)]) ++ List.replicate (1 - (lg_sl ([.ref (ad sn)])).length) Slot.unset).toArray = ls at hl ⊢
  have hl : lv_has ls 1 [(0, .ref (ad sn))] := hl
  refine lv_aload_n hx hb dX6_lost_0 rfl (lv_at hl 0 rfl) ?_
  refine m_get (C := RX6) (T := TX6) (N := 7) (ci := 6) hx hb hts in_X6_lost_X6 hown hB m_sn h_sn rfl 6 (by decide) (hts (.fieldLink RX6 32 "PaperRoom$Seen" "lost" "I") (by decide +kernel)) (fun _ h9 => h9) rfl dX6_lost_1 ?_
  exact m_iret hx hb hrt hlocks hB (Nat.le_refl _) (Nat.le_refl _) dX6_lost_4 ⟨rfl, rfl, rfl, rfl⟩
set_option maxRecDepth 20000 in
theorem in_X6_isEntry_X6 : ∀ w ∈ wsX60, w ∈ wsX6_isEntry := by decide +kernel
set_option maxHeartbeats 1000000 in
set_option maxRecDepth 100000 in
theorem c_Seen_isEntry_t (l : Launch) (D : va_G) (ty : Nat → ClassId) (L : List Nat) (ad : Nat → Nat) (g : Nat → va_E) (sn c0 c1 c2 c3 c4 en : Nat) (ls0 : Int32) (k : Nat) (m_sn : sn ∈ L) (h_sn : g sn = .inr (6, [.ref (ad c0), .ref (ad c1), .ref (ad c2), .ref (ad c3), .ref (ad c4), .int (nI en), .int ls0])) (hk : k < en) (he : en ≤ 200) : m_E l yX6_isEntry wsX6_isEntry 1 21 D ty [.ref (ad sn), .int (nI k)] L ad g (some (.int 1)) g := by
  intro sz
  refine Met.ofW (cc := cX6_isEntry) (maxL := 2) (ret := (some .boolean)) (by decide) rfl ?_
  intro p e s m args below meth c s₁ B hml hv
  have hx := B.exec
  have hb := B.bytes
  have hrt := B.returns
  have hts := atoms_spec (ws := wsX6_isEntry) B.pre
  have hown : s.vm.findClass RX6 = some m.cls := findClass_of_methodNamed B.named
  have hlocks := B.notSynchronized
  obtain ⟨rfl, hB⟩ := m_start hv
  generalize va_A (m_w L ad g) sz = A at hB ⊢
  generalize s.heap = H at hB ⊢
  generalize ([] : List Loc) = locs at hB ⊢
  have hl := lv_entry ([.ref (ad sn), .int (nI k)]) (n := 2) (Nat.le_of_ble_eq_true rfl)
  rw [lg_entry_eq]
  generalize (lg_sl ([.ref (ad sn), .int (nI k)]) ++ List.replicate (2 - (lg_sl ([.ref (ad sn), .int (nI k)])).length) Slot.unset).toArray = ls at hl ⊢
  have hl : lv_has ls 2 [(0, .ref (ad sn)), (1, .int (nI k))] := hl
  have tI_en : (nI en).toInt = (en : Int) := nI_toInt (by omega)
  have tI_k : (nI k).toInt = (k : Int) := nI_toInt (by omega)
  have tI_200 : (200 : Int32).toInt = 200 := by decide
  refine lv_iload_n hx hb dX6_isEntry_0 rfl (lv_at hl 1 rfl) ?_
  refine lv_aload_n hx hb dX6_isEntry_1 rfl (lv_at hl 0 rfl) ?_
  refine m_get (C := RX6) (T := TX6) (N := 7) (ci := 6) hx hb hts in_X6_isEntry_X6 hown hB m_sn h_sn rfl 5 (by decide) (hts (.fieldLink RX6 28 "PaperRoom$Seen" "entries" "I") (by decide +kernel)) (fun _ h9 => h9) rfl dX6_isEntry_2 ?_
  refine m_callSNE (As := [.int (nI k), .int (nI en)]) (rest := []) (c_isBelow_t l D ty L ad g _ _ (by omega) (by omega)) ⟨hx, hb, hml, hown, hts⟩ ⟨va_cnB 2 hts gX6_isEntry_X8_isBelow_n35 rfl rfl rfl hB.2.1.2.2.2.2.2.2.2.1 (hts (.initialized RX8) (by decide +kernel)) (by decide +kernel) ⟨Nat.le_of_ble_eq_true rfl, Nat.le_of_ble_eq_true rfl⟩, hts (.static yX8_isBelow) (by decide +kernel), trivial⟩ hB rfl hl.1 rfl (Nat.le_of_ble_eq_true rfl) dX6_isEntry_5 ⟨Nat.le_of_ble_eq_true rfl, Nat.le_of_ble_eq_true rfl⟩ (fun H locs hB => ?_)
  refine b_if_eq_f 22 hx hb dX6_isEntry_8 (by decide) (by decide) ?_
  refine lv_iload_n hx hb dX6_isEntry_11 rfl (lv_at hl 1 rfl) ?_
  refine lv_sipush (v := 200) hx hb dX6_isEntry_12 (by decide) ?_
  refine b_icmp_ge_f 22 hx hb dX6_isEntry_15 (by decide) (by have := (by decide : (200 : Int32).toInt = 200); omega) ?_
  refine lv_iconst (v := 1) hx hb dX6_isEntry_18 (by decide) ?_
  refine lv_goto (tgt := 23) hx hb dX6_isEntry_19 (by decide) ?_
  exact m_zret hx hb hrt hlocks hB (Nat.le_refl _) (Nat.le_refl _) dX6_isEntry_23 rfl ⟨rfl, rfl, rfl, rfl⟩
set_option maxHeartbeats 1000000 in
set_option maxRecDepth 100000 in
theorem c_Seen_isEntry_f (l : Launch) (D : va_G) (ty : Nat → ClassId) (L : List Nat) (ad : Nat → Nat) (g : Nat → va_E) (sn c0 c1 c2 c3 c4 en : Nat) (ls0 : Int32) (i : Int32) (m_sn : sn ∈ L) (h_sn : g sn = .inr (6, [.ref (ad c0), .ref (ad c1), .ref (ad c2), .ref (ad c3), .ref (ad c4), .int (nI en), .int ls0])) (hi : ¬ (0 ≤ i.toInt ∧ i.toInt < (nI en).toInt)) : m_E l yX6_isEntry wsX6_isEntry 1 21 D ty [.ref (ad sn), .int i] L ad g (some (.int 0)) g := by
  intro sz
  refine Met.ofW (cc := cX6_isEntry) (maxL := 2) (ret := (some .boolean)) (by decide) rfl ?_
  intro p e s m args below meth c s₁ B hml hv
  have hx := B.exec
  have hb := B.bytes
  have hrt := B.returns
  have hts := atoms_spec (ws := wsX6_isEntry) B.pre
  have hown : s.vm.findClass RX6 = some m.cls := findClass_of_methodNamed B.named
  have hlocks := B.notSynchronized
  obtain ⟨rfl, hB⟩ := m_start hv
  generalize va_A (m_w L ad g) sz = A at hB ⊢
  generalize s.heap = H at hB ⊢
  generalize ([] : List Loc) = locs at hB ⊢
  have hl := lv_entry ([.ref (ad sn), .int i]) (n := 2) (Nat.le_of_ble_eq_true rfl)
  rw [lg_entry_eq]
  generalize (lg_sl ([.ref (ad sn), .int i]) ++ List.replicate (2 - (lg_sl ([.ref (ad sn), .int i])).length) Slot.unset).toArray = ls at hl ⊢
  have hl : lv_has ls 2 [(0, .ref (ad sn)), (1, .int i)] := hl
  refine lv_iload_n hx hb dX6_isEntry_0 rfl (lv_at hl 1 rfl) ?_
  refine lv_aload_n hx hb dX6_isEntry_1 rfl (lv_at hl 0 rfl) ?_
  refine m_get (C := RX6) (T := TX6) (N := 7) (ci := 6) hx hb hts in_X6_isEntry_X6 hown hB m_sn h_sn rfl 5 (by decide) (hts (.fieldLink RX6 28 "PaperRoom$Seen" "entries" "I") (by decide +kernel)) (fun _ h9 => h9) rfl dX6_isEntry_2 ?_
  refine m_callSNE (As := [.int i, .int (nI en)]) (rest := []) (c_isBelow_f l D ty L ad g _ _ hi) ⟨hx, hb, hml, hown, hts⟩ ⟨va_cnB 2 hts gX6_isEntry_X8_isBelow_n35 rfl rfl rfl hB.2.1.2.2.2.2.2.2.2.1 (hts (.initialized RX8) (by decide +kernel)) (by decide +kernel) ⟨Nat.le_of_ble_eq_true rfl, Nat.le_of_ble_eq_true rfl⟩, hts (.static yX8_isBelow) (by decide +kernel), trivial⟩ hB rfl hl.1 rfl (Nat.le_of_ble_eq_true rfl) dX6_isEntry_5 ⟨Nat.le_of_ble_eq_true rfl, Nat.le_of_ble_eq_true rfl⟩ (fun H locs hB => ?_)
  refine b_if_eq_t 22 hx hb dX6_isEntry_8 (by decide) (by decide) ?_
  refine lv_iconst (v := 0) hx hb dX6_isEntry_22 (by decide) ?_
  exact m_zret hx hb hrt hlocks hB (Nat.le_refl _) (Nat.le_refl _) dX6_isEntry_23 rfl ⟨rfl, rfl, rfl, rfl⟩
set_option maxRecDepth 20000 in
theorem in_X6_told_X6 : ∀ w ∈ wsX60, w ∈ wsX6_told := by decide +kernel
set_option maxHeartbeats 1000000 in
set_option maxRecDepth 100000 in
theorem c_Seen_told_0 (l : Launch) (D : va_G) (ty : Nat → ClassId) (L : List Nat) (ad : Nat → Nat) (g : Nat → va_E) (sn c0 c1 c2 c3 c4 en : Nat) (ls0 : Int32) (f0 f1 f2 f3 : Nat → Int32) (f4 : Nat → Int64) (k : Nat) (m_sn : sn ∈ L) (m_c0 : c0 ∈ L) (m_c1 : c1 ∈ L) (m_c2 : c2 ∈ L) (m_c3 : c3 ∈ L) (m_c4 : c4 ∈ L) (h_sn : g sn = .inr (6, [.ref (ad c0), .ref (ad c1), .ref (ad c2), .ref (ad c3), .ref (ad c4), .int (nI en), .int ls0])) (h_c0 : g c0 = .inl (ty 0, 200, .inl f0)) (h_c1 : g c1 = .inl (ty 0, 200, .inl f1)) (h_c2 : g c2 = .inl (ty 0, 200, .inl f2)) (h_c3 : g c3 = .inl (ty 0, 200, .inl f3)) (h_c4 : g c4 = .inl (ty 1, 200, .inr (.inl f4))) (hk : k < en) (he : en ≤ 200) : m_E l yX6_told wsX6_told 2 42 D ty [.ref (ad sn), .int (nI k), .int 0] L ad g (some (.int (f0 k))) g := by
  intro sz
  refine Met.ofW (cc := cX6_told) (maxL := 3) (ret := (some .int)) (by decide) rfl ?_
  intro p e s m args below meth c s₁ B hml hv
  have hx := B.exec
  have hb := B.bytes
  have hrt := B.returns
  have hts := atoms_spec (ws := wsX6_told) B.pre
  have hown : s.vm.findClass RX6 = some m.cls := findClass_of_methodNamed B.named
  have hlocks := B.notSynchronized
  obtain ⟨rfl, hB⟩ := m_start hv
  generalize va_A (m_w L ad g) sz = A at hB ⊢
  generalize s.heap = H at hB ⊢
  generalize ([] : List Loc) = locs at hB ⊢
  have hl := lv_entry ([.ref (ad sn), .int (nI k), .int 0]) (n := 3) (Nat.le_of_ble_eq_true rfl)
  rw [lg_entry_eq]
  generalize (lg_sl ([.ref (ad sn), .int (nI k), .int 0]) ++ List.replicate (3 - (lg_sl ([.ref (ad sn), .int (nI k), .int 0])).length) Slot.unset).toArray = ls at hl ⊢
  have hl : lv_has ls 3 [(0, .ref (ad sn)), (1, .int (nI k)), (2, .int 0)] := hl
  refine lv_aload_n hx hb dX6_told_0 rfl (lv_at hl 0 rfl) ?_
  refine lv_iload_n hx hb dX6_told_1 rfl (lv_at hl 1 rfl) ?_
  refine m_callVE (ci := 6) (As := [.int (nI k)]) (rest := []) (c_Seen_isEntry_t l D ty L ad g sn c0 c1 c2 c3 c4 en ls0 k m_sn h_sn hk he) ⟨hx, hb, hml, hown, hts⟩ (cwV 1 hts gX6_told_X6_isEntry rfl rfl rfl (by decide +kernel) ⟨Nat.le_of_ble_eq_true rfl, Nat.le_of_ble_eq_true rfl⟩) hB m_sn h_sn rfl rfl hl.1 rfl (Nat.le_of_ble_eq_true rfl) dX6_told_2 ⟨Nat.le_of_ble_eq_true rfl, Nat.le_of_ble_eq_true rfl⟩ (fun H locs hB => ?_)
  refine b_if_ne_t 10 hx hb dX6_told_5 (by decide) (by decide) ?_
  refine lv_iload_n hx hb dX6_told_10 rfl (lv_at hl 2 rfl) ?_
  refine lv_tableIn (off := 29) (tgt := 40) hx hb dX6_told_11 (by decide) (by decide) (by decide) (by decide) ?_
  refine lv_aload_n hx hb dX6_told_40 rfl (lv_at hl 0 rfl) ?_
  refine m_get (C := RX6) (T := TX6) (N := 7) (ci := 6) hx hb hts in_X6_told_X6 hown hB m_sn h_sn rfl 0 (by decide) (hts (.fieldLink RX6 9 "PaperRoom$Seen" "ticks" "[I") (by decide +kernel)) (fun _ h9 => h9) rfl dX6_told_41 ?_
  refine lv_iload_n hx hb dX6_told_44 rfl (lv_at hl 1 rfl) ?_
  refine n_iald hx hb hB m_c0 h_c0 k rfl (by omega) (by omega) dX6_told_45 ?_
  exact m_iret hx hb hrt hlocks hB (Nat.le_refl _) (Nat.le_refl _) dX6_told_46 ⟨rfl, rfl, rfl, rfl⟩
set_option maxHeartbeats 1000000 in
set_option maxRecDepth 100000 in
theorem c_Seen_told_1 (l : Launch) (D : va_G) (ty : Nat → ClassId) (L : List Nat) (ad : Nat → Nat) (g : Nat → va_E) (sn c0 c1 c2 c3 c4 en : Nat) (ls0 : Int32) (f0 f1 f2 f3 : Nat → Int32) (f4 : Nat → Int64) (k : Nat) (m_sn : sn ∈ L) (m_c0 : c0 ∈ L) (m_c1 : c1 ∈ L) (m_c2 : c2 ∈ L) (m_c3 : c3 ∈ L) (m_c4 : c4 ∈ L) (h_sn : g sn = .inr (6, [.ref (ad c0), .ref (ad c1), .ref (ad c2), .ref (ad c3), .ref (ad c4), .int (nI en), .int ls0])) (h_c0 : g c0 = .inl (ty 0, 200, .inl f0)) (h_c1 : g c1 = .inl (ty 0, 200, .inl f1)) (h_c2 : g c2 = .inl (ty 0, 200, .inl f2)) (h_c3 : g c3 = .inl (ty 0, 200, .inl f3)) (h_c4 : g c4 = .inl (ty 1, 200, .inr (.inl f4))) (hk : k < en) (he : en ≤ 200) : m_E l yX6_told wsX6_told 2 42 D ty [.ref (ad sn), .int (nI k), .int 1] L ad g (some (.int (f1 k))) g := by
  intro sz
  refine Met.ofW (cc := cX6_told) (maxL := 3) (ret := (some .int)) (by decide) rfl ?_
  intro p e s m args below meth c s₁ B hml hv
  have hx := B.exec
  have hb := B.bytes
  have hrt := B.returns
  have hts := atoms_spec (ws := wsX6_told) B.pre
  have hown : s.vm.findClass RX6 = some m.cls := findClass_of_methodNamed B.named
  have hlocks := B.notSynchronized
  obtain ⟨rfl, hB⟩ := m_start hv
  generalize va_A (m_w L ad g) sz = A at hB ⊢
  generalize s.heap = H at hB ⊢
  generalize ([] : List Loc) = locs at hB ⊢
  have hl := lv_entry ([.ref (ad sn), .int (nI k), .int 1]) (n := 3) (Nat.le_of_ble_eq_true rfl)
  rw [lg_entry_eq]
  generalize (lg_sl ([.ref (ad sn), .int (nI k), .int 1]) ++ List.replicate (3 - (lg_sl ([.ref (ad sn), .int (nI k), .int 1])).length) Slot.unset).toArray = ls at hl ⊢
  have hl : lv_has ls 3 [(0, .ref (ad sn)), (1, .int (nI k)), (2, .int 1)] := hl
  refine lv_aload_n hx hb dX6_told_0 rfl (lv_at hl 0 rfl) ?_
  refine lv_iload_n hx hb dX6_told_1 rfl (lv_at hl 1 rfl) ?_
  refine m_callVE (ci := 6) (As := [.int (nI k)]) (rest := []) (c_Seen_isEntry_t l D ty L ad g sn c0 c1 c2 c3 c4 en ls0 k m_sn h_sn hk he) ⟨hx, hb, hml, hown, hts⟩ (cwV 1 hts gX6_told_X6_isEntry rfl rfl rfl (by decide +kernel) ⟨Nat.le_of_ble_eq_true rfl, Nat.le_of_ble_eq_true rfl⟩) hB m_sn h_sn rfl rfl hl.1 rfl (Nat.le_of_ble_eq_true rfl) dX6_told_2 ⟨Nat.le_of_ble_eq_true rfl, Nat.le_of_ble_eq_true rfl⟩ (fun H locs hB => ?_)
  refine b_if_ne_t 10 hx hb dX6_told_5 (by decide) (by decide) ?_
  refine lv_iload_n hx hb dX6_told_10 rfl (lv_at hl 2 rfl) ?_
  refine lv_tableIn (off := 36) (tgt := 47) hx hb dX6_told_11 (by decide) (by decide) (by decide) (by decide) ?_
  refine lv_aload_n hx hb dX6_told_47 rfl (lv_at hl 0 rfl) ?_
  refine m_get (C := RX6) (T := TX6) (N := 7) (ci := 6) hx hb hts in_X6_told_X6 hown hB m_sn h_sn rfl 1 (by decide) (hts (.fieldLink RX6 15 "PaperRoom$Seen" "bidders" "[I") (by decide +kernel)) (fun _ h9 => h9) rfl dX6_told_48 ?_
  refine lv_iload_n hx hb dX6_told_51 rfl (lv_at hl 1 rfl) ?_
  refine n_iald hx hb hB m_c1 h_c1 k rfl (by omega) (by omega) dX6_told_52 ?_
  exact m_iret hx hb hrt hlocks hB (Nat.le_refl _) (Nat.le_refl _) dX6_told_53 ⟨rfl, rfl, rfl, rfl⟩
set_option maxHeartbeats 1000000 in
set_option maxRecDepth 100000 in
theorem c_Seen_told_2 (l : Launch) (D : va_G) (ty : Nat → ClassId) (L : List Nat) (ad : Nat → Nat) (g : Nat → va_E) (sn c0 c1 c2 c3 c4 en : Nat) (ls0 : Int32) (f0 f1 f2 f3 : Nat → Int32) (f4 : Nat → Int64) (k : Nat) (m_sn : sn ∈ L) (m_c0 : c0 ∈ L) (m_c1 : c1 ∈ L) (m_c2 : c2 ∈ L) (m_c3 : c3 ∈ L) (m_c4 : c4 ∈ L) (h_sn : g sn = .inr (6, [.ref (ad c0), .ref (ad c1), .ref (ad c2), .ref (ad c3), .ref (ad c4), .int (nI en), .int ls0])) (h_c0 : g c0 = .inl (ty 0, 200, .inl f0)) (h_c1 : g c1 = .inl (ty 0, 200, .inl f1)) (h_c2 : g c2 = .inl (ty 0, 200, .inl f2)) (h_c3 : g c3 = .inl (ty 0, 200, .inl f3)) (h_c4 : g c4 = .inl (ty 1, 200, .inr (.inl f4))) (hk : k < en) (he : en ≤ 200) : m_E l yX6_told wsX6_told 2 42 D ty [.ref (ad sn), .int (nI k), .int 2] L ad g (some (.int (f2 k))) g := by
  intro sz
  refine Met.ofW (cc := cX6_told) (maxL := 3) (ret := (some .int)) (by decide) rfl ?_
  intro p e s m args below meth c s₁ B hml hv
  have hx := B.exec
  have hb := B.bytes
  have hrt := B.returns
  have hts := atoms_spec (ws := wsX6_told) B.pre
  have hown : s.vm.findClass RX6 = some m.cls := findClass_of_methodNamed B.named
  have hlocks := B.notSynchronized
  obtain ⟨rfl, hB⟩ := m_start hv
  generalize va_A (m_w L ad g) sz = A at hB ⊢
  generalize s.heap = H at hB ⊢
  generalize ([] : List Loc) = locs at hB ⊢
  have hl := lv_entry ([.ref (ad sn), .int (nI k), .int 2]) (n := 3) (Nat.le_of_ble_eq_true rfl)
  rw [lg_entry_eq]
  generalize (lg_sl ([.ref (ad sn), .int (nI k), .int 2]) ++ List.replicate (3 - (lg_sl ([.ref (ad sn), .int (nI k), .int 2])).length) Slot.unset).toArray = ls at hl ⊢
  have hl : lv_has ls 3 [(0, .ref (ad sn)), (1, .int (nI k)), (2, .int 2)] := hl
  refine lv_aload_n hx hb dX6_told_0 rfl (lv_at hl 0 rfl) ?_
  refine lv_iload_n hx hb dX6_told_1 rfl (lv_at hl 1 rfl) ?_
  refine m_callVE (ci := 6) (As := [.int (nI k)]) (rest := []) (c_Seen_isEntry_t l D ty L ad g sn c0 c1 c2 c3 c4 en ls0 k m_sn h_sn hk he) ⟨hx, hb, hml, hown, hts⟩ (cwV 1 hts gX6_told_X6_isEntry rfl rfl rfl (by decide +kernel) ⟨Nat.le_of_ble_eq_true rfl, Nat.le_of_ble_eq_true rfl⟩) hB m_sn h_sn rfl rfl hl.1 rfl (Nat.le_of_ble_eq_true rfl) dX6_told_2 ⟨Nat.le_of_ble_eq_true rfl, Nat.le_of_ble_eq_true rfl⟩ (fun H locs hB => ?_)
  refine b_if_ne_t 10 hx hb dX6_told_5 (by decide) (by decide) ?_
  refine lv_iload_n hx hb dX6_told_10 rfl (lv_at hl 2 rfl) ?_
  refine lv_tableIn (off := 43) (tgt := 54) hx hb dX6_told_11 (by decide) (by decide) (by decide) (by decide) ?_
  refine lv_aload_n hx hb dX6_told_54 rfl (lv_at hl 0 rfl) ?_
  refine m_get (C := RX6) (T := TX6) (N := 7) (ci := 6) hx hb hts in_X6_told_X6 hown hB m_sn h_sn rfl 2 (by decide) (hts (.fieldLink RX6 18 "PaperRoom$Seen" "papers" "[I") (by decide +kernel)) (fun _ h9 => h9) rfl dX6_told_55 ?_
  refine lv_iload_n hx hb dX6_told_58 rfl (lv_at hl 1 rfl) ?_
  refine n_iald hx hb hB m_c2 h_c2 k rfl (by omega) (by omega) dX6_told_59 ?_
  exact m_iret hx hb hrt hlocks hB (Nat.le_refl _) (Nat.le_refl _) dX6_told_60 ⟨rfl, rfl, rfl, rfl⟩
set_option maxHeartbeats 1000000 in
set_option maxRecDepth 100000 in
theorem c_Seen_told_3 (l : Launch) (D : va_G) (ty : Nat → ClassId) (L : List Nat) (ad : Nat → Nat) (g : Nat → va_E) (sn c0 c1 c2 c3 c4 en : Nat) (ls0 : Int32) (f0 f1 f2 f3 : Nat → Int32) (f4 : Nat → Int64) (k : Nat) (m_sn : sn ∈ L) (m_c0 : c0 ∈ L) (m_c1 : c1 ∈ L) (m_c2 : c2 ∈ L) (m_c3 : c3 ∈ L) (m_c4 : c4 ∈ L) (h_sn : g sn = .inr (6, [.ref (ad c0), .ref (ad c1), .ref (ad c2), .ref (ad c3), .ref (ad c4), .int (nI en), .int ls0])) (h_c0 : g c0 = .inl (ty 0, 200, .inl f0)) (h_c1 : g c1 = .inl (ty 0, 200, .inl f1)) (h_c2 : g c2 = .inl (ty 0, 200, .inl f2)) (h_c3 : g c3 = .inl (ty 0, 200, .inl f3)) (h_c4 : g c4 = .inl (ty 1, 200, .inr (.inl f4))) (hk : k < en) (he : en ≤ 200) : m_E l yX6_told wsX6_told 2 42 D ty [.ref (ad sn), .int (nI k), .int 3] L ad g (some (.int (f3 k))) g := by
  intro sz
  refine Met.ofW (cc := cX6_told) (maxL := 3) (ret := (some .int)) (by decide) rfl ?_
  intro p e s m args below meth c s₁ B hml hv
  have hx := B.exec
  have hb := B.bytes
  have hrt := B.returns
  have hts := atoms_spec (ws := wsX6_told) B.pre
  have hown : s.vm.findClass RX6 = some m.cls := findClass_of_methodNamed B.named
  have hlocks := B.notSynchronized
  obtain ⟨rfl, hB⟩ := m_start hv
  generalize va_A (m_w L ad g) sz = A at hB ⊢
  generalize s.heap = H at hB ⊢
  generalize ([] : List Loc) = locs at hB ⊢
  have hl := lv_entry ([.ref (ad sn), .int (nI k), .int 3]) (n := 3) (Nat.le_of_ble_eq_true rfl)
  rw [lg_entry_eq]
  generalize (lg_sl ([.ref (ad sn), .int (nI k), .int 3]) ++ List.replicate (3 - (lg_sl ([.ref (ad sn), .int (nI k), .int 3])).length) Slot.unset).toArray = ls at hl ⊢
  have hl : lv_has ls 3 [(0, .ref (ad sn)), (1, .int (nI k)), (2, .int 3)] := hl
  refine lv_aload_n hx hb dX6_told_0 rfl (lv_at hl 0 rfl) ?_
  refine lv_iload_n hx hb dX6_told_1 rfl (lv_at hl 1 rfl) ?_
  refine m_callVE (ci := 6) (As := [.int (nI k)]) (rest := []) (c_Seen_isEntry_t l D ty L ad g sn c0 c1 c2 c3 c4 en ls0 k m_sn h_sn hk he) ⟨hx, hb, hml, hown, hts⟩ (cwV 1 hts gX6_told_X6_isEntry rfl rfl rfl (by decide +kernel) ⟨Nat.le_of_ble_eq_true rfl, Nat.le_of_ble_eq_true rfl⟩) hB m_sn h_sn rfl rfl hl.1 rfl (Nat.le_of_ble_eq_true rfl) dX6_told_2 ⟨Nat.le_of_ble_eq_true rfl, Nat.le_of_ble_eq_true rfl⟩ (fun H locs hB => ?_)
  refine b_if_ne_t 10 hx hb dX6_told_5 (by decide) (by decide) ?_
  refine lv_iload_n hx hb dX6_told_10 rfl (lv_at hl 2 rfl) ?_
  refine lv_tableIn (off := 50) (tgt := 61) hx hb dX6_told_11 (by decide) (by decide) (by decide) (by decide) ?_
  refine lv_aload_n hx hb dX6_told_61 rfl (lv_at hl 0 rfl) ?_
  refine m_get (C := RX6) (T := TX6) (N := 7) (ci := 6) hx hb hts in_X6_told_X6 hown hB m_sn h_sn rfl 3 (by decide) (hts (.fieldLink RX6 21 "PaperRoom$Seen" "versions" "[I") (by decide +kernel)) (fun _ h9 => h9) rfl dX6_told_62 ?_
  refine lv_iload_n hx hb dX6_told_65 rfl (lv_at hl 1 rfl) ?_
  refine n_iald hx hb hB m_c3 h_c3 k rfl (by omega) (by omega) dX6_told_66 ?_
  exact m_iret hx hb hrt hlocks hB (Nat.le_refl _) (Nat.le_refl _) dX6_told_67 ⟨rfl, rfl, rfl, rfl⟩
set_option maxHeartbeats 1000000 in
set_option maxRecDepth 100000 in
theorem c_Seen_told_x (l : Launch) (D : va_G) (ty : Nat → ClassId) (L : List Nat) (ad : Nat → Nat) (g : Nat → va_E) (sn c0 c1 c2 c3 c4 en : Nat) (ls0 : Int32) (f0 f1 f2 f3 : Nat → Int32) (f4 : Nat → Int64) (k : Nat) (w : Int32) (m_sn : sn ∈ L) (m_c0 : c0 ∈ L) (m_c1 : c1 ∈ L) (m_c2 : c2 ∈ L) (m_c3 : c3 ∈ L) (m_c4 : c4 ∈ L) (h_sn : g sn = .inr (6, [.ref (ad c0), .ref (ad c1), .ref (ad c2), .ref (ad c3), .ref (ad c4), .int (nI en), .int ls0])) (h_c0 : g c0 = .inl (ty 0, 200, .inl f0)) (h_c1 : g c1 = .inl (ty 0, 200, .inl f1)) (h_c2 : g c2 = .inl (ty 0, 200, .inl f2)) (h_c3 : g c3 = .inl (ty 0, 200, .inl f3)) (h_c4 : g c4 = .inl (ty 1, 200, .inr (.inl f4))) (hk : k < en) (he : en ≤ 200) (hw : w.toInt < 0 ∨ 3 < w.toInt) : m_E l yX6_told wsX6_told 2 42 D ty [.ref (ad sn), .int (nI k), .int w] L ad g (some (.int (-1))) g := by
  intro sz
  refine Met.ofW (cc := cX6_told) (maxL := 3) (ret := (some .int)) (by decide) rfl ?_
  intro p e s m args below meth c s₁ B hml hv
  have hx := B.exec
  have hb := B.bytes
  have hrt := B.returns
  have hts := atoms_spec (ws := wsX6_told) B.pre
  have hown : s.vm.findClass RX6 = some m.cls := findClass_of_methodNamed B.named
  have hlocks := B.notSynchronized
  obtain ⟨rfl, hB⟩ := m_start hv
  generalize va_A (m_w L ad g) sz = A at hB ⊢
  generalize s.heap = H at hB ⊢
  generalize ([] : List Loc) = locs at hB ⊢
  have hl := lv_entry ([.ref (ad sn), .int (nI k), .int w]) (n := 3) (Nat.le_of_ble_eq_true rfl)
  rw [lg_entry_eq]
  generalize (lg_sl ([.ref (ad sn), .int (nI k), .int w]) ++ List.replicate (3 - (lg_sl ([.ref (ad sn), .int (nI k), .int w])).length) Slot.unset).toArray = ls at hl ⊢
  have hl : lv_has ls 3 [(0, .ref (ad sn)), (1, .int (nI k)), (2, .int w)] := hl
  refine lv_aload_n hx hb dX6_told_0 rfl (lv_at hl 0 rfl) ?_
  refine lv_iload_n hx hb dX6_told_1 rfl (lv_at hl 1 rfl) ?_
  refine m_callVE (ci := 6) (As := [.int (nI k)]) (rest := []) (c_Seen_isEntry_t l D ty L ad g sn c0 c1 c2 c3 c4 en ls0 k m_sn h_sn hk he) ⟨hx, hb, hml, hown, hts⟩ (cwV 1 hts gX6_told_X6_isEntry rfl rfl rfl (by decide +kernel) ⟨Nat.le_of_ble_eq_true rfl, Nat.le_of_ble_eq_true rfl⟩) hB m_sn h_sn rfl rfl hl.1 rfl (Nat.le_of_ble_eq_true rfl) dX6_told_2 ⟨Nat.le_of_ble_eq_true rfl, Nat.le_of_ble_eq_true rfl⟩ (fun H locs hB => ?_)
  refine b_if_ne_t 10 hx hb dX6_told_5 (by decide) (by decide) ?_
  refine lv_iload_n hx hb dX6_told_10 rfl (lv_at hl 2 rfl) ?_
  refine lv_tableOut (tgt := 68) hx hb dX6_told_11 (by omega) (by decide) ?_
  refine lv_iconst (v := (-1)) hx hb dX6_told_68 (by decide) ?_
  exact m_iret hx hb hrt hlocks hB (Nat.le_refl _) (Nat.le_refl _) dX6_told_69 ⟨rfl, rfl, rfl, rfl⟩
set_option maxHeartbeats 1000000 in
set_option maxRecDepth 100000 in
theorem c_Seen_told_f (l : Launch) (D : va_G) (ty : Nat → ClassId) (L : List Nat) (ad : Nat → Nat) (g : Nat → va_E) (sn c0 c1 c2 c3 c4 en : Nat) (ls0 : Int32) (i w : Int32) (m_sn : sn ∈ L) (h_sn : g sn = .inr (6, [.ref (ad c0), .ref (ad c1), .ref (ad c2), .ref (ad c3), .ref (ad c4), .int (nI en), .int ls0])) (hi : ¬ (0 ≤ i.toInt ∧ i.toInt < (nI en).toInt)) : m_E l yX6_told wsX6_told 2 42 D ty [.ref (ad sn), .int i, .int w] L ad g (some (.int (-1))) g := by
  intro sz
  refine Met.ofW (cc := cX6_told) (maxL := 3) (ret := (some .int)) (by decide) rfl ?_
  intro p e s m args below meth c s₁ B hml hv
  have hx := B.exec
  have hb := B.bytes
  have hrt := B.returns
  have hts := atoms_spec (ws := wsX6_told) B.pre
  have hown : s.vm.findClass RX6 = some m.cls := findClass_of_methodNamed B.named
  have hlocks := B.notSynchronized
  obtain ⟨rfl, hB⟩ := m_start hv
  generalize va_A (m_w L ad g) sz = A at hB ⊢
  generalize s.heap = H at hB ⊢
  generalize ([] : List Loc) = locs at hB ⊢
  have hl := lv_entry ([.ref (ad sn), .int i, .int w]) (n := 3) (Nat.le_of_ble_eq_true rfl)
  rw [lg_entry_eq]
  generalize (lg_sl ([.ref (ad sn), .int i, .int w]) ++ List.replicate (3 - (lg_sl ([.ref (ad sn), .int i, .int w])).length) Slot.unset).toArray = ls at hl ⊢
  have hl : lv_has ls 3 [(0, .ref (ad sn)), (1, .int i), (2, .int w)] := hl
  refine lv_aload_n hx hb dX6_told_0 rfl (lv_at hl 0 rfl) ?_
  refine lv_iload_n hx hb dX6_told_1 rfl (lv_at hl 1 rfl) ?_
  refine m_callVE (ci := 6) (As := [.int i]) (rest := []) (c_Seen_isEntry_f l D ty L ad g sn c0 c1 c2 c3 c4 en ls0 i m_sn h_sn hi) ⟨hx, hb, hml, hown, hts⟩ (cwV 1 hts gX6_told_X6_isEntry rfl rfl rfl (by decide +kernel) ⟨Nat.le_of_ble_eq_true rfl, Nat.le_of_ble_eq_true rfl⟩) hB m_sn h_sn rfl rfl hl.1 rfl (Nat.le_of_ble_eq_true rfl) dX6_told_2 ⟨Nat.le_of_ble_eq_true rfl, Nat.le_of_ble_eq_true rfl⟩ (fun H locs hB => ?_)
  refine b_if_ne_f 10 hx hb dX6_told_5 (by decide) (by decide) ?_
  refine lv_iconst (v := (-1)) hx hb dX6_told_8 (by decide) ?_
  exact m_iret hx hb hrt hlocks hB (Nat.le_refl _) (Nat.le_refl _) dX6_told_9 ⟨rfl, rfl, rfl, rfl⟩
set_option maxRecDepth 20000 in
theorem in_X6_link_X6 : ∀ w ∈ wsX60, w ∈ wsX6_link := by decide +kernel
set_option maxHeartbeats 1000000 in
set_option maxRecDepth 100000 in
theorem c_Seen_link_t (l : Launch) (D : va_G) (ty : Nat → ClassId) (L : List Nat) (ad : Nat → Nat) (g : Nat → va_E) (sn c0 c1 c2 c3 c4 en : Nat) (ls0 : Int32) (f0 f1 f2 f3 : Nat → Int32) (f4 : Nat → Int64) (k : Nat) (m_sn : sn ∈ L) (m_c0 : c0 ∈ L) (m_c1 : c1 ∈ L) (m_c2 : c2 ∈ L) (m_c3 : c3 ∈ L) (m_c4 : c4 ∈ L) (h_sn : g sn = .inr (6, [.ref (ad c0), .ref (ad c1), .ref (ad c2), .ref (ad c3), .ref (ad c4), .int (nI en), .int ls0])) (h_c0 : g c0 = .inl (ty 0, 200, .inl f0)) (h_c1 : g c1 = .inl (ty 0, 200, .inl f1)) (h_c2 : g c2 = .inl (ty 0, 200, .inl f2)) (h_c3 : g c3 = .inl (ty 0, 200, .inl f3)) (h_c4 : g c4 = .inl (ty 1, 200, .inr (.inl f4))) (hk : k < en) (he : en ≤ 200) : m_E l yX6_link wsX6_link 2 42 D ty [.ref (ad sn), .int (nI k)] L ad g (some (.long (f4 k))) g := by
  intro sz
  refine Met.ofW (cc := cX6_link) (maxL := 2) (ret := (some .long)) (by decide) rfl ?_
  intro p e s m args below meth c s₁ B hml hv
  have hx := B.exec
  have hb := B.bytes
  have hrt := B.returns
  have hts := atoms_spec (ws := wsX6_link) B.pre
  have hown : s.vm.findClass RX6 = some m.cls := findClass_of_methodNamed B.named
  have hlocks := B.notSynchronized
  obtain ⟨rfl, hB⟩ := m_start hv
  generalize va_A (m_w L ad g) sz = A at hB ⊢
  generalize s.heap = H at hB ⊢
  generalize ([] : List Loc) = locs at hB ⊢
  have hl := lv_entry ([.ref (ad sn), .int (nI k)]) (n := 2) (Nat.le_of_ble_eq_true rfl)
  rw [lg_entry_eq]
  generalize (lg_sl ([.ref (ad sn), .int (nI k)]) ++ List.replicate (2 - (lg_sl ([.ref (ad sn), .int (nI k)])).length) Slot.unset).toArray = ls at hl ⊢
  have hl : lv_has ls 2 [(0, .ref (ad sn)), (1, .int (nI k))] := hl
  refine lv_aload_n hx hb dX6_link_0 rfl (lv_at hl 0 rfl) ?_
  refine lv_iload_n hx hb dX6_link_1 rfl (lv_at hl 1 rfl) ?_
  refine m_callVE (ci := 6) (As := [.int (nI k)]) (rest := []) (c_Seen_isEntry_t l D ty L ad g sn c0 c1 c2 c3 c4 en ls0 k m_sn h_sn hk he) ⟨hx, hb, hml, hown, hts⟩ (cwV 1 hts gX6_link_X6_isEntry rfl rfl rfl (by decide +kernel) ⟨Nat.le_of_ble_eq_true rfl, Nat.le_of_ble_eq_true rfl⟩) hB m_sn h_sn rfl rfl hl.1 rfl (Nat.le_of_ble_eq_true rfl) dX6_link_2 ⟨Nat.le_of_ble_eq_true rfl, Nat.le_of_ble_eq_true rfl⟩ (fun H locs hB => ?_)
  refine b_if_eq_f 17 hx hb dX6_link_5 (by decide) (by decide) ?_
  refine lv_aload_n hx hb dX6_link_8 rfl (lv_at hl 0 rfl) ?_
  refine m_get (C := RX6) (T := TX6) (N := 7) (ci := 6) hx hb hts in_X6_link_X6 hown hB m_sn h_sn rfl 4 (by decide) (hts (.fieldLink RX6 24 "PaperRoom$Seen" "links" "[J") (by decide +kernel)) (fun _ h9 => h9) rfl dX6_link_9 ?_
  refine lv_iload_n hx hb dX6_link_12 rfl (lv_at hl 1 rfl) ?_
  refine n_lald hx hb hB m_c4 h_c4 k rfl (by omega) (by omega) dX6_link_13 ?_
  refine lv_goto (tgt := 18) hx hb dX6_link_14 (by decide) ?_
  exact m_lret hx hb hrt hlocks hB (Nat.le_refl _) (Nat.le_refl _) dX6_link_18 ⟨rfl, rfl, rfl, rfl⟩
set_option maxHeartbeats 1000000 in
set_option maxRecDepth 100000 in
theorem c_Seen_link_f (l : Launch) (D : va_G) (ty : Nat → ClassId) (L : List Nat) (ad : Nat → Nat) (g : Nat → va_E) (sn c0 c1 c2 c3 c4 en : Nat) (ls0 : Int32) (i : Int32) (m_sn : sn ∈ L) (h_sn : g sn = .inr (6, [.ref (ad c0), .ref (ad c1), .ref (ad c2), .ref (ad c3), .ref (ad c4), .int (nI en), .int ls0])) (hi : ¬ (0 ≤ i.toInt ∧ i.toInt < (nI en).toInt)) : m_E l yX6_link wsX6_link 2 42 D ty [.ref (ad sn), .int i] L ad g (some (.long 0)) g := by
  intro sz
  refine Met.ofW (cc := cX6_link) (maxL := 2) (ret := (some .long)) (by decide) rfl ?_
  intro p e s m args below meth c s₁ B hml hv
  have hx := B.exec
  have hb := B.bytes
  have hrt := B.returns
  have hts := atoms_spec (ws := wsX6_link) B.pre
  have hown : s.vm.findClass RX6 = some m.cls := findClass_of_methodNamed B.named
  have hlocks := B.notSynchronized
  obtain ⟨rfl, hB⟩ := m_start hv
  generalize va_A (m_w L ad g) sz = A at hB ⊢
  generalize s.heap = H at hB ⊢
  generalize ([] : List Loc) = locs at hB ⊢
  have hl := lv_entry ([.ref (ad sn), .int i]) (n := 2) (Nat.le_of_ble_eq_true rfl)
  rw [lg_entry_eq]
  generalize (lg_sl ([.ref (ad sn), .int i]) ++ List.replicate (2 - (lg_sl ([.ref (ad sn), .int i])).length) Slot.unset).toArray = ls at hl ⊢
  have hl : lv_has ls 2 [(0, .ref (ad sn)), (1, .int i)] := hl
  refine lv_aload_n hx hb dX6_link_0 rfl (lv_at hl 0 rfl) ?_
  refine lv_iload_n hx hb dX6_link_1 rfl (lv_at hl 1 rfl) ?_
  refine m_callVE (ci := 6) (As := [.int i]) (rest := []) (c_Seen_isEntry_f l D ty L ad g sn c0 c1 c2 c3 c4 en ls0 i m_sn h_sn hi) ⟨hx, hb, hml, hown, hts⟩ (cwV 1 hts gX6_link_X6_isEntry rfl rfl rfl (by decide +kernel) ⟨Nat.le_of_ble_eq_true rfl, Nat.le_of_ble_eq_true rfl⟩) hB m_sn h_sn rfl rfl hl.1 rfl (Nat.le_of_ble_eq_true rfl) dX6_link_2 ⟨Nat.le_of_ble_eq_true rfl, Nat.le_of_ble_eq_true rfl⟩ (fun H locs hB => ?_)
  refine b_if_eq_t 17 hx hb dX6_link_5 (by decide) (by decide) ?_
  refine lv_lconst (v := 0) hx hb dX6_link_17 (by decide) ?_
  exact m_lret hx hb hrt hlocks hB (Nat.le_refl _) (Nat.le_refl _) dX6_link_18 ⟨rfl, rfl, rfl, rfl⟩
