set_option maxHeartbeats 1000000 in
set_option maxRecDepth 100000 in
theorem c_X_search_bad (l : Launch) (D : va_G) (ty : Nat → ClassId) (L : List Nat) (ad : Nat → Nat) (g : Nat → va_E) (pn qn : Nat) (nw : Int32) (tr : Int64) (i : Int32) (m_0 : 0 ∈ L) (h_0 : g 0 = .inr (8, [.ref (ad 1), .ref (ad 3), .ref (ad 6), .int (nI pn), .ref (ad 7), .ref (ad 20), .ref (ad 22), .ref (ad 28), .int (nI qn), .ref (ad 29), .int nw, .long tr])) (hi : ¬ (0 ≤ i.toInt ∧ i.toInt < 6)) : m_E l yX8_search wsX8_search 6 136 D ty [.ref (ad 0), .int i] L ad g (some (.int (-1))) g := by
  intro sz
  refine Met.ofW (cc := cX8_search) (maxL := 4) (ret := (some .int)) (by decide) rfl ?_
  intro p e s m args below meth c s₁ B hml hv
  have hx := B.exec
  have hb := B.bytes
  have hrt := B.returns
  have hts := atoms_spec (ws := wsX8_search) B.pre
  have hown : s.vm.findClass RX8 = some m.cls := findClass_of_methodNamed B.named
  have hlocks := B.notSynchronized
  obtain ⟨rfl, hB⟩ := m_start hv
  generalize va_A (m_w L ad g) sz = A at hB ⊢
  generalize s.heap = H at hB ⊢
  generalize ([] : List Loc) = locs at hB ⊢
  have hl := lv_entry ([.ref (ad 0), .int i]) (n := 4) (Nat.le_of_ble_eq_true rfl)
  rw [lg_entry_eq]
  generalize (lg_sl ([.ref (ad 0), .int i]) ++ List.replicate (4 - (lg_sl ([.ref (ad 0), .int i])).length) Slot.unset).toArray = ls at hl ⊢
  have hl : lv_has ls 4 [(0, .ref (ad 0)), (1, .int i)] := hl
  have l6 : (6 : Int32).toInt = 6 := by decide
  refine lv_iload_n hx hb dX8_search_0 rfl (lv_at hl 1 rfl) ?_
  refine lv_bipush (v := 6) hx hb dX8_search_1 (by decide) ?_
  refine m_callSE (As := [.int i, .int 6]) (rest := []) (c_isBelow_f l D ty L ad _ _ _ (by omega)) ⟨hx, hb, hml, hown, hts⟩ (va_cwS 2 hts gX8_search_X8_isBelow rfl rfl rfl (by decide +kernel) ⟨Nat.le_of_ble_eq_true rfl, Nat.le_of_ble_eq_true rfl⟩) hB rfl hl.1 rfl (Nat.le_of_ble_eq_true rfl) dX8_search_3 ⟨Nat.le_of_ble_eq_true rfl, Nat.le_of_ble_eq_true rfl⟩ (fun H locs hB => ?_)
  refine b_if_ne_f 11 hx hb dX8_search_6 (by decide) (by decide) ?_
  refine lv_iconst (v := (-1)) hx hb dX8_search_9 (by decide) ?_
  exact m_iret hx hb hrt hlocks hB (Nat.le_refl _) (Nat.le_refl _) dX8_search_10 ⟨rfl, rfl, rfl, rfl⟩
set_option maxRecDepth 20000 in
theorem in_X8_search_X8 : ∀ w ∈ wsX80, w ∈ wsX8_search := by decide +kernel
set_option maxHeartbeats 1000000 in
set_option maxRecDepth 100000 in
theorem c_X_search_s1 (l : Launch) (D : va_G) (ty : Nat → ClassId) (L : List Nat) (ad : Nat → Nat) (g : Nat → va_E) (pn qn : Nat) (nw : Int32) (tr : Int64) (dn b : Nat) (m_0 : 0 ∈ L) (m_1 : 1 ∈ L) (h_0 : g 0 = .inr (8, [.ref (ad 1), .ref (ad 3), .ref (ad 6), .int (nI pn), .ref (ad 7), .ref (ad 20), .ref (ad 22), .ref (ad 28), .int (nI qn), .ref (ad 29), .int nw, .long tr])) (h_1 : g 1 = .inr (5, [.ref (ad 2), .int (nI dn)])) (hb6 : b < 6) (hd : dn = 0) : m_E l yX8_search wsX8_search 6 136 D ty [.ref (ad 0), .int (nI b)] L ad g (some (.int (-2))) g := by
  intro sz
  refine Met.ofW (cc := cX8_search) (maxL := 4) (ret := (some .int)) (by decide) rfl ?_
  intro p e s m args below meth c s₁ B hml hv
  have hx := B.exec
  have hb := B.bytes
  have hrt := B.returns
  have hts := atoms_spec (ws := wsX8_search) B.pre
  have hown : s.vm.findClass RX8 = some m.cls := findClass_of_methodNamed B.named
  have hlocks := B.notSynchronized
  obtain ⟨rfl, hB⟩ := m_start hv
  generalize va_A (m_w L ad g) sz = A at hB ⊢
  generalize s.heap = H at hB ⊢
  generalize ([] : List Loc) = locs at hB ⊢
  have hl := lv_entry ([.ref (ad 0), .int (nI b)]) (n := 4) (Nat.le_of_ble_eq_true rfl)
  rw [lg_entry_eq]
  generalize (lg_sl ([.ref (ad 0), .int (nI b)]) ++ List.replicate (4 - (lg_sl ([.ref (ad 0), .int (nI b)])).length) Slot.unset).toArray = ls at hl ⊢
  have hl : lv_has ls 4 [(0, .ref (ad 0)), (1, .int (nI b))] := hl
  have tI_b : (nI b).toInt = (b : Int) := nI_toInt (by omega)
  have l6 : (6 : Int32).toInt = 6 := by decide
  refine lv_iload_n hx hb dX8_search_0 rfl (lv_at hl 1 rfl) ?_
  refine lv_bipush (v := 6) hx hb dX8_search_1 (by decide) ?_
  refine m_callSE (As := [.int (nI b), .int 6]) (rest := []) (c_isBelow_t l D ty L ad _ _ _ (by omega) (by omega)) ⟨hx, hb, hml, hown, hts⟩ (va_cwS 2 hts gX8_search_X8_isBelow rfl rfl rfl (by decide +kernel) ⟨Nat.le_of_ble_eq_true rfl, Nat.le_of_ble_eq_true rfl⟩) hB rfl hl.1 rfl (Nat.le_of_ble_eq_true rfl) dX8_search_3 ⟨Nat.le_of_ble_eq_true rfl, Nat.le_of_ble_eq_true rfl⟩ (fun H locs hB => ?_)
  refine b_if_ne_t 11 hx hb dX8_search_6 (by decide) (by decide) ?_
  refine lv_aload_n hx hb dX8_search_11 rfl (lv_at hl 0 rfl) ?_
  refine m_get (C := RX8) (T := TX8) (N := 12) (ci := 8) hx hb hts in_X8_search_X8 hown hB m_0 h_0 rfl 0 (by decide) (hts (.fieldLink RX8 14 "PaperRoom" "draft" "LPaperRoom$Row;") (by decide +kernel)) (fun _ h9 => h9) rfl dX8_search_12 ?_
  refine m_callVE (ci := 5) (As := []) (rest := []) (c_Row_length l D ty L ad g 1 2 dn m_1 h_1) ⟨hx, hb, hml, hown, hts⟩ (cwV 0 hts gX8_search_X5_length rfl rfl rfl (by decide +kernel) ⟨Nat.le_of_ble_eq_true rfl, Nat.le_of_ble_eq_true rfl⟩) hB m_1 h_1 rfl rfl hl.1 rfl (Nat.le_of_ble_eq_true rfl) dX8_search_15 ⟨Nat.le_of_ble_eq_true rfl, Nat.le_of_ble_eq_true rfl⟩ (fun H locs hB => ?_)
  refine b_if_eq_t 33 hx hb dX8_search_18 (by decide) (by rw [hd]; decide) ?_
  refine lv_bipush (v := (-2)) hx hb dX8_search_33 (by decide) ?_
  exact m_iret hx hb hrt hlocks hB (Nat.le_refl _) (Nat.le_refl _) dX8_search_35 ⟨rfl, rfl, rfl, rfl⟩
set_option maxHeartbeats 1000000 in
set_option maxRecDepth 100000 in
theorem c_X_search_s2 (l : Launch) (D : va_G) (ty : Nat → ClassId) (L : List Nat) (ad : Nat → Nat) (g : Nat → va_E) (pn qn : Nat) (nw : Int32) (tr : Int64) (dn b : Nat) (m_0 : 0 ∈ L) (m_1 : 1 ∈ L) (h_0 : g 0 = .inr (8, [.ref (ad 1), .ref (ad 3), .ref (ad 6), .int (nI pn), .ref (ad 7), .ref (ad 20), .ref (ad 22), .ref (ad 28), .int (nI qn), .ref (ad 29), .int nw, .long tr])) (h_1 : g 1 = .inr (5, [.ref (ad 2), .int (nI dn)])) (hb6 : b < 6) (hd : 20 < dn) (hdn : dn ≤ 40) : m_E l yX8_search wsX8_search 6 136 D ty [.ref (ad 0), .int (nI b)] L ad g (some (.int (-2))) g := by
  intro sz
  refine Met.ofW (cc := cX8_search) (maxL := 4) (ret := (some .int)) (by decide) rfl ?_
  intro p e s m args below meth c s₁ B hml hv
  have hx := B.exec
  have hb := B.bytes
  have hrt := B.returns
  have hts := atoms_spec (ws := wsX8_search) B.pre
  have hown : s.vm.findClass RX8 = some m.cls := findClass_of_methodNamed B.named
  have hlocks := B.notSynchronized
  obtain ⟨rfl, hB⟩ := m_start hv
  generalize va_A (m_w L ad g) sz = A at hB ⊢
  generalize s.heap = H at hB ⊢
  generalize ([] : List Loc) = locs at hB ⊢
  have hl := lv_entry ([.ref (ad 0), .int (nI b)]) (n := 4) (Nat.le_of_ble_eq_true rfl)
  rw [lg_entry_eq]
  generalize (lg_sl ([.ref (ad 0), .int (nI b)]) ++ List.replicate (4 - (lg_sl ([.ref (ad 0), .int (nI b)])).length) Slot.unset).toArray = ls at hl ⊢
  have hl : lv_has ls 4 [(0, .ref (ad 0)), (1, .int (nI b))] := hl
  have tI_b : (nI b).toInt = (b : Int) := nI_toInt (by omega)
  have l6 : (6 : Int32).toInt = 6 := by decide
  have tI_dn : (nI dn).toInt = (dn : Int) := nI_toInt (by omega)
  refine lv_iload_n hx hb dX8_search_0 rfl (lv_at hl 1 rfl) ?_
  refine lv_bipush (v := 6) hx hb dX8_search_1 (by decide) ?_
  refine m_callSE (As := [.int (nI b), .int 6]) (rest := []) (c_isBelow_t l D ty L ad _ _ _ (by omega) (by omega)) ⟨hx, hb, hml, hown, hts⟩ (va_cwS 2 hts gX8_search_X8_isBelow rfl rfl rfl (by decide +kernel) ⟨Nat.le_of_ble_eq_true rfl, Nat.le_of_ble_eq_true rfl⟩) hB rfl hl.1 rfl (Nat.le_of_ble_eq_true rfl) dX8_search_3 ⟨Nat.le_of_ble_eq_true rfl, Nat.le_of_ble_eq_true rfl⟩ (fun H locs hB => ?_)
  refine b_if_ne_t 11 hx hb dX8_search_6 (by decide) (by decide) ?_
  refine lv_aload_n hx hb dX8_search_11 rfl (lv_at hl 0 rfl) ?_
  refine m_get (C := RX8) (T := TX8) (N := 12) (ci := 8) hx hb hts in_X8_search_X8 hown hB m_0 h_0 rfl 0 (by decide) (hts (.fieldLink RX8 14 "PaperRoom" "draft" "LPaperRoom$Row;") (by decide +kernel)) (fun _ h9 => h9) rfl dX8_search_12 ?_
  refine m_callVE (ci := 5) (As := []) (rest := []) (c_Row_length l D ty L ad g 1 2 dn m_1 h_1) ⟨hx, hb, hml, hown, hts⟩ (cwV 0 hts gX8_search_X5_length rfl rfl rfl (by decide +kernel) ⟨Nat.le_of_ble_eq_true rfl, Nat.le_of_ble_eq_true rfl⟩) hB m_1 h_1 rfl rfl hl.1 rfl (Nat.le_of_ble_eq_true rfl) dX8_search_15 ⟨Nat.le_of_ble_eq_true rfl, Nat.le_of_ble_eq_true rfl⟩ (fun H locs hB => ?_)
  refine b_if_eq_f 33 hx hb dX8_search_18 (by decide) (by rw [nI_toInt (by omega)]; omega) ?_
  refine lv_aload_n hx hb dX8_search_21 rfl (lv_at hl 0 rfl) ?_
  refine m_get (C := RX8) (T := TX8) (N := 12) (ci := 8) hx hb hts in_X8_search_X8 hown hB m_0 h_0 rfl 0 (by decide) (hts (.fieldLink RX8 14 "PaperRoom" "draft" "LPaperRoom$Row;") (by decide +kernel)) (fun _ h9 => h9) rfl dX8_search_22 ?_
  refine m_callVE (ci := 5) (As := []) (rest := []) (c_Row_length l D ty L ad g 1 2 dn m_1 h_1) ⟨hx, hb, hml, hown, hts⟩ (cwV 0 hts gX8_search_X5_length rfl rfl rfl (by decide +kernel) ⟨Nat.le_of_ble_eq_true rfl, Nat.le_of_ble_eq_true rfl⟩) hB m_1 h_1 rfl rfl hl.1 rfl (Nat.le_of_ble_eq_true rfl) dX8_search_25 ⟨Nat.le_of_ble_eq_true rfl, Nat.le_of_ble_eq_true rfl⟩ (fun H locs hB => ?_)
  refine lv_bipush (v := 20) hx hb dX8_search_28 (by decide) ?_
  refine b_icmp_le_f 36 hx hb dX8_search_30 (by decide) (by have := (by decide : (20 : Int32).toInt = 20); omega) ?_
  refine lv_bipush (v := (-2)) hx hb dX8_search_33 (by decide) ?_
  exact m_iret hx hb hrt hlocks hB (Nat.le_refl _) (Nat.le_refl _) dX8_search_35 ⟨rfl, rfl, rfl, rfl⟩
set_option maxHeartbeats 1000000 in
set_option maxRecDepth 100000 in
theorem c_X_search_ok (l : Launch) (D : va_G) (ty : Nat → ClassId) (L : List Nat) (ad : Nat → Nat) (g : Nat → va_E) (pn qn : Nat) (nw : Int32) (tr : Int64) (pf : Nat → Option Nat) (dn b : Nat) (hh : Nat → Bool) (m_0 : 0 ∈ L) (m_1 : 1 ∈ L) (m_6 : 6 ∈ L) (h_0 : g 0 = .inr (8, [.ref (ad 1), .ref (ad 3), .ref (ad 6), .int (nI pn), .ref (ad 7), .ref (ad 20), .ref (ad 22), .ref (ad 28), .int (nI qn), .ref (ad 29), .int nw, .long tr])) (h_1 : g 1 = .inr (5, [.ref (ad 2), .int (nI dn)])) (h_6 : g 6 = .inl (ty 4, 8, .inr (.inr (.inr (.inr pf))))) (hb6 : b < 6) (hpn : pn ≤ 8) (hd : 1 ≤ dn) (hd20 : dn ≤ 20) (hcall : ∀ i, i < pn → ∃ r9, pf i = some r9 ∧ m_E l yX8_isFoundIn wsX8_isFoundIn 5 113 D ty [.ref (ad 0), .ref r9, .int (nI b)] L ad g (some (.int (zb (hh i)))) g) : m_E l yX8_search wsX8_search 6 136 D ty [.ref (ad 0), .int (nI b)] L ad g (some (.int (nI (cnt hh pn)))) g := by
  intro sz
  refine Met.ofW (cc := cX8_search) (maxL := 4) (ret := (some .int)) (by decide) rfl ?_
  intro p e s m args below meth c s₁ B hml hv
  have hx := B.exec
  have hb := B.bytes
  have hrt := B.returns
  have hts := atoms_spec (ws := wsX8_search) B.pre
  have hown : s.vm.findClass RX8 = some m.cls := findClass_of_methodNamed B.named
  have hlocks := B.notSynchronized
  obtain ⟨rfl, hB⟩ := m_start hv
  generalize va_A (m_w L ad g) sz = A at hB ⊢
  generalize s.heap = H at hB ⊢
  generalize ([] : List Loc) = locs at hB ⊢
  have hl := lv_entry ([.ref (ad 0), .int (nI b)]) (n := 4) (Nat.le_of_ble_eq_true rfl)
  rw [lg_entry_eq]
  generalize (lg_sl ([.ref (ad 0), .int (nI b)]) ++ List.replicate (4 - (lg_sl ([.ref (ad 0), .int (nI b)])).length) Slot.unset).toArray = ls at hl ⊢
  have hl : lv_has ls 4 [(0, .ref (ad 0)), (1, .int (nI b))] := hl
  have tI_b : (nI b).toInt = (b : Int) := nI_toInt (by omega)
  have l6 : (6 : Int32).toInt = 6 := by decide
  have tI_dn : (nI dn).toInt = (dn : Int) := nI_toInt (by omega)
  refine lv_iload_n hx hb dX8_search_0 rfl (lv_at hl 1 rfl) ?_
  refine lv_bipush (v := 6) hx hb dX8_search_1 (by decide) ?_
  refine m_callSE (As := [.int (nI b), .int 6]) (rest := []) (c_isBelow_t l D ty L ad _ _ _ (by omega) (by omega)) ⟨hx, hb, hml, hown, hts⟩ (va_cwS 2 hts gX8_search_X8_isBelow rfl rfl rfl (by decide +kernel) ⟨Nat.le_of_ble_eq_true rfl, Nat.le_of_ble_eq_true rfl⟩) hB rfl hl.1 rfl (Nat.le_of_ble_eq_true rfl) dX8_search_3 ⟨Nat.le_of_ble_eq_true rfl, Nat.le_of_ble_eq_true rfl⟩ (fun H locs hB => ?_)
  refine b_if_ne_t 11 hx hb dX8_search_6 (by decide) (by decide) ?_
  refine lv_aload_n hx hb dX8_search_11 rfl (lv_at hl 0 rfl) ?_
  refine m_get (C := RX8) (T := TX8) (N := 12) (ci := 8) hx hb hts in_X8_search_X8 hown hB m_0 h_0 rfl 0 (by decide) (hts (.fieldLink RX8 14 "PaperRoom" "draft" "LPaperRoom$Row;") (by decide +kernel)) (fun _ h9 => h9) rfl dX8_search_12 ?_
  refine m_callVE (ci := 5) (As := []) (rest := []) (c_Row_length l D ty L ad g 1 2 dn m_1 h_1) ⟨hx, hb, hml, hown, hts⟩ (cwV 0 hts gX8_search_X5_length rfl rfl rfl (by decide +kernel) ⟨Nat.le_of_ble_eq_true rfl, Nat.le_of_ble_eq_true rfl⟩) hB m_1 h_1 rfl rfl hl.1 rfl (Nat.le_of_ble_eq_true rfl) dX8_search_15 ⟨Nat.le_of_ble_eq_true rfl, Nat.le_of_ble_eq_true rfl⟩ (fun H locs hB => ?_)
  refine b_if_eq_f 33 hx hb dX8_search_18 (by decide) (by rw [nI_toInt (by omega)]; omega) ?_
  refine lv_aload_n hx hb dX8_search_21 rfl (lv_at hl 0 rfl) ?_
  refine m_get (C := RX8) (T := TX8) (N := 12) (ci := 8) hx hb hts in_X8_search_X8 hown hB m_0 h_0 rfl 0 (by decide) (hts (.fieldLink RX8 14 "PaperRoom" "draft" "LPaperRoom$Row;") (by decide +kernel)) (fun _ h9 => h9) rfl dX8_search_22 ?_
  refine m_callVE (ci := 5) (As := []) (rest := []) (c_Row_length l D ty L ad g 1 2 dn m_1 h_1) ⟨hx, hb, hml, hown, hts⟩ (cwV 0 hts gX8_search_X5_length rfl rfl rfl (by decide +kernel) ⟨Nat.le_of_ble_eq_true rfl, Nat.le_of_ble_eq_true rfl⟩) hB m_1 h_1 rfl rfl hl.1 rfl (Nat.le_of_ble_eq_true rfl) dX8_search_25 ⟨Nat.le_of_ble_eq_true rfl, Nat.le_of_ble_eq_true rfl⟩ (fun H locs hB => ?_)
  refine lv_bipush (v := 20) hx hb dX8_search_28 (by decide) ?_
  refine b_icmp_le_t 36 hx hb dX8_search_30 (by decide) (by have := (by decide : (20 : Int32).toInt = 20); omega) ?_
  refine lv_iconst (v := 0) hx hb dX8_search_36 (by decide) ?_
  refine lv_istore_n (lv' := [(2, .int 0), (0, .ref (ad 0)), (1, .int (nI b))]) hx hb dX8_search_37 rfl hl (by decide) rfl (fun ls hl => ?_)
  refine lv_iconst (v := 0) hx hb dX8_search_38 (by decide) ?_
  refine lv_istore_n (lv' := [(3, .int 0), (2, .int 0), (0, .ref (ad 0)), (1, .int (nI b))]) hx hb dX8_search_39 rfl hl (by decide) rfl (fun ls hl => ?_)
  have tI_pn : (nI pn).toInt = (pn : Int) := nI_toInt (by omega)
  replace hl : lv_has ls 4 [(0, .ref (ad 0)), (1, .int (nI b)), (2, .int 0), (3, .int 0)] := lv_sub hl [2, 3, 1, 0] rfl
  obtain ⟨k, hk0⟩ : ∃ k : Nat, k = 0 := ⟨0, rfl⟩
  replace hl : lv_has ls 4 [(0, .ref (ad 0)), (1, .int (nI b)), (2, .int (nI (cnt hh k))), (3, .int (nI k))] := by rw [hk0]; exact hl
  obtain ⟨jz, hj⟩ : ∃ jz : Nat, k + jz = pn := ⟨pn - k, by omega⟩
  clear hk0
  induction jz generalizing k H locs ls with
  | zero =>
    have hje : k = pn := by omega
    have tI_k : (nI k).toInt = (k : Int) := nI_toInt (by omega)
    refine lv_iload_n hx hb dX8_search_40 rfl (lv_at hl 3 rfl) ?_
    refine lv_aload_n hx hb dX8_search_41 rfl (lv_at hl 0 rfl) ?_
    refine m_get (C := RX8) (T := TX8) (N := 12) (ci := 8) hx hb hts in_X8_search_X8 hown hB m_0 h_0 rfl 3 (by decide) (hts (.fieldLink RX8 76 "PaperRoom" "paperCount" "I") (by decide +kernel)) (fun _ h9 => h9) rfl dX8_search_42 ?_
    refine b_icmp_ge_t 70 hx hb dX8_search_45 (by decide) (by omega) ?_
    refine lv_iload_n hx hb dX8_search_70 rfl (lv_at hl 2 rfl) ?_
    exact m_iret hx hb hrt hlocks hB (Nat.le_refl _) (Nat.le_refl _) dX8_search_71 ⟨by rw [hje], rfl, rfl, rfl⟩
  | succ jz ihj =>
    have hjl : k < pn := by omega
    have tI_k : (nI k).toInt = (k : Int) := nI_toInt (by omega)
    obtain ⟨r9, hr9, hc9⟩ := hcall k hjl
    rcases bool2 (hh k) with hs | hs
    · skip
      refine lv_iload_n hx hb dX8_search_40 rfl (lv_at hl 3 rfl) ?_
      refine lv_aload_n hx hb dX8_search_41 rfl (lv_at hl 0 rfl) ?_
      refine m_get (C := RX8) (T := TX8) (N := 12) (ci := 8) hx hb hts in_X8_search_X8 hown hB m_0 h_0 rfl 3 (by decide) (hts (.fieldLink RX8 76 "PaperRoom" "paperCount" "I") (by decide +kernel)) (fun _ h9 => h9) rfl dX8_search_42 ?_
      refine b_icmp_ge_f 70 hx hb dX8_search_45 (by decide) (by omega) ?_
      refine lv_aload_n hx hb dX8_search_48 rfl (lv_at hl 0 rfl) ?_
      refine lv_aload_n hx hb dX8_search_49 rfl (lv_at hl 0 rfl) ?_
      refine lv_iload_n hx hb dX8_search_50 rfl (lv_at hl 3 rfl) ?_
      refine m_callVE (ci := 8) (As := [.int (nI k)]) (rest := [.ref (ad 0)]) ((by have h9 := c_X_paperNumber_t l D ty L ad g pn qn nw tr pf k m_0 m_6 h_0 h_6 (by omega); rw [hr9] at h9; exact h9 : m_E l yX8_paperNumber wsX8_paperNumber 1 21 D ty [.ref (ad 0), .int (nI k)] L ad g (some (.ref r9)) g)) ⟨hx, hb, hml, hown, hts⟩ (cwV 1 hts gX8_search_X8_paperNumber rfl rfl rfl (by decide +kernel) ⟨Nat.le_of_ble_eq_true rfl, Nat.le_of_ble_eq_true rfl⟩) hB m_0 h_0 rfl rfl hl.1 rfl (Nat.le_of_ble_eq_true rfl) dX8_search_51 ⟨Nat.le_of_ble_eq_true rfl, Nat.le_of_ble_eq_true rfl⟩ (fun H locs hB => ?_)
      refine lv_iload_n hx hb dX8_search_54 rfl (lv_at hl 1 rfl) ?_
      refine m_callVE (ci := 8) (As := [.ref r9, .int (nI b)]) (rest := []) (hc9) ⟨hx, hb, hml, hown, hts⟩ (cwV 2 hts gX8_search_X8_isFoundIn rfl rfl rfl (by decide +kernel) ⟨Nat.le_of_ble_eq_true rfl, Nat.le_of_ble_eq_true rfl⟩) hB m_0 h_0 rfl rfl hl.1 rfl (Nat.le_of_ble_eq_true rfl) dX8_search_55 ⟨Nat.le_of_ble_eq_true rfl, Nat.le_of_ble_eq_true rfl⟩ (fun H locs hB => ?_)
      refine b_if_eq_f 64 hx hb dX8_search_58 (by decide) (by rw [hs]; decide) ?_
      refine lv_iinc (v := nI (cnt hh (k + 1))) (lv' := [(2, .int (nI (cnt hh (k + 1)))), (0, .ref (ad 0)), (1, .int (nI b)), (3, .int (nI k))]) hx hb dX8_search_61 hl (k := 2) rfl (by rw [cnt_1 hs]; exact nI_add _ 1) (by decide) rfl (fun ls hl => ?_)
      refine lv_iinc (v := nI (k + 1)) (lv' := [(3, .int (nI (k + 1))), (2, .int (nI (cnt hh (k + 1)))), (0, .ref (ad 0)), (1, .int (nI b))]) hx hb dX8_search_64 hl (k := 3) rfl (nI_add k 1) (by decide) rfl (fun ls hl => ?_)
      refine lv_goto (tgt := 40) hx hb dX8_search_67 (by decide) ?_
      have hl : lv_has ls 4 [(0, .ref (ad 0)), (1, .int (nI b)), (2, .int (nI (cnt hh (k + 1)))), (3, .int (nI (k + 1)))] := lv_sub hl [2, 3, 1, 0] rfl
      apply ihj (k := (k + 1)) (H := H) (locs := locs) (ls := ls) <;> first | omega | exact hB | exact hl
    · skip
      refine lv_iload_n hx hb dX8_search_40 rfl (lv_at hl 3 rfl) ?_
      refine lv_aload_n hx hb dX8_search_41 rfl (lv_at hl 0 rfl) ?_
      refine m_get (C := RX8) (T := TX8) (N := 12) (ci := 8) hx hb hts in_X8_search_X8 hown hB m_0 h_0 rfl 3 (by decide) (hts (.fieldLink RX8 76 "PaperRoom" "paperCount" "I") (by decide +kernel)) (fun _ h9 => h9) rfl dX8_search_42 ?_
      refine b_icmp_ge_f 70 hx hb dX8_search_45 (by decide) (by omega) ?_
      refine lv_aload_n hx hb dX8_search_48 rfl (lv_at hl 0 rfl) ?_
      refine lv_aload_n hx hb dX8_search_49 rfl (lv_at hl 0 rfl) ?_
      refine lv_iload_n hx hb dX8_search_50 rfl (lv_at hl 3 rfl) ?_
      refine m_callVE (ci := 8) (As := [.int (nI k)]) (rest := [.ref (ad 0)]) ((by have h9 := c_X_paperNumber_t l D ty L ad g pn qn nw tr pf k m_0 m_6 h_0 h_6 (by omega); rw [hr9] at h9; exact h9 : m_E l yX8_paperNumber wsX8_paperNumber 1 21 D ty [.ref (ad 0), .int (nI k)] L ad g (some (.ref r9)) g)) ⟨hx, hb, hml, hown, hts⟩ (cwV 1 hts gX8_search_X8_paperNumber rfl rfl rfl (by decide +kernel) ⟨Nat.le_of_ble_eq_true rfl, Nat.le_of_ble_eq_true rfl⟩) hB m_0 h_0 rfl rfl hl.1 rfl (Nat.le_of_ble_eq_true rfl) dX8_search_51 ⟨Nat.le_of_ble_eq_true rfl, Nat.le_of_ble_eq_true rfl⟩ (fun H locs hB => ?_)
      refine lv_iload_n hx hb dX8_search_54 rfl (lv_at hl 1 rfl) ?_
      refine m_callVE (ci := 8) (As := [.ref r9, .int (nI b)]) (rest := []) (hc9) ⟨hx, hb, hml, hown, hts⟩ (cwV 2 hts gX8_search_X8_isFoundIn rfl rfl rfl (by decide +kernel) ⟨Nat.le_of_ble_eq_true rfl, Nat.le_of_ble_eq_true rfl⟩) hB m_0 h_0 rfl rfl hl.1 rfl (Nat.le_of_ble_eq_true rfl) dX8_search_55 ⟨Nat.le_of_ble_eq_true rfl, Nat.le_of_ble_eq_true rfl⟩ (fun H locs hB => ?_)
      refine b_if_eq_t 64 hx hb dX8_search_58 (by decide) (by rw [hs]; decide) ?_
      refine lv_iinc (v := nI (k + 1)) (lv' := [(3, .int (nI (k + 1))), (0, .ref (ad 0)), (1, .int (nI b)), (2, .int (nI (cnt hh k)))]) hx hb dX8_search_64 hl (k := 3) rfl (nI_add k 1) (by decide) rfl (fun ls hl => ?_)
      refine lv_goto (tgt := 40) hx hb dX8_search_67 (by decide) ?_
      rw [← cnt_0 hs] at hl
      have hl : lv_has ls 4 [(0, .ref (ad 0)), (1, .int (nI b)), (2, .int (nI (cnt hh (k + 1)))), (3, .int (nI (k + 1)))] := lv_sub hl [1, 2, 3, 0] rfl
      apply ihj (k := (k + 1)) (H := H) (locs := locs) (ls := ls) <;> first | omega | exact hB | exact hl
