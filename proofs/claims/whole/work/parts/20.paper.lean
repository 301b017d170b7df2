set_option maxHeartbeats 1000000 in
set_option maxRecDepth 100000 in
theorem c_Held_kind (l : Launch) (D : va_G) (ty : Nat → ClassId) (L : List Nat) (ad : Nat → Nat) (g : Nat → va_E) (pp pt vn : Nat) (fo wd : Int32) (lg : Int32) (m_pp : pp ∈ L) (h_pp : g pp = .inr (0, [.int fo, .ref (ad pt), .int (nI vn), .int wd, .int lg])) : m_E l yX0_kind wsX0_kind 0 0 D ty [.ref (ad pp)] L ad g (some (.int 1)) g := by
  intro sz
  refine Met.ofW (cc := cX0_kind) (maxL := 1) (ret := (some .int)) (by decide) rfl ?_
  intro p e s m args below meth c s₁ B hml hv
  have hx := B.exec
  have hb := B.bytes
  have hrt := B.returns
  have hts := atoms_spec (ws := wsX0_kind) B.pre
  have hown : s.vm.findClass RX0 = some m.cls := findClass_of_methodNamed B.named
  have hlocks := B.notSynchronized
  obtain ⟨rfl, hB⟩ := m_start hv
  generalize va_A (m_w L ad g) sz = A at hB ⊢
  generalize s.heap = H at hB ⊢
  generalize ([] : List Loc) = locs at hB ⊢
  have hl := lv_entry ([.ref (ad pp)]) (n := 1) (Nat.le_of_ble_eq_true rfl)
  rw [lg_entry_eq]
  generalize (lg_sl ([.ref (ad pp)]) ++ List.replicate (1 - (lg_sl ([.ref (ad pp)])).length) Slot.unset).toArray = ls at hl ⊢
  have hl : lv_has ls 1 [(0, .ref (ad pp))] := hl
  refine lv_iconst (v := 1) hx hb dX0_kind_0 (by decide) ?_
  exact m_iret hx hb hrt hlocks hB (Nat.le_refl _) (Nat.le_refl _) dX0_kind_1 ⟨rfl, rfl, rfl, rfl⟩
set_option maxRecDepth 20000 in
theorem in_X2_folder_X0 : ∀ w ∈ wsX00, w ∈ wsX2_folder := by decide +kernel
set_option maxHeartbeats 1000000 in
set_option maxRecDepth 100000 in
theorem c_Held_folder (l : Launch) (D : va_G) (ty : Nat → ClassId) (L : List Nat) (ad : Nat → Nat) (g : Nat → va_E) (pp pt vn : Nat) (fo wd : Int32) (lg : Int32) (m_pp : pp ∈ L) (h_pp : g pp = .inr (0, [.int fo, .ref (ad pt), .int (nI vn), .int wd, .int lg])) : m_E l yX2_folder wsX2_folder 0 0 D ty [.ref (ad pp)] L ad g (some (.int fo)) g := by
  intro sz
  refine Met.ofW (cc := cX2_folder) (maxL := 1) (ret := (some .int)) (by decide) rfl ?_
  intro p e s m args below meth c s₁ B hml hv
  have hx := B.exec
  have hb := B.bytes
  have hrt := B.returns
  have hts := atoms_spec (ws := wsX2_folder) B.pre
  have hown : s.vm.findClass RX2 = some m.cls := findClass_of_methodNamed B.named
  have hlocks := B.notSynchronized
  obtain ⟨rfl, hB⟩ := m_start hv
  generalize va_A (m_w L ad g) sz = A at hB ⊢
  generalize s.heap = H at hB ⊢
  generalize ([] : List Loc) = locs at hB ⊢
  have hl := lv_entry ([.ref (ad pp)]) (n := 1) (Nat.le_of_ble_eq_true rfl)
  rw [lg_entry_eq]
  generalize (lg_sl ([.ref (ad pp)]) ++ List.replicate (1 - (lg_sl ([.ref (ad pp)])).length) Slot.unset).toArray = ls at hl ⊢
  have hl : lv_has ls 1 [(0, .ref (ad pp))] := hl
  refine lv_aload_n hx hb dX2_folder_0 rfl (lv_at hl 0 rfl) ?_
  refine m_get (C := RX0) (T := TX0) (N := 5) (ci := 0) hx hb hts in_X2_folder_X0 hown hB m_pp h_pp rfl 0 (by decide) (hts (.fieldLink RX2 9 "PaperRoom$Paper" "folder" "I") (by decide +kernel)) (fun _ h9 => h9) rfl dX2_folder_1 ?_
  exact m_iret hx hb hrt hlocks hB (Nat.le_refl _) (Nat.le_refl _) dX2_folder_4 ⟨rfl, rfl, rfl, rfl⟩
set_option maxRecDepth 20000 in
theorem in_X2_versions_X0 : ∀ w ∈ wsX00, w ∈ wsX2_versions := by decide +kernel
set_option maxHeartbeats 1000000 in
set_option maxRecDepth 100000 in
theorem c_Held_versions (l : Launch) (D : va_G) (ty : Nat → ClassId) (L : List Nat) (ad : Nat → Nat) (g : Nat → va_E) (pp pt vn : Nat) (fo wd : Int32) (lg : Int32) (m_pp : pp ∈ L) (h_pp : g pp = .inr (0, [.int fo, .ref (ad pt), .int (nI vn), .int wd, .int lg])) : m_E l yX2_versions wsX2_versions 0 0 D ty [.ref (ad pp)] L ad g (some (.int (nI vn))) g := by
  intro sz
  refine Met.ofW (cc := cX2_versions) (maxL := 1) (ret := (some .int)) (by decide) rfl ?_
  intro p e s m args below meth c s₁ B hml hv
  have hx := B.exec
  have hb := B.bytes
  have hrt := B.returns
  have hts := atoms_spec (ws := wsX2_versions) B.pre
  have hown : s.vm.findClass RX2 = some m.cls := findClass_of_methodNamed B.named
  have hlocks := B.notSynchronized
  obtain ⟨rfl, hB⟩ := m_start hv
  generalize va_A (m_w L ad g) sz = A at hB ⊢
  generalize s.heap = H at hB ⊢
  generalize ([] : List Loc) = locs at hB ⊢
  have hl := lv_entry ([.ref (ad pp)]) (n := 1) (Nat.le_of_ble_eq_true rfl)
  rw [lg_entry_eq]
  generalize (lg_sl ([.ref (ad pp)]) ++ List.replicate (1 - (lg_sl ([.ref (ad pp)])).length) Slot.unset).toArray = ls at hl ⊢
  have hl : lv_has ls 1 [(0, .ref (ad pp))] := hl
  refine lv_aload_n hx hb dX2_versions_0 rfl (lv_at hl 0 rfl) ?_
  refine m_get (C := RX0) (T := TX0) (N := 5) (ci := 0) hx hb hts in_X2_versions_X0 hown hB m_pp h_pp rfl 2 (by decide) (hts (.fieldLink RX2 48 "PaperRoom$Paper" "textCount" "I") (by decide +kernel)) (fun _ h9 => h9) rfl dX2_versions_1 ?_
  exact m_iret hx hb hrt hlocks hB (Nat.le_refl _) (Nat.le_refl _) dX2_versions_4 ⟨rfl, rfl, rfl, rfl⟩
set_option maxRecDepth 20000 in
theorem in_X2_isWithdrawn_X0 : ∀ w ∈ wsX00, w ∈ wsX2_isWithdrawn := by decide +kernel
set_option maxHeartbeats 1000000 in
set_option maxRecDepth 100000 in
theorem c_Held_isWithdrawn (l : Launch) (D : va_G) (ty : Nat → ClassId) (L : List Nat) (ad : Nat → Nat) (g : Nat → va_E) (pp pt vn : Nat) (fo wd : Int32) (lg : Int32) (m_pp : pp ∈ L) (h_pp : g pp = .inr (0, [.int fo, .ref (ad pt), .int (nI vn), .int wd, .int lg])) (hwd : wd = 0 ∨ wd = 1) : m_E l yX2_isWithdrawn wsX2_isWithdrawn 0 0 D ty [.ref (ad pp)] L ad g (some (.int wd)) g := by
  intro sz
  refine Met.ofW (cc := cX2_isWithdrawn) (maxL := 1) (ret := (some .boolean)) (by decide) rfl ?_
  intro p e s m args below meth c s₁ B hml hv
  have hx := B.exec
  have hb := B.bytes
  have hrt := B.returns
  have hts := atoms_spec (ws := wsX2_isWithdrawn) B.pre
  have hown : s.vm.findClass RX2 = some m.cls := findClass_of_methodNamed B.named
  have hlocks := B.notSynchronized
  obtain ⟨rfl, hB⟩ := m_start hv
  generalize va_A (m_w L ad g) sz = A at hB ⊢
  generalize s.heap = H at hB ⊢
  generalize ([] : List Loc) = locs at hB ⊢
  have hl := lv_entry ([.ref (ad pp)]) (n := 1) (Nat.le_of_ble_eq_true rfl)
  rw [lg_entry_eq]
  generalize (lg_sl ([.ref (ad pp)]) ++ List.replicate (1 - (lg_sl ([.ref (ad pp)])).length) Slot.unset).toArray = ls at hl ⊢
  have hl : lv_has ls 1 [(0, .ref (ad pp))] := hl
  refine lv_aload_n hx hb dX2_isWithdrawn_0 rfl (lv_at hl 0 rfl) ?_
  refine m_get (C := RX0) (T := TX0) (N := 5) (ci := 0) hx hb hts in_X2_isWithdrawn_X0 hown hB m_pp h_pp rfl 3 (by decide) (hts (.fieldLink RX2 21 "PaperRoom$Paper" "withdrawn" "Z") (by decide +kernel)) (fun _ h9 => h9) rfl dX2_isWithdrawn_1 ?_
  exact m_zret hx hb hrt hlocks hB (Nat.le_refl _) (Nat.le_refl _) dX2_isWithdrawn_4 (by rcases hwd with h | h <;> rw [h] <;> rfl) ⟨rfl, rfl, rfl, rfl⟩
set_option maxRecDepth 20000 in
theorem in_X2_setWithdrawn_X0 : ∀ w ∈ wsX00, w ∈ wsX2_setWithdrawn := by decide +kernel
set_option maxHeartbeats 1000000 in
set_option maxRecDepth 100000 in
theorem c_Held_setWithdrawn (l : Launch) (D : va_G) (ty : Nat → ClassId) (L : List Nat) (ad : Nat → Nat) (g : Nat → va_E) (pp pt vn : Nat) (fo wd : Int32) (lg : Int32) (m_pp : pp ∈ L) (h_pp : g pp = .inr (0, [.int fo, .ref (ad pt), .int (nI vn), .int wd, .int lg])) : m_E l yX2_setWithdrawn wsX2_setWithdrawn 0 0 D ty [.ref (ad pp)] L ad g none (va_up g pp (.inr (0, [.int fo, .ref (ad pt), .int (nI vn), .int 1, .int lg]))) := by
  intro sz
  refine Met.ofW (cc := cX2_setWithdrawn) (maxL := 1) (ret := none) (by decide) rfl ?_
  intro p e s m args below meth c s₁ B hml hv
  have hx := B.exec
  have hb := B.bytes
  have hrt := B.returns
  have hts := atoms_spec (ws := wsX2_setWithdrawn) B.pre
  have hown : s.vm.findClass RX2 = some m.cls := findClass_of_methodNamed B.named
  have hlocks := B.notSynchronized
  obtain ⟨rfl, hB⟩ := m_start hv
  generalize va_A (m_w L ad g) sz = A at hB ⊢
  generalize s.heap = H at hB ⊢
  generalize ([] : List Loc) = locs at hB ⊢
  have hl := lv_entry ([.ref (ad pp)]) (n := 1) (Nat.le_of_ble_eq_true rfl)
  rw [lg_entry_eq]
  generalize (lg_sl ([.ref (ad pp)]) ++ List.replicate (1 - (lg_sl ([.ref (ad pp)])).length) Slot.unset).toArray = ls at hl ⊢
  have hl : lv_has ls 1 [(0, .ref (ad pp))] := hl
  refine lv_aload_n hx hb dX2_setWithdrawn_0 rfl (lv_at hl 0 rfl) ?_
  refine lv_iconst (v := 1) hx hb dX2_setWithdrawn_1 (by decide) ?_
  refine m_put (C := RX0) (T := TX0) (N := 5) (ci := 0) (v := .int 1) (ft := .boolean) hx hb hts in_X2_setWithdrawn_X0 tyX0 tyX0_ok nmX0 hown hB m_pp h_pp rfl 3 (by decide) (hts (.fieldLink RX2 21 "PaperRoom$Paper" "withdrawn" "Z") (by decide +kernel)) (fun _ h9 => h9) rfl (by decide +kernel) rfl rfl (Nat.le_of_ble_eq_true rfl) dX2_setWithdrawn_2 (fun H locs hB => ?_)
  replace hB : m_B D ty A s L ad (va_up g pp (.inr (0, [.int fo, .ref (ad pt), .int (nI vn), .int 1, .int lg]))) H locs := hB
  exact m_vret hx hb hrt hlocks hB (Nat.le_refl _) (Nat.le_refl _) dX2_setWithdrawn_5 ⟨rfl, rfl, rfl, rfl⟩
set_option maxRecDepth 20000 in
theorem in_X2_isFull_X0 : ∀ w ∈ wsX00, w ∈ wsX2_isFull := by decide +kernel
set_option maxHeartbeats 1000000 in
set_option maxRecDepth 100000 in
theorem c_Held_isFull (l : Launch) (D : va_G) (ty : Nat → ClassId) (L : List Nat) (ad : Nat → Nat) (g : Nat → va_E) (pp pt vn : Nat) (fo wd : Int32) (lg : Int32) (tf : Nat → Option Nat) (m_pp : pp ∈ L) (m_pt : pt ∈ L) (h_pp : g pp = .inr (0, [.int fo, .ref (ad pt), .int (nI vn), .int wd, .int lg])) (h_pt : g pt = .inl (ty 7, 4, .inr (.inr (.inr (.inr tf))))) (hv : vn ≤ 4) : m_E l yX2_isFull wsX2_isFull 0 0 D ty [.ref (ad pp)] L ad g (some (.int (zb (decide (vn = 4))))) g := by
  intro sz
  refine Met.ofW (cc := cX2_isFull) (maxL := 1) (ret := (some .boolean)) (by decide) rfl ?_
  intro p e s m args below meth c s₁ B hml hv
  have hx := B.exec
  have hb := B.bytes
  have hrt := B.returns
  have hts := atoms_spec (ws := wsX2_isFull) B.pre
  have hown : s.vm.findClass RX2 = some m.cls := findClass_of_methodNamed B.named
  have hlocks := B.notSynchronized
  obtain ⟨rfl, hB⟩ := m_start hv
  generalize va_A (m_w L ad g) sz = A at hB ⊢
  generalize s.heap = H at hB ⊢
  generalize ([] : List Loc) = locs at hB ⊢
  have hl := lv_entry ([.ref (ad pp)]) (n := 1) (Nat.le_of_ble_eq_true rfl)
  rw [lg_entry_eq]
  generalize (lg_sl ([.ref (ad pp)]) ++ List.replicate (1 - (lg_sl ([.ref (ad pp)])).length) Slot.unset).toArray = ls at hl ⊢
  have hl : lv_has ls 1 [(0, .ref (ad pp))] := hl
  have tI_vn : (nI vn).toInt = (vn : Int) := nI_toInt (by omega)
  have tI_4 : (nI 4).toInt = 4 := by decide
  rcases (show vn = 4 ∨ vn < 4 by omega) with h1 | h1
  · skip
    refine lv_aload_n hx hb dX2_isFull_0 rfl (lv_at hl 0 rfl) ?_
    refine m_get (C := RX0) (T := TX0) (N := 5) (ci := 0) hx hb hts in_X2_isFull_X0 hown hB m_pp h_pp rfl 2 (by decide) (hts (.fieldLink RX2 48 "PaperRoom$Paper" "textCount" "I") (by decide +kernel)) (fun _ h9 => h9) rfl dX2_isFull_1 ?_
    refine lv_aload_n hx hb dX2_isFull_4 rfl (lv_at hl 0 rfl) ?_
    refine m_get (C := RX0) (T := TX0) (N := 5) (ci := 0) hx hb hts in_X2_isFull_X0 hown hB m_pp h_pp rfl 1 (by decide) (hts (.fieldLink RX2 17 "PaperRoom$Paper" "texts" "[LPaperRoom$Text;") (by decide +kernel)) (fun _ h9 => h9) rfl dX2_isFull_5 ?_
    refine m_alen hx hb hB m_pt 7 h_pt rfl (v := nI 4) rfl dX2_isFull_8 ?_
    refine b_icmp_lt_f 16 hx hb dX2_isFull_9 (by decide) (by omega) ?_
    refine lv_iconst (v := 1) hx hb dX2_isFull_12 (by decide) ?_
    refine lv_goto (tgt := 17) hx hb dX2_isFull_13 (by decide) ?_
    exact m_zret hx hb hrt hlocks hB (Nat.le_refl _) (Nat.le_refl _) dX2_isFull_17 rfl ⟨zt (dt h1), rfl, rfl, rfl⟩
  · skip
    refine lv_aload_n hx hb dX2_isFull_0 rfl (lv_at hl 0 rfl) ?_
    refine m_get (C := RX0) (T := TX0) (N := 5) (ci := 0) hx hb hts in_X2_isFull_X0 hown hB m_pp h_pp rfl 2 (by decide) (hts (.fieldLink RX2 48 "PaperRoom$Paper" "textCount" "I") (by decide +kernel)) (fun _ h9 => h9) rfl dX2_isFull_1 ?_
    refine lv_aload_n hx hb dX2_isFull_4 rfl (lv_at hl 0 rfl) ?_
    refine m_get (C := RX0) (T := TX0) (N := 5) (ci := 0) hx hb hts in_X2_isFull_X0 hown hB m_pp h_pp rfl 1 (by decide) (hts (.fieldLink RX2 17 "PaperRoom$Paper" "texts" "[LPaperRoom$Text;") (by decide +kernel)) (fun _ h9 => h9) rfl dX2_isFull_5 ?_
    refine m_alen hx hb hB m_pt 7 h_pt rfl (v := nI 4) rfl dX2_isFull_8 ?_
    refine b_icmp_lt_t 16 hx hb dX2_isFull_9 (by decide) (by omega) ?_
    refine lv_iconst (v := 0) hx hb dX2_isFull_16 (by decide) ?_
    exact m_zret hx hb hrt hlocks hB (Nat.le_refl _) (Nat.le_refl _) dX2_isFull_17 rfl ⟨zf (df (by omega)), rfl, rfl, rfl⟩
set_option maxRecDepth 20000 in
theorem in_X2_text_X0 : ∀ w ∈ wsX00, w ∈ wsX2_text := by decide +kernel
set_option maxHeartbeats 1000000 in
set_option maxRecDepth 100000 in
theorem c_Held_text_t (l : Launch) (D : va_G) (ty : Nat → ClassId) (L : List Nat) (ad : Nat → Nat) (g : Nat → va_E) (pp pt vn : Nat) (fo wd : Int32) (lg : Int32) (tf : Nat → Option Nat) (k : Nat) (m_pp : pp ∈ L) (m_pt : pt ∈ L) (h_pp : g pp = .inr (0, [.int fo, .ref (ad pt), .int (nI vn), .int wd, .int lg])) (h_pt : g pt = .inl (ty 7, 4, .inr (.inr (.inr (.inr tf))))) (hk : k < 4) : m_E l yX2_text wsX2_text 1 21 D ty [.ref (ad pp), .int (nI k)] L ad g (some (va_rf (tf k))) g := by
  intro sz
  refine Met.ofW (cc := cX2_text) (maxL := 2) (ret := (some (.object "PaperRoom$Text"))) (by decide) rfl ?_
  intro p e s m args below meth c s₁ B hml hv
  have hx := B.exec
  have hb := B.bytes
  have hrt := B.returns
  have hts := atoms_spec (ws := wsX2_text) B.pre
  have hown : s.vm.findClass RX2 = some m.cls := findClass_of_methodNamed B.named
  have hlocks := B.notSynchronized
  obtain ⟨rfl, hB⟩ := m_start hv
  generalize va_A (m_w L ad g) sz = A at hB ⊢
  generalize s.heap = H at hB ⊢
  generalize ([] : List Loc) = locs at hB ⊢
  have hl := lv_entry ([.ref (ad pp), .int (nI k)]) (n := 2) (Nat.le_of_ble_eq_true rfl)
  rw [lg_entry_eq]
  generalize (lg_sl ([.ref (ad pp), .int (nI k)]) ++ List.replicate (2 - (lg_sl ([.ref (ad pp), .int (nI k)])).length) Slot.unset).toArray = ls at hl ⊢
  have hl : lv_has ls 2 [(0, .ref (ad pp)), (1, .int (nI k))] := hl
  have tI_k : (nI k).toInt = (k : Int) := nI_toInt (by omega)
  have tI_4 : (nI 4).toInt = 4 := by decide
  refine lv_iload_n hx hb dX2_text_0 rfl (lv_at hl 1 rfl) ?_
  refine lv_aload_n hx hb dX2_text_1 rfl (lv_at hl 0 rfl) ?_
  refine m_get (C := RX0) (T := TX0) (N := 5) (ci := 0) hx hb hts in_X2_text_X0 hown hB m_pp h_pp rfl 1 (by decide) (hts (.fieldLink RX2 17 "PaperRoom$Paper" "texts" "[LPaperRoom$Text;") (by decide +kernel)) (fun _ h9 => h9) rfl dX2_text_2 ?_
  refine m_alen hx hb hB m_pt 7 h_pt rfl (v := nI 4) rfl dX2_text_5 ?_
  refine m_callSNE (As := [.int (nI k), .int (nI 4)]) (rest := []) (c_isBelow_t l D ty L ad g _ _ (by omega) (by omega)) ⟨hx, hb, hml, hown, hts⟩ ⟨va_cnB 2 hts gX2_text_X8_isBelow_n51 rfl rfl rfl hB.2.1.2.2.2.2.1 (hts (.initialized RX8) (by decide +kernel)) (by decide +kernel) ⟨Nat.le_of_ble_eq_true rfl, Nat.le_of_ble_eq_true rfl⟩, hts (.static yX8_isBelow) (by decide +kernel), trivial⟩ hB rfl hl.1 rfl (Nat.le_of_ble_eq_true rfl) dX2_text_6 ⟨Nat.le_of_ble_eq_true rfl, Nat.le_of_ble_eq_true rfl⟩ (fun H locs hB => ?_)
  refine b_if_eq_f 21 hx hb dX2_text_9 (by decide) (by decide) ?_
  refine lv_aload_n hx hb dX2_text_12 rfl (lv_at hl 0 rfl) ?_
  refine m_get (C := RX0) (T := TX0) (N := 5) (ci := 0) hx hb hts in_X2_text_X0 hown hB m_pp h_pp rfl 1 (by decide) (hts (.fieldLink RX2 17 "PaperRoom$Paper" "texts" "[LPaperRoom$Text;") (by decide +kernel)) (fun _ h9 => h9) rfl dX2_text_13 ?_
  refine lv_iload_n hx hb dX2_text_16 rfl (lv_at hl 1 rfl) ?_
  refine n_aald hx hb hB m_pt 7 h_pt rfl k rfl (by omega) (by omega) (w := tf k) rfl dX2_text_17 ?_
  refine W.eq (g2 := F0 m 18 ls [va_rf (tf k)]) rfl ?_
  refine lv_goto (tgt := 22) hx hb dX2_text_18 (by decide) ?_
  exact m_aret (v := (tf k)) hx hb hrt hlocks hB (Nat.le_refl _) (Nat.le_refl _) dX2_text_22 ⟨rfl, rfl, rfl, rfl⟩
set_option maxHeartbeats 1000000 in
set_option maxRecDepth 100000 in
theorem c_Held_text_f (l : Launch) (D : va_G) (ty : Nat → ClassId) (L : List Nat) (ad : Nat → Nat) (g : Nat → va_E) (pp pt vn : Nat) (fo wd : Int32) (lg : Int32) (tf : Nat → Option Nat) (i : Int32) (m_pp : pp ∈ L) (m_pt : pt ∈ L) (h_pp : g pp = .inr (0, [.int fo, .ref (ad pt), .int (nI vn), .int wd, .int lg])) (h_pt : g pt = .inl (ty 7, 4, .inr (.inr (.inr (.inr tf))))) (hi : ¬ (0 ≤ i.toInt ∧ i.toInt < (nI 4).toInt)) : m_E l yX2_text wsX2_text 1 21 D ty [.ref (ad pp), .int i] L ad g (some (.null)) g := by
  intro sz
  refine Met.ofW (cc := cX2_text) (maxL := 2) (ret := (some (.object "PaperRoom$Text"))) (by decide) rfl ?_
  intro p e s m args below meth c s₁ B hml hv
  have hx := B.exec
  have hb := B.bytes
  have hrt := B.returns
  have hts := atoms_spec (ws := wsX2_text) B.pre
  have hown : s.vm.findClass RX2 = some m.cls := findClass_of_methodNamed B.named
  have hlocks := B.notSynchronized
  obtain ⟨rfl, hB⟩ := m_start hv
  generalize va_A (m_w L ad g) sz = A at hB ⊢
  generalize s.heap = H at hB ⊢
  generalize ([] : List Loc) = locs at hB ⊢
  have hl := lv_entry ([.ref (ad pp), .int i]) (n := 2) (Nat.le_of_ble_eq_true rfl)
  rw [lg_entry_eq]
  generalize (lg_sl ([.ref (ad pp), .int i]) ++ List.replicate (2 - (lg_sl ([.ref (ad pp), .int i])).length) Slot.unset).toArray = ls at hl ⊢
  have hl : lv_has ls 2 [(0, .ref (ad pp)), (1, .int i)] := hl
  refine lv_iload_n hx hb dX2_text_0 rfl (lv_at hl 1 rfl) ?_
  refine lv_aload_n hx hb dX2_text_1 rfl (lv_at hl 0 rfl) ?_
  refine m_get (C := RX0) (T := TX0) (N := 5) (ci := 0) hx hb hts in_X2_text_X0 hown hB m_pp h_pp rfl 1 (by decide) (hts (.fieldLink RX2 17 "PaperRoom$Paper" "texts" "[LPaperRoom$Text;") (by decide +kernel)) (fun _ h9 => h9) rfl dX2_text_2 ?_
  refine m_alen hx hb hB m_pt 7 h_pt rfl (v := nI 4) rfl dX2_text_5 ?_
  refine m_callSNE (As := [.int i, .int (nI 4)]) (rest := []) (c_isBelow_f l D ty L ad g _ _ hi) ⟨hx, hb, hml, hown, hts⟩ ⟨va_cnB 2 hts gX2_text_X8_isBelow_n51 rfl rfl rfl hB.2.1.2.2.2.2.1 (hts (.initialized RX8) (by decide +kernel)) (by decide +kernel) ⟨Nat.le_of_ble_eq_true rfl, Nat.le_of_ble_eq_true rfl⟩, hts (.static yX8_isBelow) (by decide +kernel), trivial⟩ hB rfl hl.1 rfl (Nat.le_of_ble_eq_true rfl) dX2_text_6 ⟨Nat.le_of_ble_eq_true rfl, Nat.le_of_ble_eq_true rfl⟩ (fun H locs hB => ?_)
  refine b_if_eq_t 21 hx hb dX2_text_9 (by decide) (by decide) ?_
  refine lv_null hx hb dX2_text_21 ?_
  exact m_aret (v := none) hx hb hrt hlocks hB (Nat.le_refl _) (Nat.le_refl _) dX2_text_22 ⟨rfl, rfl, rfl, rfl⟩
set_option maxRecDepth 20000 in
theorem in_X2_addText_X0 : ∀ w ∈ wsX00, w ∈ wsX2_addText := by decide +kernel
set_option maxHeartbeats 1000000 in
set_option maxRecDepth 100000 in
theorem c_Held_addText (l : Launch) (D : va_G) (ty : Nat → ClassId) (L : List Nat) (ad : Nat → Nat) (g : Nat → va_E) (pp pt vn : Nat) (fo wd : Int32) (lg : Int32) (tf : Nat → Option Nat) (t ro bl : Nat) (m_pp : pp ∈ L) (m_pt : pt ∈ L) (m_t : t ∈ L) (h_pp : g pp = .inr (0, [.int fo, .ref (ad pt), .int (nI vn), .int wd, .int lg])) (h_pt : g pt = .inl (ty 7, 4, .inr (.inr (.inr (.inr tf))))) (h_t : g t = .inr (7, [.ref (ad ro), .ref (ad bl)])) (hv : vn < 4) (ne1 : pp ≠ pt) (ne2 : t ≠ pt) (ne3 : t ≠ pp) : m_E l yX2_addText wsX2_addText 1 21 D ty [.ref (ad pp), .ref (ad t)] L ad g (some (.int (nI vn))) (va_up (va_up g pt (.inl (ty 7, 4, .inr (.inr (.inr (.inr (va_up tf vn (some (ad t))))))))) pp (.inr (0, [.int fo, .ref (ad pt), .int (nI (vn + 1)), .int wd, .int lg]))) := by
  intro sz
  refine Met.ofW (cc := cX2_addText) (maxL := 2) (ret := (some .int)) (by decide) rfl ?_
  intro p e s m args below meth c s₁ B hml hv
  have hx := B.exec
  have hb := B.bytes
  have hrt := B.returns
  have hts := atoms_spec (ws := wsX2_addText) B.pre
  have hown : s.vm.findClass RX2 = some m.cls := findClass_of_methodNamed B.named
  have hlocks := B.notSynchronized
  obtain ⟨rfl, hB⟩ := m_start hv
  generalize va_A (m_w L ad g) sz = A at hB ⊢
  generalize s.heap = H at hB ⊢
  generalize ([] : List Loc) = locs at hB ⊢
  have hl := lv_entry ([.ref (ad pp), .ref (ad t)]) (n := 2) (Nat.le_of_ble_eq_true rfl)
  rw [lg_entry_eq]
  generalize (lg_sl ([.ref (ad pp), .ref (ad t)]) ++ List.replicate (2 - (lg_sl ([.ref (ad pp), .ref (ad t)])).length) Slot.unset).toArray = ls at hl ⊢
  have hl : lv_has ls 2 [(0, .ref (ad pp)), (1, .ref (ad t))] := hl
  have tI_vn : (nI vn).toInt = (vn : Int) := nI_toInt (by omega)
  have tI_4 : (nI 4).toInt = 4 := by decide
  refine lv_aload_n hx hb dX2_addText_0 rfl (lv_at hl 0 rfl) ?_
  refine m_get (C := RX0) (T := TX0) (N := 5) (ci := 0) hx hb hts in_X2_addText_X0 hown hB m_pp h_pp rfl 2 (by decide) (hts (.fieldLink RX2 48 "PaperRoom$Paper" "textCount" "I") (by decide +kernel)) (fun _ h9 => h9) rfl dX2_addText_1 ?_
  refine lv_aload_n hx hb dX2_addText_4 rfl (lv_at hl 0 rfl) ?_
  refine m_get (C := RX0) (T := TX0) (N := 5) (ci := 0) hx hb hts in_X2_addText_X0 hown hB m_pp h_pp rfl 1 (by decide) (hts (.fieldLink RX2 17 "PaperRoom$Paper" "texts" "[LPaperRoom$Text;") (by decide +kernel)) (fun _ h9 => h9) rfl dX2_addText_5 ?_
  refine m_alen hx hb hB m_pt 7 h_pt rfl (v := nI 4) rfl dX2_addText_8 ?_
  refine m_callSNE (As := [.int (nI vn), .int (nI 4)]) (rest := []) (c_isBelow_t l D ty L ad g _ _ (by omega) (by omega)) ⟨hx, hb, hml, hown, hts⟩ ⟨va_cnB 2 hts gX2_addText_X8_isBelow_n51 rfl rfl rfl hB.2.1.2.2.2.2.1 (hts (.initialized RX8) (by decide +kernel)) (by decide +kernel) ⟨Nat.le_of_ble_eq_true rfl, Nat.le_of_ble_eq_true rfl⟩, hts (.static yX8_isBelow) (by decide +kernel), trivial⟩ hB rfl hl.1 rfl (Nat.le_of_ble_eq_true rfl) dX2_addText_9 ⟨Nat.le_of_ble_eq_true rfl, Nat.le_of_ble_eq_true rfl⟩ (fun H locs hB => ?_)
  refine b_if_ne_t 18 hx hb dX2_addText_12 (by decide) (by decide) ?_
  refine lv_aload_n hx hb dX2_addText_18 rfl (lv_at hl 0 rfl) ?_
  refine m_get (C := RX0) (T := TX0) (N := 5) (ci := 0) hx hb hts in_X2_addText_X0 hown hB m_pp h_pp rfl 1 (by decide) (hts (.fieldLink RX2 17 "PaperRoom$Paper" "texts" "[LPaperRoom$Text;") (by decide +kernel)) (fun _ h9 => h9) rfl dX2_addText_19 ?_
  refine lv_aload_n hx hb dX2_addText_22 rfl (lv_at hl 0 rfl) ?_
  refine m_get (C := RX0) (T := TX0) (N := 5) (ci := 0) hx hb hts in_X2_addText_X0 hown hB m_pp h_pp rfl 2 (by decide) (hts (.fieldLink RX2 48 "PaperRoom$Paper" "textCount" "I") (by decide +kernel)) (fun _ h9 => h9) rfl dX2_addText_23 ?_
  refine lv_aload_n hx hb dX2_addText_26 rfl (lv_at hl 1 rfl) ?_
  refine n_aast hx hb hB m_pt 7 h_pt rfl m_t h_t rfl (fun _ _ h1 h2 => m_asg_self h1 h2) vn rfl (by omega) (by omega) dX2_addText_27 (fun H locs hB => ?_)
  replace hB : m_B D ty A s L ad (va_up g pt (.inl (ty 7, 4, .inr (.inr (.inr (.inr (va_up tf vn (some (ad t))))))))) H locs := hB
  refine lv_aload_n hx hb dX2_addText_28 rfl (lv_at hl 0 rfl) ?_
  refine lv_dup hx hb dX2_addText_29 rfl ?_
  refine m_get (C := RX0) (T := TX0) (N := 5) (ci := 0) hx hb hts in_X2_addText_X0 hown hB m_pp ((va_up_ne _ _ ne1).trans h_pp) rfl 2 (by decide) (hts (.fieldLink RX2 48 "PaperRoom$Paper" "textCount" "I") (by decide +kernel)) (fun _ h9 => h9) rfl dX2_addText_30 ?_
  refine lv_iconst (v := 1) hx hb dX2_addText_33 (by decide) ?_
  refine lv_iadd hx hb dX2_addText_34 ?_
  refine b_topi (w := nI (vn + 1)) (nI_add vn 1) ?_
  refine m_put (C := RX0) (T := TX0) (N := 5) (ci := 0) (v := .int (nI (vn + 1))) (ft := .int) hx hb hts in_X2_addText_X0 tyX0 tyX0_ok nmX0 hown hB m_pp ((va_up_ne _ _ ne1).trans h_pp) rfl 2 (by decide) (hts (.fieldLink RX2 48 "PaperRoom$Paper" "textCount" "I") (by decide +kernel)) (fun _ h9 => h9) rfl (by decide +kernel) rfl rfl (Nat.le_of_ble_eq_true rfl) dX2_addText_35 (fun H locs hB => ?_)
  replace hB : m_B D ty A s L ad (va_up (va_up g pt (.inl (ty 7, 4, .inr (.inr (.inr (.inr (va_up tf vn (some (ad t))))))))) pp (.inr (0, [.int fo, .ref (ad pt), .int (nI (vn + 1)), .int wd, .int lg]))) H locs := hB
  refine lv_aload_n hx hb dX2_addText_38 rfl (lv_at hl 0 rfl) ?_
  refine m_get (C := RX0) (T := TX0) (N := 5) (ci := 0) hx hb hts in_X2_addText_X0 hown hB m_pp (va_up_self _ _ _) rfl 2 (by decide) (hts (.fieldLink RX2 48 "PaperRoom$Paper" "textCount" "I") (by decide +kernel)) (fun _ h9 => h9) rfl dX2_addText_39 ?_
  refine lv_iconst (v := 1) hx hb dX2_addText_42 (by decide) ?_
  refine lv_isub hx hb dX2_addText_43 ?_
  refine b_topi (w := nI vn) ((pk_sub (a := vn + 1) (b := 1) (by omega)).trans (by rw [Nat.add_sub_cancel])) ?_
  exact m_iret hx hb hrt hlocks hB (Nat.le_refl _) (Nat.le_refl _) dX2_addText_44 ⟨rfl, rfl, rfl, rfl⟩
set_option maxRecDepth 20000 in
theorem in_X2_isOpenTo_X0 : ∀ w ∈ wsX00, w ∈ wsX2_isOpenTo := by decide +kernel
set_option maxHeartbeats 1000000 in
set_option maxRecDepth 100000 in
theorem c_Held_isOpen0 (l : Launch) (D : va_G) (ty : Nat → ClassId) (L : List Nat) (ad : Nat → Nat) (g : Nat → va_E) (pp pt vn : Nat) (wd : Int32) (lg : Int32) (rg st en : Nat) (fs fe : Nat → Int32) (x f : Nat) (nw : Int32) (m_pp : pp ∈ L) (m_rg : rg ∈ L) (m_st : st ∈ L) (m_en : en ∈ L) (h_pp : g pp = .inr (0, [.int (nI f), .ref (ad pt), .int (nI vn), .int wd, .int lg])) (h_rg : g rg = .inr (4, [.ref (ad st), .ref (ad en)])) (h_st : g st = .inl (ty 0, 12, .inl fs)) (h_en : g en = .inl (ty 0, 12, .inl fe)) (hx3 : x < 3) (hf4 : f < 4) (hwd : wd = 0 ∨ wd = 1) : m_E l yX2_isOpenTo wsX2_isOpenTo 2 45 D ty [.ref (ad pp), .int (nI x), .ref (ad rg), .int nw] L ad g (some (.int (zb (opn wd fs fe (x * 4 + f) nw)))) g := by
  intro sz
  refine Met.ofW (cc := cX2_isOpenTo) (maxL := 4) (ret := (some .boolean)) (by decide) rfl ?_
  intro p e s m args below meth c s₁ B hml hv
  have hx := B.exec
  have hb := B.bytes
  have hrt := B.returns
  have hts := atoms_spec (ws := wsX2_isOpenTo) B.pre
  have hown : s.vm.findClass RX2 = some m.cls := findClass_of_methodNamed B.named
  have hlocks := B.notSynchronized
  obtain ⟨rfl, hB⟩ := m_start hv
  generalize va_A (m_w L ad g) sz = A at hB ⊢
  generalize s.heap = H at hB ⊢
  generalize ([] : List Loc) = locs at hB ⊢
  have hl := lv_entry ([.ref (ad pp), .int (nI x), .ref (ad rg), .int nw]) (n := 4) (Nat.le_of_ble_eq_true rfl)
  rw [lg_entry_eq]
  generalize (lg_sl ([.ref (ad pp), .int (nI x), .ref (ad rg), .int nw]) ++ List.replicate (4 - (lg_sl ([.ref (ad pp), .int (nI x), .ref (ad rg), .int nw])).length) Slot.unset).toArray = ls at hl ⊢
  have hl : lv_has ls 4 [(0, .ref (ad pp)), (1, .int (nI x)), (2, .ref (ad rg)), (3, .int nw)] := hl
  rcases hwd with hwd | hwd
  · skip
    rcases (show cv fs fe (x * 4 + f) nw = true ∨ cv fs fe (x * 4 + f) nw = false by cases cv fs fe (x * 4 + f) nw <;> simp) with hc | hc
    · skip
      refine lv_aload_n hx hb dX2_isOpenTo_0 rfl (lv_at hl 0 rfl) ?_
      refine m_get (C := RX0) (T := TX0) (N := 5) (ci := 0) hx hb hts in_X2_isOpenTo_X0 hown hB m_pp h_pp rfl 3 (by decide) (hts (.fieldLink RX2 21 "PaperRoom$Paper" "withdrawn" "Z") (by decide +kernel)) (fun _ h9 => h9) rfl dX2_isOpenTo_1 ?_
      refine b_if_ne_f 24 hx hb dX2_isOpenTo_4 (by decide) (by rw [hwd]; decide) ?_
      refine lv_aload_n hx hb dX2_isOpenTo_7 rfl (lv_at hl 2 rfl) ?_
      refine lv_iload_n hx hb dX2_isOpenTo_8 rfl (lv_at hl 1 rfl) ?_
      refine lv_aload_n hx hb dX2_isOpenTo_9 rfl (lv_at hl 0 rfl) ?_
      refine m_get (C := RX0) (T := TX0) (N := 5) (ci := 0) hx hb hts in_X2_isOpenTo_X0 hown hB m_pp h_pp rfl 0 (by decide) (hts (.fieldLink RX2 9 "PaperRoom$Paper" "folder" "I") (by decide +kernel)) (fun _ h9 => h9) rfl dX2_isOpenTo_10 ?_
      refine lv_iload_n hx hb dX2_isOpenTo_13 rfl (lv_at hl 3 rfl) ?_
      refine m_callVE (ci := 4) (As := [.int (nI x), .int (nI f), .int nw]) (rest := []) (c_Rights_cover l D ty L ad g rg st en fs fe x f nw m_rg m_st m_en h_rg h_st h_en hx3 hf4) ⟨hx, hb, hml, hown, hts⟩ (cwV 3 hts gX2_isOpenTo_X4_cover rfl rfl rfl (by decide +kernel) ⟨Nat.le_of_ble_eq_true rfl, Nat.le_of_ble_eq_true rfl⟩) hB m_rg h_rg rfl rfl hl.1 rfl (Nat.le_of_ble_eq_true rfl) dX2_isOpenTo_14 ⟨Nat.le_of_ble_eq_true rfl, Nat.le_of_ble_eq_true rfl⟩ (fun H locs hB => ?_)
      refine b_if_eq_f 24 hx hb dX2_isOpenTo_17 (by decide) (by rw [hc]; decide) ?_
      refine lv_iconst (v := 1) hx hb dX2_isOpenTo_20 (by decide) ?_
      refine lv_goto (tgt := 25) hx hb dX2_isOpenTo_21 (by decide) ?_
      exact m_zret hx hb hrt hlocks hB (Nat.le_refl _) (Nat.le_refl _) dX2_isOpenTo_25 rfl ⟨zt (by rw [opn, dt hwd, hc]; rfl), rfl, rfl, rfl⟩
    · skip
      refine lv_aload_n hx hb dX2_isOpenTo_0 rfl (lv_at hl 0 rfl) ?_
      refine m_get (C := RX0) (T := TX0) (N := 5) (ci := 0) hx hb hts in_X2_isOpenTo_X0 hown hB m_pp h_pp rfl 3 (by decide) (hts (.fieldLink RX2 21 "PaperRoom$Paper" "withdrawn" "Z") (by decide +kernel)) (fun _ h9 => h9) rfl dX2_isOpenTo_1 ?_
      refine b_if_ne_f 24 hx hb dX2_isOpenTo_4 (by decide) (by rw [hwd]; decide) ?_
      refine lv_aload_n hx hb dX2_isOpenTo_7 rfl (lv_at hl 2 rfl) ?_
      refine lv_iload_n hx hb dX2_isOpenTo_8 rfl (lv_at hl 1 rfl) ?_
      refine lv_aload_n hx hb dX2_isOpenTo_9 rfl (lv_at hl 0 rfl) ?_
      refine m_get (C := RX0) (T := TX0) (N := 5) (ci := 0) hx hb hts in_X2_isOpenTo_X0 hown hB m_pp h_pp rfl 0 (by decide) (hts (.fieldLink RX2 9 "PaperRoom$Paper" "folder" "I") (by decide +kernel)) (fun _ h9 => h9) rfl dX2_isOpenTo_10 ?_
      refine lv_iload_n hx hb dX2_isOpenTo_13 rfl (lv_at hl 3 rfl) ?_
      refine m_callVE (ci := 4) (As := [.int (nI x), .int (nI f), .int nw]) (rest := []) (c_Rights_cover l D ty L ad g rg st en fs fe x f nw m_rg m_st m_en h_rg h_st h_en hx3 hf4) ⟨hx, hb, hml, hown, hts⟩ (cwV 3 hts gX2_isOpenTo_X4_cover rfl rfl rfl (by decide +kernel) ⟨Nat.le_of_ble_eq_true rfl, Nat.le_of_ble_eq_true rfl⟩) hB m_rg h_rg rfl rfl hl.1 rfl (Nat.le_of_ble_eq_true rfl) dX2_isOpenTo_14 ⟨Nat.le_of_ble_eq_true rfl, Nat.le_of_ble_eq_true rfl⟩ (fun H locs hB => ?_)
      refine b_if_eq_t 24 hx hb dX2_isOpenTo_17 (by decide) (by rw [hc]; decide) ?_
      refine lv_iconst (v := 0) hx hb dX2_isOpenTo_24 (by decide) ?_
      exact m_zret hx hb hrt hlocks hB (Nat.le_refl _) (Nat.le_refl _) dX2_isOpenTo_25 rfl ⟨zf (by rw [opn, hc]; simp), rfl, rfl, rfl⟩
  · skip
    refine lv_aload_n hx hb dX2_isOpenTo_0 rfl (lv_at hl 0 rfl) ?_
    refine m_get (C := RX0) (T := TX0) (N := 5) (ci := 0) hx hb hts in_X2_isOpenTo_X0 hown hB m_pp h_pp rfl 3 (by decide) (hts (.fieldLink RX2 21 "PaperRoom$Paper" "withdrawn" "Z") (by decide +kernel)) (fun _ h9 => h9) rfl dX2_isOpenTo_1 ?_
    refine b_if_ne_t 24 hx hb dX2_isOpenTo_4 (by decide) (by rw [hwd]; decide) ?_
    refine lv_iconst (v := 0) hx hb dX2_isOpenTo_24 (by decide) ?_
    exact m_zret hx hb hrt hlocks hB (Nat.le_refl _) (Nat.le_refl _) dX2_isOpenTo_25 rfl ⟨zf (by rw [opn, df (by rw [hwd]; decide)]; rfl), rfl, rfl, rfl⟩
set_option maxHeartbeats 1000000 in
set_option maxRecDepth 100000 in
theorem c_Marked_kind (l : Launch) (D : va_G) (ty : Nat → ClassId) (L : List Nat) (ad : Nat → Nat) (g : Nat → va_E) (pp pt vn : Nat) (fo wd : Int32) (m_pp : pp ∈ L) (h_pp : g pp = .inr (1, [.int fo, .ref (ad pt), .int (nI vn), .int wd])) : m_E l yX1_kind wsX1_kind 0 0 D ty [.ref (ad pp)] L ad g (some (.int 2)) g := by
  intro sz
  refine Met.ofW (cc := cX1_kind) (maxL := 1) (ret := (some .int)) (by decide) rfl ?_
  intro p e s m args below meth c s₁ B hml hv
  have hx := B.exec
  have hb := B.bytes
  have hrt := B.returns
  have hts := atoms_spec (ws := wsX1_kind) B.pre
  have hown : s.vm.findClass RX1 = some m.cls := findClass_of_methodNamed B.named
  have hlocks := B.notSynchronized
  obtain ⟨rfl, hB⟩ := m_start hv
  generalize va_A (m_w L ad g) sz = A at hB ⊢
  generalize s.heap = H at hB ⊢
  generalize ([] : List Loc) = locs at hB ⊢
  have hl := lv_entry ([.ref (ad pp)]) (n := 1) (Nat.le_of_ble_eq_true rfl)
  rw [lg_entry_eq]
  generalize (lg_sl ([.ref (ad pp)]) ++ List.replicate (1 - (lg_sl ([.ref (ad pp)])).length) Slot.unset).toArray = ls at hl ⊢
  have hl : lv_has ls 1 [(0, .ref (ad pp))] := hl
  refine lv_iconst (v := 2) hx hb dX1_kind_0 (by decide) ?_
  exact m_iret hx hb hrt hlocks hB (Nat.le_refl _) (Nat.le_refl _) dX1_kind_1 ⟨rfl, rfl, rfl, rfl⟩
set_option maxRecDepth 20000 in
theorem in_X2_folder_X1 : ∀ w ∈ wsX10, w ∈ wsX2_folder := by decide +kernel
set_option maxHeartbeats 1000000 in
set_option maxRecDepth 100000 in
theorem c_Marked_folder (l : Launch) (D : va_G) (ty : Nat → ClassId) (L : List Nat) (ad : Nat → Nat) (g : Nat → va_E) (pp pt vn : Nat) (fo wd : Int32) (m_pp : pp ∈ L) (h_pp : g pp = .inr (1, [.int fo, .ref (ad pt), .int (nI vn), .int wd])) : m_E l yX2_folder wsX2_folder 0 0 D ty [.ref (ad pp)] L ad g (some (.int fo)) g := by
  intro sz
  refine Met.ofW (cc := cX2_folder) (maxL := 1) (ret := (some .int)) (by decide) rfl ?_
  intro p e s m args below meth c s₁ B hml hv
  have hx := B.exec
  have hb := B.bytes
  have hrt := B.returns
  have hts := atoms_spec (ws := wsX2_folder) B.pre
  have hown : s.vm.findClass RX2 = some m.cls := findClass_of_methodNamed B.named
  have hlocks := B.notSynchronized
  obtain ⟨rfl, hB⟩ := m_start hv
  generalize va_A (m_w L ad g) sz = A at hB ⊢
  generalize s.heap = H at hB ⊢
  generalize ([] : List Loc) = locs at hB ⊢
  have hl := lv_entry ([.ref (ad pp)]) (n := 1) (Nat.le_of_ble_eq_true rfl)
  rw [lg_entry_eq]
  generalize (lg_sl ([.ref (ad pp)]) ++ List.replicate (1 - (lg_sl ([.ref (ad pp)])).length) Slot.unset).toArray = ls at hl ⊢
  have hl : lv_has ls 1 [(0, .ref (ad pp))] := hl
  refine lv_aload_n hx hb dX2_folder_0 rfl (lv_at hl 0 rfl) ?_
  refine m_get (C := RX1) (T := TX1) (N := 4) (ci := 1) hx hb hts in_X2_folder_X1 hown hB m_pp h_pp rfl 0 (by decide) (hts (.fieldLink RX2 9 "PaperRoom$Paper" "folder" "I") (by decide +kernel)) (fun _ h9 => h9) rfl dX2_folder_1 ?_
  exact m_iret hx hb hrt hlocks hB (Nat.le_refl _) (Nat.le_refl _) dX2_folder_4 ⟨rfl, rfl, rfl, rfl⟩
set_option maxRecDepth 20000 in
theorem in_X2_versions_X1 : ∀ w ∈ wsX10, w ∈ wsX2_versions := by decide +kernel
set_option maxHeartbeats 1000000 in
set_option maxRecDepth 100000 in
theorem c_Marked_versions (l : Launch) (D : va_G) (ty : Nat → ClassId) (L : List Nat) (ad : Nat → Nat) (g : Nat → va_E) (pp pt vn : Nat) (fo wd : Int32) (m_pp : pp ∈ L) (h_pp : g pp = .inr (1, [.int fo, .ref (ad pt), .int (nI vn), .int wd])) : m_E l yX2_versions wsX2_versions 0 0 D ty [.ref (ad pp)] L ad g (some (.int (nI vn))) g := by
  intro sz
  refine Met.ofW (cc := cX2_versions) (maxL := 1) (ret := (some .int)) (by decide) rfl ?_
  intro p e s m args below meth c s₁ B hml hv
  have hx := B.exec
  have hb := B.bytes
  have hrt := B.returns
  have hts := atoms_spec (ws := wsX2_versions) B.pre
  have hown : s.vm.findClass RX2 = some m.cls := findClass_of_methodNamed B.named
  have hlocks := B.notSynchronized
  obtain ⟨rfl, hB⟩ := m_start hv
  generalize va_A (m_w L ad g) sz = A at hB ⊢
  generalize s.heap = H at hB ⊢
  generalize ([] : List Loc) = locs at hB ⊢
  have hl := lv_entry ([.ref (ad pp)]) (n := 1) (Nat.le_of_ble_eq_true rfl)
  rw [lg_entry_eq]
  generalize (lg_sl ([.ref (ad pp)]) ++ List.replicate (1 - (lg_sl ([.ref (ad pp)])).length) Slot.unset).toArray = ls at hl ⊢
  have hl : lv_has ls 1 [(0, .ref (ad pp))] := hl
  refine lv_aload_n hx hb dX2_versions_0 rfl (lv_at hl 0 rfl) ?_
  refine m_get (C := RX1) (T := TX1) (N := 4) (ci := 1) hx hb hts in_X2_versions_X1 hown hB m_pp h_pp rfl 2 (by decide) (hts (.fieldLink RX2 48 "PaperRoom$Paper" "textCount" "I") (by decide +kernel)) (fun _ h9 => h9) rfl dX2_versions_1 ?_
  exact m_iret hx hb hrt hlocks hB (Nat.le_refl _) (Nat.le_refl _) dX2_versions_4 ⟨rfl, rfl, rfl, rfl⟩
set_option maxRecDepth 20000 in
theorem in_X2_isWithdrawn_X1 : ∀ w ∈ wsX10, w ∈ wsX2_isWithdrawn := by decide +kernel
set_option maxHeartbeats 1000000 in
set_option maxRecDepth 100000 in
theorem c_Marked_isWithdrawn (l : Launch) (D : va_G) (ty : Nat → ClassId) (L : List Nat) (ad : Nat → Nat) (g : Nat → va_E) (pp pt vn : Nat) (fo wd : Int32) (m_pp : pp ∈ L) (h_pp : g pp = .inr (1, [.int fo, .ref (ad pt), .int (nI vn), .int wd])) (hwd : wd = 0 ∨ wd = 1) : m_E l yX2_isWithdrawn wsX2_isWithdrawn 0 0 D ty [.ref (ad pp)] L ad g (some (.int wd)) g := by
  intro sz
  refine Met.ofW (cc := cX2_isWithdrawn) (maxL := 1) (ret := (some .boolean)) (by decide) rfl ?_
  intro p e s m args below meth c s₁ B hml hv
  have hx := B.exec
  have hb := B.bytes
  have hrt := B.returns
  have hts := atoms_spec (ws := wsX2_isWithdrawn) B.pre
  have hown : s.vm.findClass RX2 = some m.cls := findClass_of_methodNamed B.named
  have hlocks := B.notSynchronized
  obtain ⟨rfl, hB⟩ := m_start hv
  generalize va_A (m_w L ad g) sz = A at hB ⊢
  generalize s.heap = H at hB ⊢
  generalize ([] : List Loc) = locs at hB ⊢
  have hl := lv_entry ([.ref (ad pp)]) (n := 1) (Nat.le_of_ble_eq_true rfl)
  rw [lg_entry_eq]
  generalize (lg_sl ([.ref (ad pp)]) ++ List.replicate (1 - (lg_sl ([.ref (ad pp)])).length) Slot.unset).toArray = ls at hl ⊢
  have hl : lv_has ls 1 [(0, .ref (ad pp))] := hl
  refine lv_aload_n hx hb dX2_isWithdrawn_0 rfl (lv_at hl 0 rfl) ?_
  refine m_get (C := RX1) (T := TX1) (N := 4) (ci := 1) hx hb hts in_X2_isWithdrawn_X1 hown hB m_pp h_pp rfl 3 (by decide) (hts (.fieldLink RX2 21 "PaperRoom$Paper" "withdrawn" "Z") (by decide +kernel)) (fun _ h9 => h9) rfl dX2_isWithdrawn_1 ?_
  exact m_zret hx hb hrt hlocks hB (Nat.le_refl _) (Nat.le_refl _) dX2_isWithdrawn_4 (by rcases hwd with h | h <;> rw [h] <;> rfl) ⟨rfl, rfl, rfl, rfl⟩
set_option maxRecDepth 20000 in
theorem in_X2_setWithdrawn_X1 : ∀ w ∈ wsX10, w ∈ wsX2_setWithdrawn := by decide +kernel
set_option maxHeartbeats 1000000 in
set_option maxRecDepth 100000 in
theorem c_Marked_setWithdrawn (l : Launch) (D : va_G) (ty : Nat → ClassId) (L : List Nat) (ad : Nat → Nat) (g : Nat → va_E) (pp pt vn : Nat) (fo wd : Int32) (m_pp : pp ∈ L) (h_pp : g pp = .inr (1, [.int fo, .ref (ad pt), .int (nI vn), .int wd])) : m_E l yX2_setWithdrawn wsX2_setWithdrawn 0 0 D ty [.ref (ad pp)] L ad g none (va_up g pp (.inr (1, [.int fo, .ref (ad pt), .int (nI vn), .int 1]))) := by
  intro sz
  refine Met.ofW (cc := cX2_setWithdrawn) (maxL := 1) (ret := none) (by decide) rfl ?_
  intro p e s m args below meth c s₁ B hml hv
  have hx := B.exec
  have hb := B.bytes
  have hrt := B.returns
  have hts := atoms_spec (ws := wsX2_setWithdrawn) B.pre
  have hown : s.vm.findClass RX2 = some m.cls := findClass_of_methodNamed B.named
  have hlocks := B.notSynchronized
  obtain ⟨rfl, hB⟩ := m_start hv
  generalize va_A (m_w L ad g) sz = A at hB ⊢
  generalize s.heap = H at hB ⊢
  generalize ([] : List Loc) = locs at hB ⊢
  have hl := lv_entry ([.ref (ad pp)]) (n := 1) (Nat.le_of_ble_eq_true rfl)
  rw [lg_entry_eq]
  generalize (lg_sl ([.ref (ad pp)]) ++ List.replicate (1 - (lg_sl ([.ref (ad pp)])).length) Slot.unset).toArray = ls at hl ⊢
  have hl : lv_has ls 1 [(0, .ref (ad pp))] := hl
  refine lv_aload_n hx hb dX2_setWithdrawn_0 rfl (lv_at hl 0 rfl) ?_
  refine lv_iconst (v := 1) hx hb dX2_setWithdrawn_1 (by decide) ?_
  refine m_put (C := RX1) (T := TX1) (N := 4) (ci := 1) (v := .int 1) (ft := .boolean) hx hb hts in_X2_setWithdrawn_X1 tyX1 tyX1_ok nmX1 hown hB m_pp h_pp rfl 3 (by decide) (hts (.fieldLink RX2 21 "PaperRoom$Paper" "withdrawn" "Z") (by decide +kernel)) (fun _ h9 => h9) rfl (by decide +kernel) rfl rfl (Nat.le_of_ble_eq_true rfl) dX2_setWithdrawn_2 (fun H locs hB => ?_)
  replace hB : m_B D ty A s L ad (va_up g pp (.inr (1, [.int fo, .ref (ad pt), .int (nI vn), .int 1]))) H locs := hB
  exact m_vret hx hb hrt hlocks hB (Nat.le_refl _) (Nat.le_refl _) dX2_setWithdrawn_5 ⟨rfl, rfl, rfl, rfl⟩
set_option maxRecDepth 20000 in
theorem in_X2_isFull_X1 : ∀ w ∈ wsX10, w ∈ wsX2_isFull := by decide +kernel
set_option maxHeartbeats 1000000 in
set_option maxRecDepth 100000 in
theorem c_Marked_isFull (l : Launch) (D : va_G) (ty : Nat → ClassId) (L : List Nat) (ad : Nat → Nat) (g : Nat → va_E) (pp pt vn : Nat) (fo wd : Int32) (tf : Nat → Option Nat) (m_pp : pp ∈ L) (m_pt : pt ∈ L) (h_pp : g pp = .inr (1, [.int fo, .ref (ad pt), .int (nI vn), .int wd])) (h_pt : g pt = .inl (ty 7, 4, .inr (.inr (.inr (.inr tf))))) (hv : vn ≤ 4) : m_E l yX2_isFull wsX2_isFull 0 0 D ty [.ref (ad pp)] L ad g (some (.int (zb (decide (vn = 4))))) g := by
  intro sz
  refine Met.ofW (cc := cX2_isFull) (maxL := 1) (ret := (some .boolean)) (by decide) rfl ?_
  intro p e s m args below meth c s₁ B hml hv
  have hx := B.exec
  have hb := B.bytes
  have hrt := B.returns
  have hts := atoms_spec (ws := wsX2_isFull) B.pre
  have hown : s.vm.findClass RX2 = some m.cls := findClass_of_methodNamed B.named
  have hlocks := B.notSynchronized
  obtain ⟨rfl, hB⟩ := m_start hv
  generalize va_A (m_w L ad g) sz = A at hB ⊢
  generalize s.heap = H at hB ⊢
  generalize ([] : List Loc) = locs at hB ⊢
  have hl := lv_entry ([.ref (ad pp)]) (n := 1) (Nat.le_of_ble_eq_true rfl)
  rw [lg_entry_eq]
  generalize (lg_sl ([.ref (ad pp)]) ++ List.replicate (1 - (lg_sl ([.ref (ad pp)])).length) Slot.unset).toArray = ls at hl ⊢
  have hl : lv_has ls 1 [(0, .ref (ad pp))] := hl
  have tI_vn : (nI vn).toInt = (vn : Int) := nI_toInt (by omega)
  have tI_4 : (nI 4).toInt = 4 := by decide
  rcases (show vn = 4 ∨ vn < 4 by omega) with h1 | h1
  · skip
    refine lv_aload_n hx hb dX2_isFull_0 rfl (lv_at hl 0 rfl) ?_
    refine m_get (C := RX1) (T := TX1) (N := 4) (ci := 1) hx hb hts in_X2_isFull_X1 hown hB m_pp h_pp rfl 2 (by decide) (hts (.fieldLink RX2 48 "PaperRoom$Paper" "textCount" "I") (by decide +kernel)) (fun _ h9 => h9) rfl dX2_isFull_1 ?_
    refine lv_aload_n hx hb dX2_isFull_4 rfl (lv_at hl 0 rfl) ?_
    refine m_get (C := RX1) (T := TX1) (N := 4) (ci := 1) hx hb hts in_X2_isFull_X1 hown hB m_pp h_pp rfl 1 (by decide) (hts (.fieldLink RX2 17 "PaperRoom$Paper" "texts" "[LPaperRoom$Text;") (by decide +kernel)) (fun _ h9 => h9) rfl dX2_isFull_5 ?_
    refine m_alen hx hb hB m_pt 7 h_pt rfl (v := nI 4) rfl dX2_isFull_8 ?_
    refine b_icmp_lt_f 16 hx hb dX2_isFull_9 (by decide) (by omega) ?_
    refine lv_iconst (v := 1) hx hb dX2_isFull_12 (by decide) ?_
    refine lv_goto (tgt := 17) hx hb dX2_isFull_13 (by decide) ?_
    exact m_zret hx hb hrt hlocks hB (Nat.le_refl _) (Nat.le_refl _) dX2_isFull_17 rfl ⟨zt (dt h1), rfl, rfl, rfl⟩
  · skip
    refine lv_aload_n hx hb dX2_isFull_0 rfl (lv_at hl 0 rfl) ?_
    refine m_get (C := RX1) (T := TX1) (N := 4) (ci := 1) hx hb hts in_X2_isFull_X1 hown hB m_pp h_pp rfl 2 (by decide) (hts (.fieldLink RX2 48 "PaperRoom$Paper" "textCount" "I") (by decide +kernel)) (fun _ h9 => h9) rfl dX2_isFull_1 ?_
    refine lv_aload_n hx hb dX2_isFull_4 rfl (lv_at hl 0 rfl) ?_
    refine m_get (C := RX1) (T := TX1) (N := 4) (ci := 1) hx hb hts in_X2_isFull_X1 hown hB m_pp h_pp rfl 1 (by decide) (hts (.fieldLink RX2 17 "PaperRoom$Paper" "texts" "[LPaperRoom$Text;") (by decide +kernel)) (fun _ h9 => h9) rfl dX2_isFull_5 ?_
    refine m_alen hx hb hB m_pt 7 h_pt rfl (v := nI 4) rfl dX2_isFull_8 ?_
    refine b_icmp_lt_t 16 hx hb dX2_isFull_9 (by decide) (by omega) ?_
    refine lv_iconst (v := 0) hx hb dX2_isFull_16 (by decide) ?_
    exact m_zret hx hb hrt hlocks hB (Nat.le_refl _) (Nat.le_refl _) dX2_isFull_17 rfl ⟨zf (df (by omega)), rfl, rfl, rfl⟩
set_option maxRecDepth 20000 in
theorem in_X2_text_X1 : ∀ w ∈ wsX10, w ∈ wsX2_text := by decide +kernel
set_option maxHeartbeats 1000000 in
set_option maxRecDepth 100000 in
theorem c_Marked_text_t (l : Launch) (D : va_G) (ty : Nat → ClassId) (L : List Nat) (ad : Nat → Nat) (g : Nat → va_E) (pp pt vn : Nat) (fo wd : Int32) (tf : Nat → Option Nat) (k : Nat) (m_pp : pp ∈ L) (m_pt : pt ∈ L) (h_pp : g pp = .inr (1, [.int fo, .ref (ad pt), .int (nI vn), .int wd])) (h_pt : g pt = .inl (ty 7, 4, .inr (.inr (.inr (.inr tf))))) (hk : k < 4) : m_E l yX2_text wsX2_text 1 21 D ty [.ref (ad pp), .int (nI k)] L ad g (some (va_rf (tf k))) g := by
  intro sz
  refine Met.ofW (cc := cX2_text) (maxL := 2) (ret := (some (.object "PaperRoom$Text"))) (by decide) rfl ?_
  intro p e s m args below meth c s₁ B hml hv
  have hx := B.exec
  have hb := B.bytes
  have hrt := B.returns
  have hts := atoms_spec (ws := wsX2_text) B.pre
  have hown : s.vm.findClass RX2 = some m.cls := findClass_of_methodNamed B.named
  have hlocks := B.notSynchronized
  obtain ⟨rfl, hB⟩ := m_start hv
  generalize va_A (m_w L ad g) sz = A at hB ⊢
  generalize s.heap = H at hB ⊢
  generalize ([] : List Loc) = locs at hB ⊢
  have hl := lv_entry ([.ref (ad pp), .int (nI k)]) (n := 2) (Nat.le_of_ble_eq_true rfl)
  rw [lg_entry_eq]
  generalize (lg_sl ([.ref (ad pp), .int (nI k)]) ++ List.replicate (2 - (lg_sl ([.ref (ad pp), .int (nI k)])).length) Slot.unset).toArray = ls at hl ⊢
  have hl : lv_has ls 2 [(0, .ref (ad pp)), (1, .int (nI k))] := hl
  have tI_k : (nI k).toInt = (k : Int) := nI_toInt (by omega)
  have tI_4 : (nI 4).toInt = 4 := by decide
  refine lv_iload_n hx hb dX2_text_0 rfl (lv_at hl 1 rfl) ?_
  refine lv_aload_n hx hb dX2_text_1 rfl (lv_at hl 0 rfl) ?_
  refine m_get (C := RX1) (T := TX1) (N := 4) (ci := 1) hx hb hts in_X2_text_X1 hown hB m_pp h_pp rfl 1 (by decide) (hts (.fieldLink RX2 17 "PaperRoom$Paper" "texts" "[LPaperRoom$Text;") (by decide +kernel)) (fun _ h9 => h9) rfl dX2_text_2 ?_
  refine m_alen hx hb hB m_pt 7 h_pt rfl (v := nI 4) rfl dX2_text_5 ?_
  refine m_callSNE (As := [.int (nI k), .int (nI 4)]) (rest := []) (c_isBelow_t l D ty L ad g _ _ (by omega) (by omega)) ⟨hx, hb, hml, hown, hts⟩ ⟨va_cnB 2 hts gX2_text_X8_isBelow_n51 rfl rfl rfl hB.2.1.2.2.2.2.1 (hts (.initialized RX8) (by decide +kernel)) (by decide +kernel) ⟨Nat.le_of_ble_eq_true rfl, Nat.le_of_ble_eq_true rfl⟩, hts (.static yX8_isBelow) (by decide +kernel), trivial⟩ hB rfl hl.1 rfl (Nat.le_of_ble_eq_true rfl) dX2_text_6 ⟨Nat.le_of_ble_eq_true rfl, Nat.le_of_ble_eq_true rfl⟩ (fun H locs hB => ?_)
  refine b_if_eq_f 21 hx hb dX2_text_9 (by decide) (by decide) ?_
  refine lv_aload_n hx hb dX2_text_12 rfl (lv_at hl 0 rfl) ?_
  refine m_get (C := RX1) (T := TX1) (N := 4) (ci := 1) hx hb hts in_X2_text_X1 hown hB m_pp h_pp rfl 1 (by decide) (hts (.fieldLink RX2 17 "PaperRoom$Paper" "texts" "[LPaperRoom$Text;") (by decide +kernel)) (fun _ h9 => h9) rfl dX2_text_13 ?_
  refine lv_iload_n hx hb dX2_text_16 rfl (lv_at hl 1 rfl) ?_
  refine n_aald hx hb hB m_pt 7 h_pt rfl k rfl (by omega) (by omega) (w := tf k) rfl dX2_text_17 ?_
  refine W.eq (g2 := F0 m 18 ls [va_rf (tf k)]) rfl ?_
  refine lv_goto (tgt := 22) hx hb dX2_text_18 (by decide) ?_
  exact m_aret (v := (tf k)) hx hb hrt hlocks hB (Nat.le_refl _) (Nat.le_refl _) dX2_text_22 ⟨rfl, rfl, rfl, rfl⟩
set_option maxHeartbeats 1000000 in
set_option maxRecDepth 100000 in
theorem c_Marked_text_f (l : Launch) (D : va_G) (ty : Nat → ClassId) (L : List Nat) (ad : Nat → Nat) (g : Nat → va_E) (pp pt vn : Nat) (fo wd : Int32) (tf : Nat → Option Nat) (i : Int32) (m_pp : pp ∈ L) (m_pt : pt ∈ L) (h_pp : g pp = .inr (1, [.int fo, .ref (ad pt), .int (nI vn), .int wd])) (h_pt : g pt = .inl (ty 7, 4, .inr (.inr (.inr (.inr tf))))) (hi : ¬ (0 ≤ i.toInt ∧ i.toInt < (nI 4).toInt)) : m_E l yX2_text wsX2_text 1 21 D ty [.ref (ad pp), .int i] L ad g (some (.null)) g := by
  intro sz
  refine Met.ofW (cc := cX2_text) (maxL := 2) (ret := (some (.object "PaperRoom$Text"))) (by decide) rfl ?_
  intro p e s m args below meth c s₁ B hml hv
  have hx := B.exec
  have hb := B.bytes
  have hrt := B.returns
  have hts := atoms_spec (ws := wsX2_text) B.pre
  have hown : s.vm.findClass RX2 = some m.cls := findClass_of_methodNamed B.named
  have hlocks := B.notSynchronized
  obtain ⟨rfl, hB⟩ := m_start hv
  generalize va_A (m_w L ad g) sz = A at hB ⊢
  generalize s.heap = H at hB ⊢
  generalize ([] : List Loc) = locs at hB ⊢
  have hl := lv_entry ([.ref (ad pp), .int i]) (n := 2) (Nat.le_of_ble_eq_true rfl)
  rw [lg_entry_eq]
  generalize (lg_sl ([.ref (ad pp), .int i]) ++ List.replicate (2 - (lg_sl ([.ref (ad pp), .int i])).length) Slot.unset).toArray = ls at hl ⊢
  have hl : lv_has ls 2 [(0, .ref (ad pp)), (1, .int i)] := hl
  refine lv_iload_n hx hb dX2_text_0 rfl (lv_at hl 1 rfl) ?_
  refine lv_aload_n hx hb dX2_text_1 rfl (lv_at hl 0 rfl) ?_
  refine m_get (C := RX1) (T := TX1) (N := 4) (ci := 1) hx hb hts in_X2_text_X1 hown hB m_pp h_pp rfl 1 (by decide) (hts (.fieldLink RX2 17 "PaperRoom$Paper" "texts" "[LPaperRoom$Text;") (by decide +kernel)) (fun _ h9 => h9) rfl dX2_text_2 ?_
  refine m_alen hx hb hB m_pt 7 h_pt rfl (v := nI 4) rfl dX2_text_5 ?_
  refine m_callSNE (As := [.int i, .int (nI 4)]) (rest := []) (c_isBelow_f l D ty L ad g _ _ hi) ⟨hx, hb, hml, hown, hts⟩ ⟨va_cnB 2 hts gX2_text_X8_isBelow_n51 rfl rfl rfl hB.2.1.2.2.2.2.1 (hts (.initialized RX8) (by decide +kernel)) (by decide +kernel) ⟨Nat.le_of_ble_eq_true rfl, Nat.le_of_ble_eq_true rfl⟩, hts (.static yX8_isBelow) (by decide +kernel), trivial⟩ hB rfl hl.1 rfl (Nat.le_of_ble_eq_true rfl) dX2_text_6 ⟨Nat.le_of_ble_eq_true rfl, Nat.le_of_ble_eq_true rfl⟩ (fun H locs hB => ?_)
  refine b_if_eq_t 21 hx hb dX2_text_9 (by decide) (by decide) ?_
  refine lv_null hx hb dX2_text_21 ?_
  exact m_aret (v := none) hx hb hrt hlocks hB (Nat.le_refl _) (Nat.le_refl _) dX2_text_22 ⟨rfl, rfl, rfl, rfl⟩
set_option maxRecDepth 20000 in
theorem in_X2_addText_X1 : ∀ w ∈ wsX10, w ∈ wsX2_addText := by decide +kernel
set_option maxHeartbeats 1000000 in
set_option maxRecDepth 100000 in
theorem c_Marked_addText (l : Launch) (D : va_G) (ty : Nat → ClassId) (L : List Nat) (ad : Nat → Nat) (g : Nat → va_E) (pp pt vn : Nat) (fo wd : Int32) (tf : Nat → Option Nat) (t ro bl : Nat) (m_pp : pp ∈ L) (m_pt : pt ∈ L) (m_t : t ∈ L) (h_pp : g pp = .inr (1, [.int fo, .ref (ad pt), .int (nI vn), .int wd])) (h_pt : g pt = .inl (ty 7, 4, .inr (.inr (.inr (.inr tf))))) (h_t : g t = .inr (7, [.ref (ad ro), .ref (ad bl)])) (hv : vn < 4) (ne1 : pp ≠ pt) (ne2 : t ≠ pt) (ne3 : t ≠ pp) : m_E l yX2_addText wsX2_addText 1 21 D ty [.ref (ad pp), .ref (ad t)] L ad g (some (.int (nI vn))) (va_up (va_up g pt (.inl (ty 7, 4, .inr (.inr (.inr (.inr (va_up tf vn (some (ad t))))))))) pp (.inr (1, [.int fo, .ref (ad pt), .int (nI (vn + 1)), .int wd]))) := by
  intro sz
  refine Met.ofW (cc := cX2_addText) (maxL := 2) (ret := (some .int)) (by decide) rfl ?_
  intro p e s m args below meth c s₁ B hml hv
  have hx := B.exec
  have hb := B.bytes
  have hrt := B.returns
  have hts := atoms_spec (ws := wsX2_addText) B.pre
  have hown : s.vm.findClass RX2 = some m.cls := findClass_of_methodNamed B.named
  have hlocks := B.notSynchronized
  obtain ⟨rfl, hB⟩ := m_start hv
  generalize va_A (m_w L ad g) sz = A at hB ⊢
  generalize s.heap = H at hB ⊢
  generalize ([] : List Loc) = locs at hB ⊢
  have hl := lv_entry ([.ref (ad pp), .ref (ad t)]) (n := 2) (Nat.le_of_ble_eq_true rfl)
  rw [lg_entry_eq]
  generalize (lg_sl ([.ref (ad pp), .ref (ad t)]) ++ List.replicate (2 - (lg_sl ([.ref (ad pp), .ref (ad t)])).length) Slot.unset).toArray = ls at hl ⊢
  have hl : lv_has ls 2 [(0, .ref (ad pp)), (1, .ref (ad t))] := hl
  have tI_vn : (nI vn).toInt = (vn : Int) := nI_toInt (by omega)
  have tI_4 : (nI 4).toInt = 4 := by decide
  refine lv_aload_n hx hb dX2_addText_0 rfl (lv_at hl 0 rfl) ?_
  refine m_get (C := RX1) (T := TX1) (N := 4) (ci := 1) hx hb hts in_X2_addText_X1 hown hB m_pp h_pp rfl 2 (by decide) (hts (.fieldLink RX2 48 "PaperRoom$Paper" "textCount" "I") (by decide +kernel)) (fun _ h9 => h9) rfl dX2_addText_1 ?_
  refine lv_aload_n hx hb dX2_addText_4 rfl (lv_at hl 0 rfl) ?_
  refine m_get (C := RX1) (T := TX1) (N := 4) (ci := 1) hx hb hts in_X2_addText_X1 hown hB m_pp h_pp rfl 1 (by decide) (hts (.fieldLink RX2 17 "PaperRoom$Paper" "texts" "[LPaperRoom$Text;") (by decide +kernel)) (fun _ h9 => h9) rfl dX2_addText_5 ?_
  refine m_alen hx hb hB m_pt 7 h_pt rfl (v := nI 4) rfl dX2_addText_8 ?_
  refine m_callSNE (As := [.int (nI vn), .int (nI 4)]) (rest := []) (c_isBelow_t l D ty L ad g _ _ (by omega) (by omega)) ⟨hx, hb, hml, hown, hts⟩ ⟨va_cnB 2 hts gX2_addText_X8_isBelow_n51 rfl rfl rfl hB.2.1.2.2.2.2.1 (hts (.initialized RX8) (by decide +kernel)) (by decide +kernel) ⟨Nat.le_of_ble_eq_true rfl, Nat.le_of_ble_eq_true rfl⟩, hts (.static yX8_isBelow) (by decide +kernel), trivial⟩ hB rfl hl.1 rfl (Nat.le_of_ble_eq_true rfl) dX2_addText_9 ⟨Nat.le_of_ble_eq_true rfl, Nat.le_of_ble_eq_true rfl⟩ (fun H locs hB => ?_)
  refine b_if_ne_t 18 hx hb dX2_addText_12 (by decide) (by decide) ?_
  refine lv_aload_n hx hb dX2_addText_18 rfl (lv_at hl 0 rfl) ?_
  refine m_get (C := RX1) (T := TX1) (N := 4) (ci := 1) hx hb hts in_X2_addText_X1 hown hB m_pp h_pp rfl 1 (by decide) (hts (.fieldLink RX2 17 "PaperRoom$Paper" "texts" "[LPaperRoom$Text;") (by decide +kernel)) (fun _ h9 => h9) rfl dX2_addText_19 ?_
  refine lv_aload_n hx hb dX2_addText_22 rfl (lv_at hl 0 rfl) ?_
  refine m_get (C := RX1) (T := TX1) (N := 4) (ci := 1) hx hb hts in_X2_addText_X1 hown hB m_pp h_pp rfl 2 (by decide) (hts (.fieldLink RX2 48 "PaperRoom$Paper" "textCount" "I") (by decide +kernel)) (fun _ h9 => h9) rfl dX2_addText_23 ?_
  refine lv_aload_n hx hb dX2_addText_26 rfl (lv_at hl 1 rfl) ?_
  refine n_aast hx hb hB m_pt 7 h_pt rfl m_t h_t rfl (fun _ _ h1 h2 => m_asg_self h1 h2) vn rfl (by omega) (by omega) dX2_addText_27 (fun H locs hB => ?_)
  replace hB : m_B D ty A s L ad (va_up g pt (.inl (ty 7, 4, .inr (.inr (.inr (.inr (va_up tf vn (some (ad t))))))))) H locs := hB
  refine lv_aload_n hx hb dX2_addText_28 rfl (lv_at hl 0 rfl) ?_
  refine lv_dup hx hb dX2_addText_29 rfl ?_
  refine m_get (C := RX1) (T := TX1) (N := 4) (ci := 1) hx hb hts in_X2_addText_X1 hown hB m_pp ((va_up_ne _ _ ne1).trans h_pp) rfl 2 (by decide) (hts (.fieldLink RX2 48 "PaperRoom$Paper" "textCount" "I") (by decide +kernel)) (fun _ h9 => h9) rfl dX2_addText_30 ?_
  refine lv_iconst (v := 1) hx hb dX2_addText_33 (by decide) ?_
  refine lv_iadd hx hb dX2_addText_34 ?_
  refine b_topi (w := nI (vn + 1)) (nI_add vn 1) ?_
  refine m_put (C := RX1) (T := TX1) (N := 4) (ci := 1) (v := .int (nI (vn + 1))) (ft := .int) hx hb hts in_X2_addText_X1 tyX1 tyX1_ok nmX1 hown hB m_pp ((va_up_ne _ _ ne1).trans h_pp) rfl 2 (by decide) (hts (.fieldLink RX2 48 "PaperRoom$Paper" "textCount" "I") (by decide +kernel)) (fun _ h9 => h9) rfl (by decide +kernel) rfl rfl (Nat.le_of_ble_eq_true rfl) dX2_addText_35 (fun H locs hB => ?_)
  replace hB : m_B D ty A s L ad (va_up (va_up g pt (.inl (ty 7, 4, .inr (.inr (.inr (.inr (va_up tf vn (some (ad t))))))))) pp (.inr (1, [.int fo, .ref (ad pt), .int (nI (vn + 1)), .int wd]))) H locs := hB
  refine lv_aload_n hx hb dX2_addText_38 rfl (lv_at hl 0 rfl) ?_
  refine m_get (C := RX1) (T := TX1) (N := 4) (ci := 1) hx hb hts in_X2_addText_X1 hown hB m_pp (va_up_self _ _ _) rfl 2 (by decide) (hts (.fieldLink RX2 48 "PaperRoom$Paper" "textCount" "I") (by decide +kernel)) (fun _ h9 => h9) rfl dX2_addText_39 ?_
  refine lv_iconst (v := 1) hx hb dX2_addText_42 (by decide) ?_
  refine lv_isub hx hb dX2_addText_43 ?_
  refine b_topi (w := nI vn) ((pk_sub (a := vn + 1) (b := 1) (by omega)).trans (by rw [Nat.add_sub_cancel])) ?_
  exact m_iret hx hb hrt hlocks hB (Nat.le_refl _) (Nat.le_refl _) dX2_addText_44 ⟨rfl, rfl, rfl, rfl⟩
set_option maxRecDepth 20000 in
theorem in_X2_isOpenTo_X1 : ∀ w ∈ wsX10, w ∈ wsX2_isOpenTo := by decide +kernel
set_option maxHeartbeats 1000000 in
set_option maxRecDepth 100000 in
theorem c_Marked_isOpen0 (l : Launch) (D : va_G) (ty : Nat → ClassId) (L : List Nat) (ad : Nat → Nat) (g : Nat → va_E) (pp pt vn : Nat) (wd : Int32) (rg st en : Nat) (fs fe : Nat → Int32) (x f : Nat) (nw : Int32) (m_pp : pp ∈ L) (m_rg : rg ∈ L) (m_st : st ∈ L) (m_en : en ∈ L) (h_pp : g pp = .inr (1, [.int (nI f), .ref (ad pt), .int (nI vn), .int wd])) (h_rg : g rg = .inr (4, [.ref (ad st), .ref (ad en)])) (h_st : g st = .inl (ty 0, 12, .inl fs)) (h_en : g en = .inl (ty 0, 12, .inl fe)) (hx3 : x < 3) (hf4 : f < 4) (hwd : wd = 0 ∨ wd = 1) : m_E l yX2_isOpenTo wsX2_isOpenTo 2 45 D ty [.ref (ad pp), .int (nI x), .ref (ad rg), .int nw] L ad g (some (.int (zb (opn wd fs fe (x * 4 + f) nw)))) g := by
  intro sz
  refine Met.ofW (cc := cX2_isOpenTo) (maxL := 4) (ret := (some .boolean)) (by decide) rfl ?_
  intro p e s m args below meth c s₁ B hml hv
  have hx := B.exec
  have hb := B.bytes
  have hrt := B.returns
  have hts := atoms_spec (ws := wsX2_isOpenTo) B.pre
  have hown : s.vm.findClass RX2 = some m.cls := findClass_of_methodNamed B.named
  have hlocks := B.notSynchronized
  obtain ⟨rfl, hB⟩ := m_start hv
  generalize va_A (m_w L ad g) sz = A at hB ⊢
  generalize s.heap = H at hB ⊢
  generalize ([] : List Loc) = locs at hB ⊢
  have hl := lv_entry ([.ref (ad pp), .int (nI x), .ref (ad rg), .int nw]) (n := 4) (Nat.le_of_ble_eq_true rfl)
  rw [lg_entry_eq]
  generalize (lg_sl ([.ref (ad pp), .int (nI x), .ref (ad rg), .int nw]) ++ List.replicate (4 - (lg_sl ([.ref (ad pp), .int (nI x), .ref (ad rg), .int nw])).length) Slot.unset).toArray = ls at hl ⊢
  have hl : lv_has ls 4 [(0, .ref (ad pp)), (1, .int (nI x)), (2, .ref (ad rg)), (3, .int nw)] := hl
  rcases hwd with hwd | hwd
  · skip
    rcases (show cv fs fe (x * 4 + f) nw = true ∨ cv fs fe (x * 4 + f) nw = false by cases cv fs fe (x * 4 + f) nw <;> simp) with hc | hc
    · skip
      refine lv_aload_n hx hb dX2_isOpenTo_0 rfl (lv_at hl 0 rfl) ?_
      refine m_get (C := RX1) (T := TX1) (N := 4) (ci := 1) hx hb hts in_X2_isOpenTo_X1 hown hB m_pp h_pp rfl 3 (by decide) (hts (.fieldLink RX2 21 "PaperRoom$Paper" "withdrawn" "Z") (by decide +kernel)) (fun _ h9 => h9) rfl dX2_isOpenTo_1 ?_
      refine b_if_ne_f 24 hx hb dX2_isOpenTo_4 (by decide) (by rw [hwd]; decide) ?_
      refine lv_aload_n hx hb dX2_isOpenTo_7 rfl (lv_at hl 2 rfl) ?_
      refine lv_iload_n hx hb dX2_isOpenTo_8 rfl (lv_at hl 1 rfl) ?_
      refine lv_aload_n hx hb dX2_isOpenTo_9 rfl (lv_at hl 0 rfl) ?_
      refine m_get (C := RX1) (T := TX1) (N := 4) (ci := 1) hx hb hts in_X2_isOpenTo_X1 hown hB m_pp h_pp rfl 0 (by decide) (hts (.fieldLink RX2 9 "PaperRoom$Paper" "folder" "I") (by decide +kernel)) (fun _ h9 => h9) rfl dX2_isOpenTo_10 ?_
      refine lv_iload_n hx hb dX2_isOpenTo_13 rfl (lv_at hl 3 rfl) ?_
      refine m_callVE (ci := 4) (As := [.int (nI x), .int (nI f), .int nw]) (rest := []) (c_Rights_cover l D ty L ad g rg st en fs fe x f nw m_rg m_st m_en h_rg h_st h_en hx3 hf4) ⟨hx, hb, hml, hown, hts⟩ (cwV 3 hts gX2_isOpenTo_X4_cover rfl rfl rfl (by decide +kernel) ⟨Nat.le_of_ble_eq_true rfl, Nat.le_of_ble_eq_true rfl⟩) hB m_rg h_rg rfl rfl hl.1 rfl (Nat.le_of_ble_eq_true rfl) dX2_isOpenTo_14 ⟨Nat.le_of_ble_eq_true rfl, Nat.le_of_ble_eq_true rfl⟩ (fun H locs hB => ?_)
      refine b_if_eq_f 24 hx hb dX2_isOpenTo_17 (by decide) (by rw [hc]; decide) ?_
      refine lv_iconst (v := 1) hx hb dX2_isOpenTo_20 (by decide) ?_
      refine lv_goto (tgt := 25) hx hb dX2_isOpenTo_21 (by decide) ?_
      exact m_zret hx hb hrt hlocks hB (Nat.le_refl _) (Nat.le_refl _) dX2_isOpenTo_25 rfl ⟨zt (by rw [opn, dt hwd, hc]; rfl), rfl, rfl, rfl⟩
    · skip
      refine lv_aload_n hx hb dX2_isOpenTo_0 rfl (lv_at hl 0 rfl) ?_
      refine m_get (C := RX1) (T := TX1) (N := 4) (ci := 1) hx hb hts in_X2_isOpenTo_X1 hown hB m_pp h_pp rfl 3 (by decide) (hts (.fieldLink RX2 21 "PaperRoom$Paper" "withdrawn" "Z") (by decide +kernel)) (fun _ h9 => h9) rfl dX2_isOpenTo_1 ?_
      refine b_if_ne_f 24 hx hb dX2_isOpenTo_4 (by decide) (by rw [hwd]; decide) ?_
      refine lv_aload_n hx hb dX2_isOpenTo_7 rfl (lv_at hl 2 rfl) ?_
      refine lv_iload_n hx hb dX2_isOpenTo_8 rfl (lv_at hl 1 rfl) ?_
      refine lv_aload_n hx hb dX2_isOpenTo_9 rfl (lv_at hl 0 rfl) ?_
      refine m_get (C := RX1) (T := TX1) (N := 4) (ci := 1) hx hb hts in_X2_isOpenTo_X1 hown hB m_pp h_pp rfl 0 (by decide) (hts (.fieldLink RX2 9 "PaperRoom$Paper" "folder" "I") (by decide +kernel)) (fun _ h9 => h9) rfl dX2_isOpenTo_10 ?_
      refine lv_iload_n hx hb dX2_isOpenTo_13 rfl (lv_at hl 3 rfl) ?_
      refine m_callVE (ci := 4) (As := [.int (nI x), .int (nI f), .int nw]) (rest := []) (c_Rights_cover l D ty L ad g rg st en fs fe x f nw m_rg m_st m_en h_rg h_st h_en hx3 hf4) ⟨hx, hb, hml, hown, hts⟩ (cwV 3 hts gX2_isOpenTo_X4_cover rfl rfl rfl (by decide +kernel) ⟨Nat.le_of_ble_eq_true rfl, Nat.le_of_ble_eq_true rfl⟩) hB m_rg h_rg rfl rfl hl.1 rfl (Nat.le_of_ble_eq_true rfl) dX2_isOpenTo_14 ⟨Nat.le_of_ble_eq_true rfl, Nat.le_of_ble_eq_true rfl⟩ (fun H locs hB => ?_)
      refine b_if_eq_t 24 hx hb dX2_isOpenTo_17 (by decide) (by rw [hc]; decide) ?_
      refine lv_iconst (v := 0) hx hb dX2_isOpenTo_24 (by decide) ?_
      exact m_zret hx hb hrt hlocks hB (Nat.le_refl _) (Nat.le_refl _) dX2_isOpenTo_25 rfl ⟨zf (by rw [opn, hc]; simp), rfl, rfl, rfl⟩
  · skip
    refine lv_aload_n hx hb dX2_isOpenTo_0 rfl (lv_at hl 0 rfl) ?_
    refine m_get (C := RX1) (T := TX1) (N := 4) (ci := 1) hx hb hts in_X2_isOpenTo_X1 hown hB m_pp h_pp rfl 3 (by decide) (hts (.fieldLink RX2 21 "PaperRoom$Paper" "withdrawn" "Z") (by decide +kernel)) (fun _ h9 => h9) rfl dX2_isOpenTo_1 ?_
    refine b_if_ne_t 24 hx hb dX2_isOpenTo_4 (by decide) (by rw [hwd]; decide) ?_
    refine lv_iconst (v := 0) hx hb dX2_isOpenTo_24 (by decide) ?_
    exact m_zret hx hb hrt hlocks hB (Nat.le_refl _) (Nat.le_refl _) dX2_isOpenTo_25 rfl ⟨zf (by rw [opn, df (by rw [hwd]; decide)]; rfl), rfl, rfl, rfl⟩
set_option maxHeartbeats 1000000 in
set_option maxRecDepth 100000 in
theorem c_Paper_kind (l : Launch) (D : va_G) (ty : Nat → ClassId) (L : List Nat) (ad : Nat → Nat) (g : Nat → va_E) (pp pt vn : Nat) (fo wd : Int32) (m_pp : pp ∈ L) (h_pp : g pp = .inr (2, [.int fo, .ref (ad pt), .int (nI vn), .int wd])) : m_E l yX2_kind wsX2_kind 0 0 D ty [.ref (ad pp)] L ad g (some (.int 0)) g := by
  intro sz
  refine Met.ofW (cc := cX2_kind) (maxL := 1) (ret := (some .int)) (by decide) rfl ?_
  intro p e s m args below meth c s₁ B hml hv
  have hx := B.exec
  have hb := B.bytes
  have hrt := B.returns
  have hts := atoms_spec (ws := wsX2_kind) B.pre
  have hown : s.vm.findClass RX2 = some m.cls := findClass_of_methodNamed B.named
  have hlocks := B.notSynchronized
  obtain ⟨rfl, hB⟩ := m_start hv
  generalize va_A (m_w L ad g) sz = A at hB ⊢
  generalize s.heap = H at hB ⊢
  generalize ([] : List Loc) = locs at hB ⊢
  have hl := lv_entry ([.ref (ad pp)]) (n := 1) (Nat.le_of_ble_eq_true rfl)
  rw [lg_entry_eq]
  generalize (lg_sl ([.ref (ad pp)]) ++ List.replicate (1 - (lg_sl ([.ref (ad pp)])).length) Slot.unset).toArray = ls at hl ⊢
  have hl : lv_has ls 1 [(0, .ref (ad pp))] := hl
  refine lv_iconst (v := 0) hx hb dX2_kind_0 (by decide) ?_
  exact m_iret hx hb hrt hlocks hB (Nat.le_refl _) (Nat.le_refl _) dX2_kind_1 ⟨rfl, rfl, rfl, rfl⟩
set_option maxRecDepth 20000 in
theorem in_X2_folder_X2 : ∀ w ∈ wsX20, w ∈ wsX2_folder := by decide +kernel
set_option maxHeartbeats 1000000 in
set_option maxRecDepth 100000 in
theorem c_Paper_folder (l : Launch) (D : va_G) (ty : Nat → ClassId) (L : List Nat) (ad : Nat → Nat) (g : Nat → va_E) (pp pt vn : Nat) (fo wd : Int32) (m_pp : pp ∈ L) (h_pp : g pp = .inr (2, [.int fo, .ref (ad pt), .int (nI vn), .int wd])) : m_E l yX2_folder wsX2_folder 0 0 D ty [.ref (ad pp)] L ad g (some (.int fo)) g := by
  intro sz
  refine Met.ofW (cc := cX2_folder) (maxL := 1) (ret := (some .int)) (by decide) rfl ?_
  intro p e s m args below meth c s₁ B hml hv
  have hx := B.exec
  have hb := B.bytes
  have hrt := B.returns
  have hts := atoms_spec (ws := wsX2_folder) B.pre
  have hown : s.vm.findClass RX2 = some m.cls := findClass_of_methodNamed B.named
  have hlocks := B.notSynchronized
  obtain ⟨rfl, hB⟩ := m_start hv
  generalize va_A (m_w L ad g) sz = A at hB ⊢
  generalize s.heap = H at hB ⊢
  generalize ([] : List Loc) = locs at hB ⊢
  have hl := lv_entry ([.ref (ad pp)]) (n := 1) (Nat.le_of_ble_eq_true rfl)
  rw [lg_entry_eq]
  generalize (lg_sl ([.ref (ad pp)]) ++ List.replicate (1 - (lg_sl ([.ref (ad pp)])).length) Slot.unset).toArray = ls at hl ⊢
  have hl : lv_has ls 1 [(0, .ref (ad pp))] := hl
  refine lv_aload_n hx hb dX2_folder_0 rfl (lv_at hl 0 rfl) ?_
  refine m_get (C := RX2) (T := TX2) (N := 4) (ci := 2) hx hb hts in_X2_folder_X2 hown hB m_pp h_pp rfl 0 (by decide) (hts (.fieldLink RX2 9 "PaperRoom$Paper" "folder" "I") (by decide +kernel)) (fun _ h9 => h9) rfl dX2_folder_1 ?_
  exact m_iret hx hb hrt hlocks hB (Nat.le_refl _) (Nat.le_refl _) dX2_folder_4 ⟨rfl, rfl, rfl, rfl⟩
set_option maxRecDepth 20000 in
theorem in_X2_versions_X2 : ∀ w ∈ wsX20, w ∈ wsX2_versions := by decide +kernel
set_option maxHeartbeats 1000000 in
set_option maxRecDepth 100000 in
theorem c_Paper_versions (l : Launch) (D : va_G) (ty : Nat → ClassId) (L : List Nat) (ad : Nat → Nat) (g : Nat → va_E) (pp pt vn : Nat) (fo wd : Int32) (m_pp : pp ∈ L) (h_pp : g pp = .inr (2, [.int fo, .ref (ad pt), .int (nI vn), .int wd])) : m_E l yX2_versions wsX2_versions 0 0 D ty [.ref (ad pp)] L ad g (some (.int (nI vn))) g := by
  intro sz
  refine Met.ofW (cc := cX2_versions) (maxL := 1) (ret := (some .int)) (by decide) rfl ?_
  intro p e s m args below meth c s₁ B hml hv
  have hx := B.exec
  have hb := B.bytes
  have hrt := B.returns
  have hts := atoms_spec (ws := wsX2_versions) B.pre
  have hown : s.vm.findClass RX2 = some m.cls := findClass_of_methodNamed B.named
  have hlocks := B.notSynchronized
  obtain ⟨rfl, hB⟩ := m_start hv
  generalize va_A (m_w L ad g) sz = A at hB ⊢
  generalize s.heap = H at hB ⊢
  generalize ([] : List Loc) = locs at hB ⊢
  have hl := lv_entry ([.ref (ad pp)]) (n := 1) (Nat.le_of_ble_eq_true rfl)
  rw [lg_entry_eq]
  generalize (lg_sl ([.ref (ad pp)]) ++ List.replicate (1 - (lg_sl ([.ref (ad pp)])).length) Slot.unset).toArray = ls at hl ⊢
  have hl : lv_has ls 1 [(0, .ref (ad pp))] := hl
  refine lv_aload_n hx hb dX2_versions_0 rfl (lv_at hl 0 rfl) ?_
  refine m_get (C := RX2) (T := TX2) (N := 4) (ci := 2) hx hb hts in_X2_versions_X2 hown hB m_pp h_pp rfl 2 (by decide) (hts (.fieldLink RX2 48 "PaperRoom$Paper" "textCount" "I") (by decide +kernel)) (fun _ h9 => h9) rfl dX2_versions_1 ?_
  exact m_iret hx hb hrt hlocks hB (Nat.le_refl _) (Nat.le_refl _) dX2_versions_4 ⟨rfl, rfl, rfl, rfl⟩
set_option maxRecDepth 20000 in
theorem in_X2_isWithdrawn_X2 : ∀ w ∈ wsX20, w ∈ wsX2_isWithdrawn := by decide +kernel
set_option maxHeartbeats 1000000 in
set_option maxRecDepth 100000 in
theorem c_Paper_isWithdrawn (l : Launch) (D : va_G) (ty : Nat → ClassId) (L : List Nat) (ad : Nat → Nat) (g : Nat → va_E) (pp pt vn : Nat) (fo wd : Int32) (m_pp : pp ∈ L) (h_pp : g pp = .inr (2, [.int fo, .ref (ad pt), .int (nI vn), .int wd])) (hwd : wd = 0 ∨ wd = 1) : m_E l yX2_isWithdrawn wsX2_isWithdrawn 0 0 D ty [.ref (ad pp)] L ad g (some (.int wd)) g := by
  intro sz
  refine Met.ofW (cc := cX2_isWithdrawn) (maxL := 1) (ret := (some .boolean)) (by decide) rfl ?_
  intro p e s m args below meth c s₁ B hml hv
  have hx := B.exec
  have hb := B.bytes
  have hrt := B.returns
  have hts := atoms_spec (ws := wsX2_isWithdrawn) B.pre
  have hown : s.vm.findClass RX2 = some m.cls := findClass_of_methodNamed B.named
  have hlocks := B.notSynchronized
  obtain ⟨rfl, hB⟩ := m_start hv
  generalize va_A (m_w L ad g) sz = A at hB ⊢
  generalize s.heap = H at hB ⊢
  generalize ([] : List Loc) = locs at hB ⊢
  have hl := lv_entry ([.ref (ad pp)]) (n := 1) (Nat.le_of_ble_eq_true rfl)
  rw [lg_entry_eq]
  generalize (lg_sl ([.ref (ad pp)]) ++ List.replicate (1 - (lg_sl ([.ref (ad pp)])).length) Slot.unset).toArray = ls at hl ⊢
  have hl : lv_has ls 1 [(0, .ref (ad pp))] := hl
  refine lv_aload_n hx hb dX2_isWithdrawn_0 rfl (lv_at hl 0 rfl) ?_
  refine m_get (C := RX2) (T := TX2) (N := 4) (ci := 2) hx hb hts in_X2_isWithdrawn_X2 hown hB m_pp h_pp rfl 3 (by decide) (hts (.fieldLink RX2 21 "PaperRoom$Paper" "withdrawn" "Z") (by decide +kernel)) (fun _ h9 => h9) rfl dX2_isWithdrawn_1 ?_
  exact m_zret hx hb hrt hlocks hB (Nat.le_refl _) (Nat.le_refl _) dX2_isWithdrawn_4 (by rcases hwd with h | h <;> rw [h] <;> rfl) ⟨rfl, rfl, rfl, rfl⟩
set_option maxRecDepth 20000 in
theorem in_X2_setWithdrawn_X2 : ∀ w ∈ wsX20, w ∈ wsX2_setWithdrawn := by decide +kernel
set_option maxHeartbeats 1000000 in
set_option maxRecDepth 100000 in
theorem c_Paper_setWithdrawn (l : Launch) (D : va_G) (ty : Nat → ClassId) (L : List Nat) (ad : Nat → Nat) (g : Nat → va_E) (pp pt vn : Nat) (fo wd : Int32) (m_pp : pp ∈ L) (h_pp : g pp = .inr (2, [.int fo, .ref (ad pt), .int (nI vn), .int wd])) : m_E l yX2_setWithdrawn wsX2_setWithdrawn 0 0 D ty [.ref (ad pp)] L ad g none (va_up g pp (.inr (2, [.int fo, .ref (ad pt), .int (nI vn), .int 1]))) := by
  intro sz
  refine Met.ofW (cc := cX2_setWithdrawn) (maxL := 1) (ret := none) (by decide) rfl ?_
  intro p e s m args below meth c s₁ B hml hv
  have hx := B.exec
  have hb := B.bytes
  have hrt := B.returns
  have hts := atoms_spec (ws := wsX2_setWithdrawn) B.pre
  have hown : s.vm.findClass RX2 = some m.cls := findClass_of_methodNamed B.named
  have hlocks := B.notSynchronized
  obtain ⟨rfl, hB⟩ := m_start hv
  generalize va_A (m_w L ad g) sz = A at hB ⊢
  generalize s.heap = H at hB ⊢
  generalize ([] : List Loc) = locs at hB ⊢
  have hl := lv_entry ([.ref (ad pp)]) (n := 1) (Nat.le_of_ble_eq_true rfl)
  rw [lg_entry_eq]
  generalize (lg_sl ([.ref (ad pp)]) ++ List.replicate (1 - (lg_sl ([.ref (ad pp)])).length) Slot.unset).toArray = ls at hl ⊢
  have hl : lv_has ls 1 [(0, .ref (ad pp))] := hl
  refine lv_aload_n hx hb dX2_setWithdrawn_0 rfl (lv_at hl 0 rfl) ?_
  refine lv_iconst (v := 1) hx hb dX2_setWithdrawn_1 (by decide) ?_
  refine m_put (C := RX2) (T := TX2) (N := 4) (ci := 2) (v := .int 1) (ft := .boolean) hx hb hts in_X2_setWithdrawn_X2 tyX2 tyX2_ok nmX2 hown hB m_pp h_pp rfl 3 (by decide) (hts (.fieldLink RX2 21 "PaperRoom$Paper" "withdrawn" "Z") (by decide +kernel)) (fun _ h9 => h9) rfl (by decide +kernel) rfl rfl (Nat.le_of_ble_eq_true rfl) dX2_setWithdrawn_2 (fun H locs hB => ?_)
  replace hB : m_B D ty A s L ad (va_up g pp (.inr (2, [.int fo, .ref (ad pt), .int (nI vn), .int 1]))) H locs := hB
  exact m_vret hx hb hrt hlocks hB (Nat.le_refl _) (Nat.le_refl _) dX2_setWithdrawn_5 ⟨rfl, rfl, rfl, rfl⟩
set_option maxRecDepth 20000 in
theorem in_X2_isFull_X2 : ∀ w ∈ wsX20, w ∈ wsX2_isFull := by decide +kernel
set_option maxHeartbeats 1000000 in
set_option maxRecDepth 100000 in
theorem c_Paper_isFull (l : Launch) (D : va_G) (ty : Nat → ClassId) (L : List Nat) (ad : Nat → Nat) (g : Nat → va_E) (pp pt vn : Nat) (fo wd : Int32) (tf : Nat → Option Nat) (m_pp : pp ∈ L) (m_pt : pt ∈ L) (h_pp : g pp = .inr (2, [.int fo, .ref (ad pt), .int (nI vn), .int wd])) (h_pt : g pt = .inl (ty 7, 4, .inr (.inr (.inr (.inr tf))))) (hv : vn ≤ 4) : m_E l yX2_isFull wsX2_isFull 0 0 D ty [.ref (ad pp)] L ad g (some (.int (zb (decide (vn = 4))))) g := by
  intro sz
  refine Met.ofW (cc := cX2_isFull) (maxL := 1) (ret := (some .boolean)) (by decide) rfl ?_
  intro p e s m args below meth c s₁ B hml hv
  have hx := B.exec
  have hb := B.bytes
  have hrt := B.returns
  have hts := atoms_spec (ws := wsX2_isFull) B.pre
  have hown : s.vm.findClass RX2 = some m.cls := findClass_of_methodNamed B.named
  have hlocks := B.notSynchronized
  obtain ⟨rfl, hB⟩ := m_start hv
  generalize va_A (m_w L ad g) sz = A at hB ⊢
  generalize s.heap = H at hB ⊢
  generalize ([] : List Loc) = locs at hB ⊢
  have hl := lv_entry ([.ref (ad pp)]) (n := 1) (Nat.le_of_ble_eq_true rfl)
  rw [lg_entry_eq]
  generalize (lg_sl ([.ref (ad pp)]) ++ List.replicate (1 - (lg_sl ([.ref (ad pp)])).length) Slot.unset).toArray = ls at hl ⊢
  have hl : lv_has ls 1 [(0, .ref (ad pp))] := hl
  have tI_vn : (nI vn).toInt = (vn : Int) := nI_toInt (by omega)
  have tI_4 : (nI 4).toInt = 4 := by decide
  rcases (show vn = 4 ∨ vn < 4 by omega) with h1 | h1
  · skip
    refine lv_aload_n hx hb dX2_isFull_0 rfl (lv_at hl 0 rfl) ?_
    refine m_get (C := RX2) (T := TX2) (N := 4) (ci := 2) hx hb hts in_X2_isFull_X2 hown hB m_pp h_pp rfl 2 (by decide) (hts (.fieldLink RX2 48 "PaperRoom$Paper" "textCount" "I") (by decide +kernel)) (fun _ h9 => h9) rfl dX2_isFull_1 ?_
    refine lv_aload_n hx hb dX2_isFull_4 rfl (lv_at hl 0 rfl) ?_
    refine m_get (C := RX2) (T := TX2) (N := 4) (ci := 2) hx hb hts in_X2_isFull_X2 hown hB m_pp h_pp rfl 1 (by decide) (hts (.fieldLink RX2 17 "PaperRoom$Paper" "texts" "[LPaperRoom$Text;") (by decide +kernel)) (fun _ h9 => h9) rfl dX2_isFull_5 ?_
    refine m_alen hx hb hB m_pt 7 h_pt rfl (v := nI 4) rfl dX2_isFull_8 ?_
    refine b_icmp_lt_f 16 hx hb dX2_isFull_9 (by decide) (by omega) ?_
    refine lv_iconst (v := 1) hx hb dX2_isFull_12 (by decide) ?_
    refine lv_goto (tgt := 17) hx hb dX2_isFull_13 (by decide) ?_
    exact m_zret hx hb hrt hlocks hB (Nat.le_refl _) (Nat.le_refl _) dX2_isFull_17 rfl ⟨zt (dt h1), rfl, rfl, rfl⟩
  · skip
    refine lv_aload_n hx hb dX2_isFull_0 rfl (lv_at hl 0 rfl) ?_
    refine m_get (C := RX2) (T := TX2) (N := 4) (ci := 2) hx hb hts in_X2_isFull_X2 hown hB m_pp h_pp rfl 2 (by decide) (hts (.fieldLink RX2 48 "PaperRoom$Paper" "textCount" "I") (by decide +kernel)) (fun _ h9 => h9) rfl dX2_isFull_1 ?_
    refine lv_aload_n hx hb dX2_isFull_4 rfl (lv_at hl 0 rfl) ?_
    refine m_get (C := RX2) (T := TX2) (N := 4) (ci := 2) hx hb hts in_X2_isFull_X2 hown hB m_pp h_pp rfl 1 (by decide) (hts (.fieldLink RX2 17 "PaperRoom$Paper" "texts" "[LPaperRoom$Text;") (by decide +kernel)) (fun _ h9 => h9) rfl dX2_isFull_5 ?_
    refine m_alen hx hb hB m_pt 7 h_pt rfl (v := nI 4) rfl dX2_isFull_8 ?_
    refine b_icmp_lt_t 16 hx hb dX2_isFull_9 (by decide) (by omega) ?_
    refine lv_iconst (v := 0) hx hb dX2_isFull_16 (by decide) ?_
    exact m_zret hx hb hrt hlocks hB (Nat.le_refl _) (Nat.le_refl _) dX2_isFull_17 rfl ⟨zf (df (by omega)), rfl, rfl, rfl⟩
set_option maxRecDepth 20000 in
theorem in_X2_text_X2 : ∀ w ∈ wsX20, w ∈ wsX2_text := by decide +kernel
set_option maxHeartbeats 1000000 in
set_option maxRecDepth 100000 in
theorem c_Paper_text_t (l : Launch) (D : va_G) (ty : Nat → ClassId) (L : List Nat) (ad : Nat → Nat) (g : Nat → va_E) (pp pt vn : Nat) (fo wd : Int32) (tf : Nat → Option Nat) (k : Nat) (m_pp : pp ∈ L) (m_pt : pt ∈ L) (h_pp : g pp = .inr (2, [.int fo, .ref (ad pt), .int (nI vn), .int wd])) (h_pt : g pt = .inl (ty 7, 4, .inr (.inr (.inr (.inr tf))))) (hk : k < 4) : m_E l yX2_text wsX2_text 1 21 D ty [.ref (ad pp), .int (nI k)] L ad g (some (va_rf (tf k))) g := by
  intro sz
  refine Met.ofW (cc := cX2_text) (maxL := 2) (ret := (some (.object "PaperRoom$Text"))) (by decide) rfl ?_
  intro p e s m args below meth c s₁ B hml hv
  have hx := B.exec
  have hb := B.bytes
  have hrt := B.returns
  have hts := atoms_spec (ws := wsX2_text) B.pre
  have hown : s.vm.findClass RX2 = some m.cls := findClass_of_methodNamed B.named
  have hlocks := B.notSynchronized
  obtain ⟨rfl, hB⟩ := m_start hv
  generalize va_A (m_w L ad g) sz = A at hB ⊢
  generalize s.heap = H at hB ⊢
  generalize ([] : List Loc) = locs at hB ⊢
  have hl := lv_entry ([.ref (ad pp), .int (nI k)]) (n := 2) (Nat.le_of_ble_eq_true rfl)
  rw [lg_entry_eq]
  generalize (lg_sl ([.ref (ad pp), .int (nI k)]) ++ List.replicate (2 - (lg_sl ([.ref (ad pp), .int (nI k)])).length) Slot.unset).toArray = ls at hl ⊢
  have hl : lv_has ls 2 [(0, .ref (ad pp)), (1, .int (nI k))] := hl
  have tI_k : (nI k).toInt = (k : Int) := nI_toInt (by omega)
  have tI_4 : (nI 4).toInt = 4 := by decide
  refine lv_iload_n hx hb dX2_text_0 rfl (lv_at hl 1 rfl) ?_
  refine lv_aload_n hx hb dX2_text_1 rfl (lv_at hl 0 rfl) ?_
  refine m_get (C := RX2) (T := TX2) (N := 4) (ci := 2) hx hb hts in_X2_text_X2 hown hB m_pp h_pp rfl 1 (by decide) (hts (.fieldLink RX2 17 "PaperRoom$Paper" "texts" "[LPaperRoom$Text;") (by decide +kernel)) (fun _ h9 => h9) rfl dX2_text_2 ?_
  refine m_alen hx hb hB m_pt 7 h_pt rfl (v := nI 4) rfl dX2_text_5 ?_
  refine m_callSNE (As := [.int (nI k), .int (nI 4)]) (rest := []) (c_isBelow_t l D ty L ad g _ _ (by omega) (by omega)) ⟨hx, hb, hml, hown, hts⟩ ⟨va_cnB 2 hts gX2_text_X8_isBelow_n51 rfl rfl rfl hB.2.1.2.2.2.2.1 (hts (.initialized RX8) (by decide +kernel)) (by decide +kernel) ⟨Nat.le_of_ble_eq_true rfl, Nat.le_of_ble_eq_true rfl⟩, hts (.static yX8_isBelow) (by decide +kernel), trivial⟩ hB rfl hl.1 rfl (Nat.le_of_ble_eq_true rfl) dX2_text_6 ⟨Nat.le_of_ble_eq_true rfl, Nat.le_of_ble_eq_true rfl⟩ (fun H locs hB => ?_)
  refine b_if_eq_f 21 hx hb dX2_text_9 (by decide) (by decide) ?_
  refine lv_aload_n hx hb dX2_text_12 rfl (lv_at hl 0 rfl) ?_
  refine m_get (C := RX2) (T := TX2) (N := 4) (ci := 2) hx hb hts in_X2_text_X2 hown hB m_pp h_pp rfl 1 (by decide) (hts (.fieldLink RX2 17 "PaperRoom$Paper" "texts" "[LPaperRoom$Text;") (by decide +kernel)) (fun _ h9 => h9) rfl dX2_text_13 ?_
  refine lv_iload_n hx hb dX2_text_16 rfl (lv_at hl 1 rfl) ?_
  refine n_aald hx hb hB m_pt 7 h_pt rfl k rfl (by omega) (by omega) (w := tf k) rfl dX2_text_17 ?_
  refine W.eq (g2 := F0 m 18 ls [va_rf (tf k)]) rfl ?_
  refine lv_goto (tgt := 22) hx hb dX2_text_18 (by decide) ?_
  exact m_aret (v := (tf k)) hx hb hrt hlocks hB (Nat.le_refl _) (Nat.le_refl _) dX2_text_22 ⟨rfl, rfl, rfl, rfl⟩
set_option maxHeartbeats 1000000 in
set_option maxRecDepth 100000 in
theorem c_Paper_text_f (l : Launch) (D : va_G) (ty : Nat → ClassId) (L : List Nat) (ad : Nat → Nat) (g : Nat → va_E) (pp pt vn : Nat) (fo wd : Int32) (tf : Nat → Option Nat) (i : Int32) (m_pp : pp ∈ L) (m_pt : pt ∈ L) (h_pp : g pp = .inr (2, [.int fo, .ref (ad pt), .int (nI vn), .int wd])) (h_pt : g pt = .inl (ty 7, 4, .inr (.inr (.inr (.inr tf))))) (hi : ¬ (0 ≤ i.toInt ∧ i.toInt < (nI 4).toInt)) : m_E l yX2_text wsX2_text 1 21 D ty [.ref (ad pp), .int i] L ad g (some (.null)) g := by
  intro sz
  refine Met.ofW (cc := cX2_text) (maxL := 2) (ret := (some (.object "PaperRoom$Text"))) (by decide) rfl ?_
  intro p e s m args below meth c s₁ B hml hv
  have hx := B.exec
  have hb := B.bytes
  have hrt := B.returns
  have hts := atoms_spec (ws := wsX2_text) B.pre
  have hown : s.vm.findClass RX2 = some m.cls := findClass_of_methodNamed B.named
  have hlocks := B.notSynchronized
  obtain ⟨rfl, hB⟩ := m_start hv
  generalize va_A (m_w L ad g) sz = A at hB ⊢
  generalize s.heap = H at hB ⊢
  generalize ([] : List Loc) = locs at hB ⊢
  have hl := lv_entry ([.ref (ad pp), .int i]) (n := 2) (Nat.le_of_ble_eq_true rfl)
  rw [lg_entry_eq]
  generalize (lg_sl ([.ref (ad pp), .int i]) ++ List.replicate (2 - (lg_sl ([.ref (ad pp), .int i])).length) Slot.unset).toArray = ls at hl ⊢
  have hl : lv_has ls 2 [(0, .ref (ad pp)), (1, .int i)] := hl
  refine lv_iload_n hx hb dX2_text_0 rfl (lv_at hl 1 rfl) ?_
  refine lv_aload_n hx hb dX2_text_1 rfl (lv_at hl 0 rfl) ?_
  refine m_get (C := RX2) (T := TX2) (N := 4) (ci := 2) hx hb hts in_X2_text_X2 hown hB m_pp h_pp rfl 1 (by decide) (hts (.fieldLink RX2 17 "PaperRoom$Paper" "texts" "[LPaperRoom$Text;") (by decide +kernel)) (fun _ h9 => h9) rfl dX2_text_2 ?_
  refine m_alen hx hb hB m_pt 7 h_pt rfl (v := nI 4) rfl dX2_text_5 ?_
  refine m_callSNE (As := [.int i, .int (nI 4)]) (rest := []) (c_isBelow_f l D ty L ad g _ _ hi) ⟨hx, hb, hml, hown, hts⟩ ⟨va_cnB 2 hts gX2_text_X8_isBelow_n51 rfl rfl rfl hB.2.1.2.2.2.2.1 (hts (.initialized RX8) (by decide +kernel)) (by decide +kernel) ⟨Nat.le_of_ble_eq_true rfl, Nat.le_of_ble_eq_true rfl⟩, hts (.static yX8_isBelow) (by decide +kernel), trivial⟩ hB rfl hl.1 rfl (Nat.le_of_ble_eq_true rfl) dX2_text_6 ⟨Nat.le_of_ble_eq_true rfl, Nat.le_of_ble_eq_true rfl⟩ (fun H locs hB => ?_)
  refine b_if_eq_t 21 hx hb dX2_text_9 (by decide) (by decide) ?_
  refine lv_null hx hb dX2_text_21 ?_
  exact m_aret (v := none) hx hb hrt hlocks hB (Nat.le_refl _) (Nat.le_refl _) dX2_text_22 ⟨rfl, rfl, rfl, rfl⟩
set_option maxRecDepth 20000 in
theorem in_X2_addText_X2 : ∀ w ∈ wsX20, w ∈ wsX2_addText := by decide +kernel
set_option maxHeartbeats 1000000 in
set_option maxRecDepth 100000 in
theorem c_Paper_addText (l : Launch) (D : va_G) (ty : Nat → ClassId) (L : List Nat) (ad : Nat → Nat) (g : Nat → va_E) (pp pt vn : Nat) (fo wd : Int32) (tf : Nat → Option Nat) (t ro bl : Nat) (m_pp : pp ∈ L) (m_pt : pt ∈ L) (m_t : t ∈ L) (h_pp : g pp = .inr (2, [.int fo, .ref (ad pt), .int (nI vn), .int wd])) (h_pt : g pt = .inl (ty 7, 4, .inr (.inr (.inr (.inr tf))))) (h_t : g t = .inr (7, [.ref (ad ro), .ref (ad bl)])) (hv : vn < 4) (ne1 : pp ≠ pt) (ne2 : t ≠ pt) (ne3 : t ≠ pp) : m_E l yX2_addText wsX2_addText 1 21 D ty [.ref (ad pp), .ref (ad t)] L ad g (some (.int (nI vn))) (va_up (va_up g pt (.inl (ty 7, 4, .inr (.inr (.inr (.inr (va_up tf vn (some (ad t))))))))) pp (.inr (2, [.int fo, .ref (ad pt), .int (nI (vn + 1)), .int wd]))) := by
  intro sz
  refine Met.ofW (cc := cX2_addText) (maxL := 2) (ret := (some .int)) (by decide) rfl ?_
  intro p e s m args below meth c s₁ B hml hv
  have hx := B.exec
  have hb := B.bytes
  have hrt := B.returns
  have hts := atoms_spec (ws := wsX2_addText) B.pre
  have hown : s.vm.findClass RX2 = some m.cls := findClass_of_methodNamed B.named
  have hlocks := B.notSynchronized
  obtain ⟨rfl, hB⟩ := m_start hv
  generalize va_A (m_w L ad g) sz = A at hB ⊢
  generalize s.heap = H at hB ⊢
  generalize ([] : List Loc) = locs at hB ⊢
  have hl := lv_entry ([.ref (ad pp), .ref (ad t)]) (n := 2) (Nat.le_of_ble_eq_true rfl)
  rw [lg_entry_eq]
  generalize (lg_sl ([.ref (ad pp), .ref (ad t)]) ++ List.replicate (2 - (lg_sl ([.ref (ad pp), .ref (ad t)])).length) Slot.unset).toArray = ls at hl ⊢
  have hl : lv_has ls 2 [(0, .ref (ad pp)), (1, .ref (ad t))] := hl
  have tI_vn : (nI vn).toInt = (vn : Int) := nI_toInt (by omega)
  have tI_4 : (nI 4).toInt = 4 := by decide
  refine lv_aload_n hx hb dX2_addText_0 rfl (lv_at hl 0 rfl) ?_
  refine m_get (C := RX2) (T := TX2) (N := 4) (ci := 2) hx hb hts in_X2_addText_X2 hown hB m_pp h_pp rfl 2 (by decide) (hts (.fieldLink RX2 48 "PaperRoom$Paper" "textCount" "I") (by decide +kernel)) (fun _ h9 => h9) rfl dX2_addText_1 ?_
  refine lv_aload_n hx hb dX2_addText_4 rfl (lv_at hl 0 rfl) ?_
  refine m_get (C := RX2) (T := TX2) (N := 4) (ci := 2) hx hb hts in_X2_addText_X2 hown hB m_pp h_pp rfl 1 (by decide) (hts (.fieldLink RX2 17 "PaperRoom$Paper" "texts" "[LPaperRoom$Text;") (by decide +kernel)) (fun _ h9 => h9) rfl dX2_addText_5 ?_
  refine m_alen hx hb hB m_pt 7 h_pt rfl (v := nI 4) rfl dX2_addText_8 ?_
  refine m_callSNE (As := [.int (nI vn), .int (nI 4)]) (rest := []) (c_isBelow_t l D ty L ad g _ _ (by omega) (by omega)) ⟨hx, hb, hml, hown, hts⟩ ⟨va_cnB 2 hts gX2_addText_X8_isBelow_n51 rfl rfl rfl hB.2.1.2.2.2.2.1 (hts (.initialized RX8) (by decide +kernel)) (by decide +kernel) ⟨Nat.le_of_ble_eq_true rfl, Nat.le_of_ble_eq_true rfl⟩, hts (.static yX8_isBelow) (by decide +kernel), trivial⟩ hB rfl hl.1 rfl (Nat.le_of_ble_eq_true rfl) dX2_addText_9 ⟨Nat.le_of_ble_eq_true rfl, Nat.le_of_ble_eq_true rfl⟩ (fun H locs hB => ?_)
  refine b_if_ne_t 18 hx hb dX2_addText_12 (by decide) (by decide) ?_
  refine lv_aload_n hx hb dX2_addText_18 rfl (lv_at hl 0 rfl) ?_
  refine m_get (C := RX2) (T := TX2) (N := 4) (ci := 2) hx hb hts in_X2_addText_X2 hown hB m_pp h_pp rfl 1 (by decide) (hts (.fieldLink RX2 17 "PaperRoom$Paper" "texts" "[LPaperRoom$Text;") (by decide +kernel)) (fun _ h9 => h9) rfl dX2_addText_19 ?_
  refine lv_aload_n hx hb dX2_addText_22 rfl (lv_at hl 0 rfl) ?_
  refine m_get (C := RX2) (T := TX2) (N := 4) (ci := 2) hx hb hts in_X2_addText_X2 hown hB m_pp h_pp rfl 2 (by decide) (hts (.fieldLink RX2 48 "PaperRoom$Paper" "textCount" "I") (by decide +kernel)) (fun _ h9 => h9) rfl dX2_addText_23 ?_
  refine lv_aload_n hx hb dX2_addText_26 rfl (lv_at hl 1 rfl) ?_
  refine n_aast hx hb hB m_pt 7 h_pt rfl m_t h_t rfl (fun _ _ h1 h2 => m_asg_self h1 h2) vn rfl (by omega) (by omega) dX2_addText_27 (fun H locs hB => ?_)
  replace hB : m_B D ty A s L ad (va_up g pt (.inl (ty 7, 4, .inr (.inr (.inr (.inr (va_up tf vn (some (ad t))))))))) H locs := hB
  refine lv_aload_n hx hb dX2_addText_28 rfl (lv_at hl 0 rfl) ?_
  refine lv_dup hx hb dX2_addText_29 rfl ?_
  refine m_get (C := RX2) (T := TX2) (N := 4) (ci := 2) hx hb hts in_X2_addText_X2 hown hB m_pp ((va_up_ne _ _ ne1).trans h_pp) rfl 2 (by decide) (hts (.fieldLink RX2 48 "PaperRoom$Paper" "textCount" "I") (by decide +kernel)) (fun _ h9 => h9) rfl dX2_addText_30 ?_
  refine lv_iconst (v := 1) hx hb dX2_addText_33 (by decide) ?_
  refine lv_iadd hx hb dX2_addText_34 ?_
  refine b_topi (w := nI (vn + 1)) (nI_add vn 1) ?_
  refine m_put (C := RX2) (T := TX2) (N := 4) (ci := 2) (v := .int (nI (vn + 1))) (ft := .int) hx hb hts in_X2_addText_X2 tyX2 tyX2_ok nmX2 hown hB m_pp ((va_up_ne _ _ ne1).trans h_pp) rfl 2 (by decide) (hts (.fieldLink RX2 48 "PaperRoom$Paper" "textCount" "I") (by decide +kernel)) (fun _ h9 => h9) rfl (by decide +kernel) rfl rfl (Nat.le_of_ble_eq_true rfl) dX2_addText_35 (fun H locs hB => ?_)
  replace hB : m_B D ty A s L ad (va_up (va_up g pt (.inl (ty 7, 4, .inr (.inr (.inr (.inr (va_up tf vn (some (ad t))))))))) pp (.inr (2, [.int fo, .ref (ad pt), .int (nI (vn + 1)), .int wd]))) H locs := hB
  refine lv_aload_n hx hb dX2_addText_38 rfl (lv_at hl 0 rfl) ?_
  refine m_get (C := RX2) (T := TX2) (N := 4) (ci := 2) hx hb hts in_X2_addText_X2 hown hB m_pp (va_up_self _ _ _) rfl 2 (by decide) (hts (.fieldLink RX2 48 "PaperRoom$Paper" "textCount" "I") (by decide +kernel)) (fun _ h9 => h9) rfl dX2_addText_39 ?_
  refine lv_iconst (v := 1) hx hb dX2_addText_42 (by decide) ?_
  refine lv_isub hx hb dX2_addText_43 ?_
  refine b_topi (w := nI vn) ((pk_sub (a := vn + 1) (b := 1) (by omega)).trans (by rw [Nat.add_sub_cancel])) ?_
  exact m_iret hx hb hrt hlocks hB (Nat.le_refl _) (Nat.le_refl _) dX2_addText_44 ⟨rfl, rfl, rfl, rfl⟩
set_option maxRecDepth 20000 in
theorem in_X2_isOpenTo_X2 : ∀ w ∈ wsX20, w ∈ wsX2_isOpenTo := by decide +kernel
set_option maxHeartbeats 1000000 in
set_option maxRecDepth 100000 in
theorem c_Paper_isOpen0 (l : Launch) (D : va_G) (ty : Nat → ClassId) (L : List Nat) (ad : Nat → Nat) (g : Nat → va_E) (pp pt vn : Nat) (wd : Int32) (rg st en : Nat) (fs fe : Nat → Int32) (x f : Nat) (nw : Int32) (m_pp : pp ∈ L) (m_rg : rg ∈ L) (m_st : st ∈ L) (m_en : en ∈ L) (h_pp : g pp = .inr (2, [.int (nI f), .ref (ad pt), .int (nI vn), .int wd])) (h_rg : g rg = .inr (4, [.ref (ad st), .ref (ad en)])) (h_st : g st = .inl (ty 0, 12, .inl fs)) (h_en : g en = .inl (ty 0, 12, .inl fe)) (hx3 : x < 3) (hf4 : f < 4) (hwd : wd = 0 ∨ wd = 1) : m_E l yX2_isOpenTo wsX2_isOpenTo 2 45 D ty [.ref (ad pp), .int (nI x), .ref (ad rg), .int nw] L ad g (some (.int (zb (opn wd fs fe (x * 4 + f) nw)))) g := by
  intro sz
  refine Met.ofW (cc := cX2_isOpenTo) (maxL := 4) (ret := (some .boolean)) (by decide) rfl ?_
  intro p e s m args below meth c s₁ B hml hv
  have hx := B.exec
  have hb := B.bytes
  have hrt := B.returns
  have hts := atoms_spec (ws := wsX2_isOpenTo) B.pre
  have hown : s.vm.findClass RX2 = some m.cls := findClass_of_methodNamed B.named
  have hlocks := B.notSynchronized
  obtain ⟨rfl, hB⟩ := m_start hv
  generalize va_A (m_w L ad g) sz = A at hB ⊢
  generalize s.heap = H at hB ⊢
  generalize ([] : List Loc) = locs at hB ⊢
  have hl := lv_entry ([.ref (ad pp), .int (nI x), .ref (ad rg), .int nw]) (n := 4) (Nat.le_of_ble_eq_true rfl)
  rw [lg_entry_eq]
  generalize (lg_sl ([.ref (ad pp), .int (nI x), .ref (ad rg), .int nw]) ++ List.replicate (4 - (lg_sl ([.ref (ad pp), .int (nI x), .ref (ad rg), .int nw])).length) Slot.unset).toArray = ls at hl ⊢
  have hl : lv_has ls 4 [(0, .ref (ad pp)), (1, .int (nI x)), (2, .ref (ad rg)), (3, .int nw)] := hl
  rcases hwd with hwd | hwd
  · skip
    rcases (show cv fs fe (x * 4 + f) nw = true ∨ cv fs fe (x * 4 + f) nw = false by cases cv fs fe (x * 4 + f) nw <;> simp) with hc | hc
    · skip
      refine lv_aload_n hx hb dX2_isOpenTo_0 rfl (lv_at hl 0 rfl) ?_
      refine m_get (C := RX2) (T := TX2) (N := 4) (ci := 2) hx hb hts in_X2_isOpenTo_X2 hown hB m_pp h_pp rfl 3 (by decide) (hts (.fieldLink RX2 21 "PaperRoom$Paper" "withdrawn" "Z") (by decide +kernel)) (fun _ h9 => h9) rfl dX2_isOpenTo_1 ?_
      refine b_if_ne_f 24 hx hb dX2_isOpenTo_4 (by decide) (by rw [hwd]; decide) ?_
      refine lv_aload_n hx hb dX2_isOpenTo_7 rfl (lv_at hl 2 rfl) ?_
      refine lv_iload_n hx hb dX2_isOpenTo_8 rfl (lv_at hl 1 rfl) ?_
      refine lv_aload_n hx hb dX2_isOpenTo_9 rfl (lv_at hl 0 rfl) ?_
      refine m_get (C := RX2) (T := TX2) (N := 4) (ci := 2) hx hb hts in_X2_isOpenTo_X2 hown hB m_pp h_pp rfl 0 (by decide) (hts (.fieldLink RX2 9 "PaperRoom$Paper" "folder" "I") (by decide +kernel)) (fun _ h9 => h9) rfl dX2_isOpenTo_10 ?_
      refine lv_iload_n hx hb dX2_isOpenTo_13 rfl (lv_at hl 3 rfl) ?_
      refine m_callVE (ci := 4) (As := [.int (nI x), .int (nI f), .int nw]) (rest := []) (c_Rights_cover l D ty L ad g rg st en fs fe x f nw m_rg m_st m_en h_rg h_st h_en hx3 hf4) ⟨hx, hb, hml, hown, hts⟩ (cwV 3 hts gX2_isOpenTo_X4_cover rfl rfl rfl (by decide +kernel) ⟨Nat.le_of_ble_eq_true rfl, Nat.le_of_ble_eq_true rfl⟩) hB m_rg h_rg rfl rfl hl.1 rfl (Nat.le_of_ble_eq_true rfl) dX2_isOpenTo_14 ⟨Nat.le_of_ble_eq_true rfl, Nat.le_of_ble_eq_true rfl⟩ (fun H locs hB => ?_)
      refine b_if_eq_f 24 hx hb dX2_isOpenTo_17 (by decide) (by rw [hc]; decide) ?_
      refine lv_iconst (v := 1) hx hb dX2_isOpenTo_20 (by decide) ?_
      refine lv_goto (tgt := 25) hx hb dX2_isOpenTo_21 (by decide) ?_
      exact m_zret hx hb hrt hlocks hB (Nat.le_refl _) (Nat.le_refl _) dX2_isOpenTo_25 rfl ⟨zt (by rw [opn, dt hwd, hc]; rfl), rfl, rfl, rfl⟩
    · skip
      refine lv_aload_n hx hb dX2_isOpenTo_0 rfl (lv_at hl 0 rfl) ?_
      refine m_get (C := RX2) (T := TX2) (N := 4) (ci := 2) hx hb hts in_X2_isOpenTo_X2 hown hB m_pp h_pp rfl 3 (by decide) (hts (.fieldLink RX2 21 "PaperRoom$Paper" "withdrawn" "Z") (by decide +kernel)) (fun _ h9 => h9) rfl dX2_isOpenTo_1 ?_
      refine b_if_ne_f 24 hx hb dX2_isOpenTo_4 (by decide) (by rw [hwd]; decide) ?_
      refine lv_aload_n hx hb dX2_isOpenTo_7 rfl (lv_at hl 2 rfl) ?_
      refine lv_iload_n hx hb dX2_isOpenTo_8 rfl (lv_at hl 1 rfl) ?_
      refine lv_aload_n hx hb dX2_isOpenTo_9 rfl (lv_at hl 0 rfl) ?_
      refine m_get (C := RX2) (T := TX2) (N := 4) (ci := 2) hx hb hts in_X2_isOpenTo_X2 hown hB m_pp h_pp rfl 0 (by decide) (hts (.fieldLink RX2 9 "PaperRoom$Paper" "folder" "I") (by decide +kernel)) (fun _ h9 => h9) rfl dX2_isOpenTo_10 ?_
      refine lv_iload_n hx hb dX2_isOpenTo_13 rfl (lv_at hl 3 rfl) ?_
      refine m_callVE (ci := 4) (As := [.int (nI x), .int (nI f), .int nw]) (rest := []) (c_Rights_cover l D ty L ad g rg st en fs fe x f nw m_rg m_st m_en h_rg h_st h_en hx3 hf4) ⟨hx, hb, hml, hown, hts⟩ (cwV 3 hts gX2_isOpenTo_X4_cover rfl rfl rfl (by decide +kernel) ⟨Nat.le_of_ble_eq_true rfl, Nat.le_of_ble_eq_true rfl⟩) hB m_rg h_rg rfl rfl hl.1 rfl (Nat.le_of_ble_eq_true rfl) dX2_isOpenTo_14 ⟨Nat.le_of_ble_eq_true rfl, Nat.le_of_ble_eq_true rfl⟩ (fun H locs hB => ?_)
      refine b_if_eq_t 24 hx hb dX2_isOpenTo_17 (by decide) (by rw [hc]; decide) ?_
      refine lv_iconst (v := 0) hx hb dX2_isOpenTo_24 (by decide) ?_
      exact m_zret hx hb hrt hlocks hB (Nat.le_refl _) (Nat.le_refl _) dX2_isOpenTo_25 rfl ⟨zf (by rw [opn, hc]; simp), rfl, rfl, rfl⟩
  · skip
    refine lv_aload_n hx hb dX2_isOpenTo_0 rfl (lv_at hl 0 rfl) ?_
    refine m_get (C := RX2) (T := TX2) (N := 4) (ci := 2) hx hb hts in_X2_isOpenTo_X2 hown hB m_pp h_pp rfl 3 (by decide) (hts (.fieldLink RX2 21 "PaperRoom$Paper" "withdrawn" "Z") (by decide +kernel)) (fun _ h9 => h9) rfl dX2_isOpenTo_1 ?_
    refine b_if_ne_t 24 hx hb dX2_isOpenTo_4 (by decide) (by rw [hwd]; decide) ?_
    refine lv_iconst (v := 0) hx hb dX2_isOpenTo_24 (by decide) ?_
    exact m_zret hx hb hrt hlocks hB (Nat.le_refl _) (Nat.le_refl _) dX2_isOpenTo_25 rfl ⟨zf (by rw [opn, df (by rw [hwd]; decide)]; rfl), rfl, rfl, rfl⟩
set_option maxRecDepth 20000 in
theorem in_X0_isOpenTo_X0 : ∀ w ∈ wsX00, w ∈ wsX0_isOpenTo := by decide +kernel
set_option maxHeartbeats 1000000 in
set_option maxRecDepth 100000 in
theorem c_Held_isOpen (l : Launch) (D : va_G) (ty : Nat → ClassId) (L : List Nat) (ad : Nat → Nat) (g : Nat → va_E) (pp pt vn : Nat) (wd : Int32) (lg : Int32) (rg st en : Nat) (fs fe : Nat → Int32) (x f : Nat) (nw : Int32) (m_pp : pp ∈ L) (m_rg : rg ∈ L) (m_st : st ∈ L) (m_en : en ∈ L) (h_pp : g pp = .inr (0, [.int (nI f), .ref (ad pt), .int (nI vn), .int wd, .int lg])) (h_rg : g rg = .inr (4, [.ref (ad st), .ref (ad en)])) (h_st : g st = .inl (ty 0, 12, .inl fs)) (h_en : g en = .inl (ty 0, 12, .inl fe)) (hx3 : x < 3) (hf4 : f < 4) (hwd : wd = 0 ∨ wd = 1) : m_E l yX0_isOpenTo wsX0_isOpenTo 3 68 D ty [.ref (ad pp), .int (nI x), .ref (ad rg), .int nw] L ad g (some (.int (zb (opn wd fs fe (x * 4 + f) nw && decide (lg.toInt ≤ nw.toInt))))) g := by
  intro sz
  refine Met.ofW (cc := cX0_isOpenTo) (maxL := 4) (ret := (some .boolean)) (by decide) rfl ?_
  intro p e s m args below meth c s₁ B hml hv
  have hx := B.exec
  have hb := B.bytes
  have hrt := B.returns
  have hts := atoms_spec (ws := wsX0_isOpenTo) B.pre
  have hown : s.vm.findClass RX0 = some m.cls := findClass_of_methodNamed B.named
  have hlocks := B.notSynchronized
  obtain ⟨rfl, hB⟩ := m_start hv
  generalize va_A (m_w L ad g) sz = A at hB ⊢
  generalize s.heap = H at hB ⊢
  generalize ([] : List Loc) = locs at hB ⊢
  have hl := lv_entry ([.ref (ad pp), .int (nI x), .ref (ad rg), .int nw]) (n := 4) (Nat.le_of_ble_eq_true rfl)
  rw [lg_entry_eq]
  generalize (lg_sl ([.ref (ad pp), .int (nI x), .ref (ad rg), .int nw]) ++ List.replicate (4 - (lg_sl ([.ref (ad pp), .int (nI x), .ref (ad rg), .int nw])).length) Slot.unset).toArray = ls at hl ⊢
  have hl : lv_has ls 4 [(0, .ref (ad pp)), (1, .int (nI x)), (2, .ref (ad rg)), (3, .int nw)] := hl
  rcases (show opn wd fs fe (x * 4 + f) nw = true ∨ opn wd fs fe (x * 4 + f) nw = false by cases opn wd fs fe (x * 4 + f) nw <;> simp) with hc | hc
  · skip
    rcases (show nw.toInt < lg.toInt ∨ lg.toInt ≤ nw.toInt by omega) with h9 | h9
    · skip
      refine lv_aload_n hx hb dX0_isOpenTo_0 rfl (lv_at hl 0 rfl) ?_
      refine lv_iload_n hx hb dX0_isOpenTo_1 rfl (lv_at hl 1 rfl) ?_
      refine lv_aload_n hx hb dX0_isOpenTo_2 rfl (lv_at hl 2 rfl) ?_
      refine lv_iload_n hx hb dX0_isOpenTo_3 rfl (lv_at hl 3 rfl) ?_
      refine m_callSUE (ci := 0) (As := [.int (nI x), .ref (ad rg), .int nw]) (rest := []) (c_Held_isOpen0 l D ty L ad g pp pt vn wd lg rg st en fs fe x f nw m_pp m_rg m_st m_en h_pp h_rg h_st h_en hx3 hf4 hwd) ⟨hx, hb, hml, hown, hts⟩ (va_cwSU 3 hts gX0_isOpenTo_X2_isOpenTo_s15 rfl rfl rfl (by decide +kernel) ⟨Nat.le_of_ble_eq_true rfl, Nat.le_of_ble_eq_true rfl⟩) hB m_pp h_pp rfl rfl hl.1 rfl (Nat.le_of_ble_eq_true rfl) dX0_isOpenTo_4 ⟨Nat.le_of_ble_eq_true rfl, Nat.le_of_ble_eq_true rfl⟩ (fun H locs hB => ?_)
      refine b_if_eq_f 22 hx hb dX0_isOpenTo_7 (by decide) (by rw [hc]; decide) ?_
      refine lv_iload_n hx hb dX0_isOpenTo_10 rfl (lv_at hl 3 rfl) ?_
      refine lv_aload_n hx hb dX0_isOpenTo_11 rfl (lv_at hl 0 rfl) ?_
      refine m_get (C := RX0) (T := TX0) (N := 5) (ci := 0) hx hb hts in_X0_isOpenTo_X0 hown hB m_pp h_pp rfl 4 (by decide) (hts (.fieldLink RX0 9 "PaperRoom$Held" "letGo" "I") (by decide +kernel)) (fun _ h9 => h9) rfl dX0_isOpenTo_12 ?_
      refine b_icmp_lt_t 22 hx hb dX0_isOpenTo_15 (by decide) (by omega) ?_
      refine lv_iconst (v := 0) hx hb dX0_isOpenTo_22 (by decide) ?_
      exact m_zret hx hb hrt hlocks hB (Nat.le_refl _) (Nat.le_refl _) dX0_isOpenTo_23 rfl ⟨zf (by rw [df (by omega)]; simp), rfl, rfl, rfl⟩
    · skip
      refine lv_aload_n hx hb dX0_isOpenTo_0 rfl (lv_at hl 0 rfl) ?_
      refine lv_iload_n hx hb dX0_isOpenTo_1 rfl (lv_at hl 1 rfl) ?_
      refine lv_aload_n hx hb dX0_isOpenTo_2 rfl (lv_at hl 2 rfl) ?_
      refine lv_iload_n hx hb dX0_isOpenTo_3 rfl (lv_at hl 3 rfl) ?_
      refine m_callSUE (ci := 0) (As := [.int (nI x), .ref (ad rg), .int nw]) (rest := []) (c_Held_isOpen0 l D ty L ad g pp pt vn wd lg rg st en fs fe x f nw m_pp m_rg m_st m_en h_pp h_rg h_st h_en hx3 hf4 hwd) ⟨hx, hb, hml, hown, hts⟩ (va_cwSU 3 hts gX0_isOpenTo_X2_isOpenTo_s15 rfl rfl rfl (by decide +kernel) ⟨Nat.le_of_ble_eq_true rfl, Nat.le_of_ble_eq_true rfl⟩) hB m_pp h_pp rfl rfl hl.1 rfl (Nat.le_of_ble_eq_true rfl) dX0_isOpenTo_4 ⟨Nat.le_of_ble_eq_true rfl, Nat.le_of_ble_eq_true rfl⟩ (fun H locs hB => ?_)
      refine b_if_eq_f 22 hx hb dX0_isOpenTo_7 (by decide) (by rw [hc]; decide) ?_
      refine lv_iload_n hx hb dX0_isOpenTo_10 rfl (lv_at hl 3 rfl) ?_
      refine lv_aload_n hx hb dX0_isOpenTo_11 rfl (lv_at hl 0 rfl) ?_
      refine m_get (C := RX0) (T := TX0) (N := 5) (ci := 0) hx hb hts in_X0_isOpenTo_X0 hown hB m_pp h_pp rfl 4 (by decide) (hts (.fieldLink RX0 9 "PaperRoom$Held" "letGo" "I") (by decide +kernel)) (fun _ h9 => h9) rfl dX0_isOpenTo_12 ?_
      refine b_icmp_lt_f 22 hx hb dX0_isOpenTo_15 (by decide) (by omega) ?_
      refine lv_iconst (v := 1) hx hb dX0_isOpenTo_18 (by decide) ?_
      refine lv_goto (tgt := 23) hx hb dX0_isOpenTo_19 (by decide) ?_
      exact m_zret hx hb hrt hlocks hB (Nat.le_refl _) (Nat.le_refl _) dX0_isOpenTo_23 rfl ⟨zt (by rw [hc, dt h9]; rfl), rfl, rfl, rfl⟩
  · skip
    refine lv_aload_n hx hb dX0_isOpenTo_0 rfl (lv_at hl 0 rfl) ?_
    refine lv_iload_n hx hb dX0_isOpenTo_1 rfl (lv_at hl 1 rfl) ?_
    refine lv_aload_n hx hb dX0_isOpenTo_2 rfl (lv_at hl 2 rfl) ?_
    refine lv_iload_n hx hb dX0_isOpenTo_3 rfl (lv_at hl 3 rfl) ?_
    refine m_callSUE (ci := 0) (As := [.int (nI x), .ref (ad rg), .int nw]) (rest := []) (c_Held_isOpen0 l D ty L ad g pp pt vn wd lg rg st en fs fe x f nw m_pp m_rg m_st m_en h_pp h_rg h_st h_en hx3 hf4 hwd) ⟨hx, hb, hml, hown, hts⟩ (va_cwSU 3 hts gX0_isOpenTo_X2_isOpenTo_s15 rfl rfl rfl (by decide +kernel) ⟨Nat.le_of_ble_eq_true rfl, Nat.le_of_ble_eq_true rfl⟩) hB m_pp h_pp rfl rfl hl.1 rfl (Nat.le_of_ble_eq_true rfl) dX0_isOpenTo_4 ⟨Nat.le_of_ble_eq_true rfl, Nat.le_of_ble_eq_true rfl⟩ (fun H locs hB => ?_)
    refine b_if_eq_t 22 hx hb dX0_isOpenTo_7 (by decide) (by rw [hc]; decide) ?_
    refine lv_iconst (v := 0) hx hb dX0_isOpenTo_22 (by decide) ?_
    exact m_zret hx hb hrt hlocks hB (Nat.le_refl _) (Nat.le_refl _) dX0_isOpenTo_23 rfl ⟨zf (by rw [hc]; rfl), rfl, rfl, rfl⟩
set_option maxRecDepth 20000 in
theorem in_X0_letGoTick_X0 : ∀ w ∈ wsX00, w ∈ wsX0_letGoTick := by decide +kernel
set_option maxHeartbeats 1000000 in
set_option maxRecDepth 100000 in
theorem c_Held_letGo (l : Launch) (D : va_G) (ty : Nat → ClassId) (L : List Nat) (ad : Nat → Nat) (g : Nat → va_E) (pp pt vn : Nat) (fo wd : Int32) (lg : Int32) (m_pp : pp ∈ L) (h_pp : g pp = .inr (0, [.int fo, .ref (ad pt), .int (nI vn), .int wd, .int lg])) : m_E l yX0_letGoTick wsX0_letGoTick 0 0 D ty [.ref (ad pp)] L ad g (some (.int lg)) g := by
  intro sz
  refine Met.ofW (cc := cX0_letGoTick) (maxL := 1) (ret := (some .int)) (by decide) rfl ?_
  intro p e s m args below meth c s₁ B hml hv
  have hx := B.exec
  have hb := B.bytes
  have hrt := B.returns
  have hts := atoms_spec (ws := wsX0_letGoTick) B.pre
  have hown : s.vm.findClass RX0 = some m.cls := findClass_of_methodNamed B.named
  have hlocks := B.notSynchronized
  obtain ⟨rfl, hB⟩ := m_start hv
  generalize va_A (m_w L ad g) sz = A at hB ⊢
  generalize s.heap = H at hB ⊢
  generalize ([] : List Loc) = locs at hB ⊢
  have hl := lv_entry ([.ref (ad pp)]) (n := 1) (Nat.le_of_ble_eq_true rfl)
  rw [lg_entry_eq]
  generalize (lg_sl ([.ref (ad pp)]) ++ List.replicate (1 - (lg_sl ([.ref (ad pp)])).length) Slot.unset).toArray = ls at hl ⊢
  have hl : lv_has ls 1 [(0, .ref (ad pp))] := hl
  refine lv_aload_n hx hb dX0_letGoTick_0 rfl (lv_at hl 0 rfl) ?_
  refine m_get (C := RX0) (T := TX0) (N := 5) (ci := 0) hx hb hts in_X0_letGoTick_X0 hown hB m_pp h_pp rfl 4 (by decide) (hts (.fieldLink RX0 9 "PaperRoom$Held" "letGo" "I") (by decide +kernel)) (fun _ h9 => h9) rfl dX0_letGoTick_1 ?_
  exact m_iret hx hb hrt hlocks hB (Nat.le_refl _) (Nat.le_refl _) dX0_letGoTick_4 ⟨rfl, rfl, rfl, rfl⟩
set_option maxHeartbeats 1000000 in
set_option maxRecDepth 100000 in
theorem c_Marked_letGo (l : Launch) (D : va_G) (ty : Nat → ClassId) (L : List Nat) (ad : Nat → Nat) (g : Nat → va_E) (pp pt vn : Nat) (fo wd : Int32) (m_pp : pp ∈ L) (h_pp : g pp = .inr (1, [.int fo, .ref (ad pt), .int (nI vn), .int wd])) : m_E l yX2_letGoTick wsX2_letGoTick 0 0 D ty [.ref (ad pp)] L ad g (some (.int 0)) g := by
  intro sz
  refine Met.ofW (cc := cX2_letGoTick) (maxL := 1) (ret := (some .int)) (by decide) rfl ?_
  intro p e s m args below meth c s₁ B hml hv
  have hx := B.exec
  have hb := B.bytes
  have hrt := B.returns
  have hts := atoms_spec (ws := wsX2_letGoTick) B.pre
  have hown : s.vm.findClass RX2 = some m.cls := findClass_of_methodNamed B.named
  have hlocks := B.notSynchronized
  obtain ⟨rfl, hB⟩ := m_start hv
  generalize va_A (m_w L ad g) sz = A at hB ⊢
  generalize s.heap = H at hB ⊢
  generalize ([] : List Loc) = locs at hB ⊢
  have hl := lv_entry ([.ref (ad pp)]) (n := 1) (Nat.le_of_ble_eq_true rfl)
  rw [lg_entry_eq]
  generalize (lg_sl ([.ref (ad pp)]) ++ List.replicate (1 - (lg_sl ([.ref (ad pp)])).length) Slot.unset).toArray = ls at hl ⊢
  have hl : lv_has ls 1 [(0, .ref (ad pp))] := hl
  refine lv_iconst (v := 0) hx hb dX2_letGoTick_0 (by decide) ?_
  exact m_iret hx hb hrt hlocks hB (Nat.le_refl _) (Nat.le_refl _) dX2_letGoTick_1 ⟨rfl, rfl, rfl, rfl⟩
set_option maxHeartbeats 1000000 in
set_option maxRecDepth 100000 in
theorem c_Paper_letGo (l : Launch) (D : va_G) (ty : Nat → ClassId) (L : List Nat) (ad : Nat → Nat) (g : Nat → va_E) (pp pt vn : Nat) (fo wd : Int32) (m_pp : pp ∈ L) (h_pp : g pp = .inr (2, [.int fo, .ref (ad pt), .int (nI vn), .int wd])) : m_E l yX2_letGoTick wsX2_letGoTick 0 0 D ty [.ref (ad pp)] L ad g (some (.int 0)) g := by
  intro sz
  refine Met.ofW (cc := cX2_letGoTick) (maxL := 1) (ret := (some .int)) (by decide) rfl ?_
  intro p e s m args below meth c s₁ B hml hv
  have hx := B.exec
  have hb := B.bytes
  have hrt := B.returns
  have hts := atoms_spec (ws := wsX2_letGoTick) B.pre
  have hown : s.vm.findClass RX2 = some m.cls := findClass_of_methodNamed B.named
  have hlocks := B.notSynchronized
  obtain ⟨rfl, hB⟩ := m_start hv
  generalize va_A (m_w L ad g) sz = A at hB ⊢
  generalize s.heap = H at hB ⊢
  generalize ([] : List Loc) = locs at hB ⊢
  have hl := lv_entry ([.ref (ad pp)]) (n := 1) (Nat.le_of_ble_eq_true rfl)
  rw [lg_entry_eq]
  generalize (lg_sl ([.ref (ad pp)]) ++ List.replicate (1 - (lg_sl ([.ref (ad pp)])).length) Slot.unset).toArray = ls at hl ⊢
  have hl : lv_has ls 1 [(0, .ref (ad pp))] := hl
  refine lv_iconst (v := 0) hx hb dX2_letGoTick_0 (by decide) ?_
  exact m_iret hx hb hrt hlocks hB (Nat.le_refl _) (Nat.le_refl _) dX2_letGoTick_1 ⟨rfl, rfl, rfl, rfl⟩
set_option maxHeartbeats 1000000 in
set_option maxRecDepth 100000 in
theorem c_Held_bodies0 (l : Launch) (D : va_G) (ty : Nat → ClassId) (L : List Nat) (ad : Nat → Nat) (g : Nat → va_E) (pp pt vn : Nat) (fo wd : Int32) (lg : Int32) (m_pp : pp ∈ L) (h_pp : g pp = .inr (0, [.int fo, .ref (ad pt), .int (nI vn), .int wd, .int lg])) : m_E l yX2_bodiesAsked wsX2_bodiesAsked 0 0 D ty [.ref (ad pp)] L ad g (some (.int 1)) g := by
  intro sz
  refine Met.ofW (cc := cX2_bodiesAsked) (maxL := 1) (ret := (some .int)) (by decide) rfl ?_
  intro p e s m args below meth c s₁ B hml hv
  have hx := B.exec
  have hb := B.bytes
  have hrt := B.returns
  have hts := atoms_spec (ws := wsX2_bodiesAsked) B.pre
  have hown : s.vm.findClass RX2 = some m.cls := findClass_of_methodNamed B.named
  have hlocks := B.notSynchronized
  obtain ⟨rfl, hB⟩ := m_start hv
  generalize va_A (m_w L ad g) sz = A at hB ⊢
  generalize s.heap = H at hB ⊢
  generalize ([] : List Loc) = locs at hB ⊢
  have hl := lv_entry ([.ref (ad pp)]) (n := 1) (Nat.le_of_ble_eq_true rfl)
  rw [lg_entry_eq]
  generalize (lg_sl ([.ref (ad pp)]) ++ List.replicate (1 - (lg_sl ([.ref (ad pp)])).length) Slot.unset).toArray = ls at hl ⊢
  have hl : lv_has ls 1 [(0, .ref (ad pp))] := hl
  refine lv_iconst (v := 1) hx hb dX2_bodiesAsked_0 (by decide) ?_
  exact m_iret hx hb hrt hlocks hB (Nat.le_refl _) (Nat.le_refl _) dX2_bodiesAsked_1 ⟨rfl, rfl, rfl, rfl⟩
set_option maxHeartbeats 1000000 in
set_option maxRecDepth 100000 in
theorem c_Marked_bodies0 (l : Launch) (D : va_G) (ty : Nat → ClassId) (L : List Nat) (ad : Nat → Nat) (g : Nat → va_E) (pp pt vn : Nat) (fo wd : Int32) (m_pp : pp ∈ L) (h_pp : g pp = .inr (1, [.int fo, .ref (ad pt), .int (nI vn), .int wd])) : m_E l yX2_bodiesAsked wsX2_bodiesAsked 0 0 D ty [.ref (ad pp)] L ad g (some (.int 1)) g := by
  intro sz
  refine Met.ofW (cc := cX2_bodiesAsked) (maxL := 1) (ret := (some .int)) (by decide) rfl ?_
  intro p e s m args below meth c s₁ B hml hv
  have hx := B.exec
  have hb := B.bytes
  have hrt := B.returns
  have hts := atoms_spec (ws := wsX2_bodiesAsked) B.pre
  have hown : s.vm.findClass RX2 = some m.cls := findClass_of_methodNamed B.named
  have hlocks := B.notSynchronized
  obtain ⟨rfl, hB⟩ := m_start hv
  generalize va_A (m_w L ad g) sz = A at hB ⊢
  generalize s.heap = H at hB ⊢
  generalize ([] : List Loc) = locs at hB ⊢
  have hl := lv_entry ([.ref (ad pp)]) (n := 1) (Nat.le_of_ble_eq_true rfl)
  rw [lg_entry_eq]
  generalize (lg_sl ([.ref (ad pp)]) ++ List.replicate (1 - (lg_sl ([.ref (ad pp)])).length) Slot.unset).toArray = ls at hl ⊢
  have hl : lv_has ls 1 [(0, .ref (ad pp))] := hl
  refine lv_iconst (v := 1) hx hb dX2_bodiesAsked_0 (by decide) ?_
  exact m_iret hx hb hrt hlocks hB (Nat.le_refl _) (Nat.le_refl _) dX2_bodiesAsked_1 ⟨rfl, rfl, rfl, rfl⟩
set_option maxHeartbeats 1000000 in
set_option maxRecDepth 100000 in
theorem c_Paper_bodies0 (l : Launch) (D : va_G) (ty : Nat → ClassId) (L : List Nat) (ad : Nat → Nat) (g : Nat → va_E) (pp pt vn : Nat) (fo wd : Int32) (m_pp : pp ∈ L) (h_pp : g pp = .inr (2, [.int fo, .ref (ad pt), .int (nI vn), .int wd])) : m_E l yX2_bodiesAsked wsX2_bodiesAsked 0 0 D ty [.ref (ad pp)] L ad g (some (.int 1)) g := by
  intro sz
  refine Met.ofW (cc := cX2_bodiesAsked) (maxL := 1) (ret := (some .int)) (by decide) rfl ?_
  intro p e s m args below meth c s₁ B hml hv
  have hx := B.exec
  have hb := B.bytes
  have hrt := B.returns
  have hts := atoms_spec (ws := wsX2_bodiesAsked) B.pre
  have hown : s.vm.findClass RX2 = some m.cls := findClass_of_methodNamed B.named
  have hlocks := B.notSynchronized
  obtain ⟨rfl, hB⟩ := m_start hv
  generalize va_A (m_w L ad g) sz = A at hB ⊢
  generalize s.heap = H at hB ⊢
  generalize ([] : List Loc) = locs at hB ⊢
  have hl := lv_entry ([.ref (ad pp)]) (n := 1) (Nat.le_of_ble_eq_true rfl)
  rw [lg_entry_eq]
  generalize (lg_sl ([.ref (ad pp)]) ++ List.replicate (1 - (lg_sl ([.ref (ad pp)])).length) Slot.unset).toArray = ls at hl ⊢
  have hl : lv_has ls 1 [(0, .ref (ad pp))] := hl
  refine lv_iconst (v := 1) hx hb dX2_bodiesAsked_0 (by decide) ?_
  exact m_iret hx hb hrt hlocks hB (Nat.le_refl _) (Nat.le_refl _) dX2_bodiesAsked_1 ⟨rfl, rfl, rfl, rfl⟩
set_option maxHeartbeats 1000000 in
set_option maxRecDepth 100000 in
theorem c_Held_bodies (l : Launch) (D : va_G) (ty : Nat → ClassId) (L : List Nat) (ad : Nat → Nat) (g : Nat → va_E) (pp pt vn : Nat) (fo wd : Int32) (lg : Int32) (m_pp : pp ∈ L) (h_pp : g pp = .inr (0, [.int fo, .ref (ad pt), .int (nI vn), .int wd, .int lg])) : m_E l yX0_bodiesAsked wsX0_bodiesAsked 1 20 D ty [.ref (ad pp)] L ad g (some (.int 11)) g := by
  intro sz
  refine Met.ofW (cc := cX0_bodiesAsked) (maxL := 1) (ret := (some .int)) (by decide) rfl ?_
  intro p e s m args below meth c s₁ B hml hv
  have hx := B.exec
  have hb := B.bytes
  have hrt := B.returns
  have hts := atoms_spec (ws := wsX0_bodiesAsked) B.pre
  have hown : s.vm.findClass RX0 = some m.cls := findClass_of_methodNamed B.named
  have hlocks := B.notSynchronized
  obtain ⟨rfl, hB⟩ := m_start hv
  generalize va_A (m_w L ad g) sz = A at hB ⊢
  generalize s.heap = H at hB ⊢
  generalize ([] : List Loc) = locs at hB ⊢
  have hl := lv_entry ([.ref (ad pp)]) (n := 1) (Nat.le_of_ble_eq_true rfl)
  rw [lg_entry_eq]
  generalize (lg_sl ([.ref (ad pp)]) ++ List.replicate (1 - (lg_sl ([.ref (ad pp)])).length) Slot.unset).toArray = ls at hl ⊢
  have hl : lv_has ls 1 [(0, .ref (ad pp))] := hl
  refine lv_aload_n hx hb dX0_bodiesAsked_0 rfl (lv_at hl 0 rfl) ?_
  refine m_callSUE (ci := 0) (As := []) (rest := []) (c_Held_bodies0 l D ty L ad g pp pt vn fo wd lg m_pp h_pp) ⟨hx, hb, hml, hown, hts⟩ (va_cwSU 0 hts gX0_bodiesAsked_X2_bodiesAsked_s19 rfl rfl rfl (by decide +kernel) ⟨Nat.le_of_ble_eq_true rfl, Nat.le_of_ble_eq_true rfl⟩) hB m_pp h_pp rfl rfl hl.1 rfl (Nat.le_of_ble_eq_true rfl) dX0_bodiesAsked_1 ⟨Nat.le_of_ble_eq_true rfl, Nat.le_of_ble_eq_true rfl⟩ (fun H locs hB => ?_)
  refine lv_bipush (v := 10) hx hb dX0_bodiesAsked_4 (by decide) ?_
  refine lv_iadd hx hb dX0_bodiesAsked_6 ?_
  refine b_topi (w := 11) (by decide) ?_
  exact m_iret hx hb hrt hlocks hB (Nat.le_refl _) (Nat.le_refl _) dX0_bodiesAsked_7 ⟨rfl, rfl, rfl, rfl⟩
set_option maxHeartbeats 1000000 in
set_option maxRecDepth 100000 in
theorem c_Marked_bodies (l : Launch) (D : va_G) (ty : Nat → ClassId) (L : List Nat) (ad : Nat → Nat) (g : Nat → va_E) (pp pt vn : Nat) (fo wd : Int32) (m_pp : pp ∈ L) (h_pp : g pp = .inr (1, [.int fo, .ref (ad pt), .int (nI vn), .int wd])) : m_E l yX1_bodiesAsked wsX1_bodiesAsked 1 20 D ty [.ref (ad pp)] L ad g (some (.int 101)) g := by
  intro sz
  refine Met.ofW (cc := cX1_bodiesAsked) (maxL := 1) (ret := (some .int)) (by decide) rfl ?_
  intro p e s m args below meth c s₁ B hml hv
  have hx := B.exec
  have hb := B.bytes
  have hrt := B.returns
  have hts := atoms_spec (ws := wsX1_bodiesAsked) B.pre
  have hown : s.vm.findClass RX1 = some m.cls := findClass_of_methodNamed B.named
  have hlocks := B.notSynchronized
  obtain ⟨rfl, hB⟩ := m_start hv
  generalize va_A (m_w L ad g) sz = A at hB ⊢
  generalize s.heap = H at hB ⊢
  generalize ([] : List Loc) = locs at hB ⊢
  have hl := lv_entry ([.ref (ad pp)]) (n := 1) (Nat.le_of_ble_eq_true rfl)
  rw [lg_entry_eq]
  generalize (lg_sl ([.ref (ad pp)]) ++ List.replicate (1 - (lg_sl ([.ref (ad pp)])).length) Slot.unset).toArray = ls at hl ⊢
  have hl : lv_has ls 1 [(0, .ref (ad pp))] := hl
  refine lv_aload_n hx hb dX1_bodiesAsked_0 rfl (lv_at hl 0 rfl) ?_
  refine m_callSUE (ci := 1) (As := []) (rest := []) (c_Marked_bodies0 l D ty L ad g pp pt vn fo wd m_pp h_pp) ⟨hx, hb, hml, hown, hts⟩ (va_cwSU 0 hts gX1_bodiesAsked_X2_bodiesAsked_s9 rfl rfl rfl (by decide +kernel) ⟨Nat.le_of_ble_eq_true rfl, Nat.le_of_ble_eq_true rfl⟩) hB m_pp h_pp rfl rfl hl.1 rfl (Nat.le_of_ble_eq_true rfl) dX1_bodiesAsked_1 ⟨Nat.le_of_ble_eq_true rfl, Nat.le_of_ble_eq_true rfl⟩ (fun H locs hB => ?_)
  refine lv_bipush (v := 100) hx hb dX1_bodiesAsked_4 (by decide) ?_
  refine lv_iadd hx hb dX1_bodiesAsked_6 ?_
  refine b_topi (w := 101) (by decide) ?_
  exact m_iret hx hb hrt hlocks hB (Nat.le_refl _) (Nat.le_refl _) dX1_bodiesAsked_7 ⟨rfl, rfl, rfl, rfl⟩
