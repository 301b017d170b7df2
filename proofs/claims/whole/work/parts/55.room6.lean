set_option maxRecDepth 20000 in
theorem in_X8_newPaper_X2 : ∀ w ∈ wsX20, w ∈ wsX8_newPaper := by decide +kernel
set_option maxHeartbeats 1000000 in
set_option maxRecDepth 100000 in
theorem c_X_newPaper_0 (l : Launch) (D : va_G) (ty : Nat → ClassId) (L : List Nat) (ad : Nat → Nat) (g : Nat → va_E) (pp pt : Nat) (fo tk : Int32) (n_pp : pp ∉ L) (n_pt : pt ∉ L) (ne : pp ≠ pt) : m_C l yX8_newPaper wsX8_newPaper 3 63 2 9 D ty [.int 0, .int fo, .int tk] L ad g (fun v1 L1 ad1 g1 => v1 = some (.ref (ad1 pp)) ∧ L1 = ((L ++ [pp]) ++ [pt]) ∧ (∀ x ∈ L, ad x = ad1 x) ∧ (∀ x ∈ L, g1 x = g x) ∧ g1 pp = .inr (2, [.int fo, .ref (ad1 pt), .int 0, .int 0]) ∧ g1 pt = .inl (ty 7, 4, .inr (.inr (.inr (.inr (fun _ => none)))))) := by
  intro sz
  refine Met.ofW (cc := cX8_newPaper) (maxL := 3) (ret := (some (.object "PaperRoom$Paper"))) (by decide) rfl ?_
  intro p e s m args below meth c s₁ B hml hv
  have hx := B.exec
  have hb := B.bytes
  have hrt := B.returns
  have hts := atoms_spec (ws := wsX8_newPaper) B.pre
  have hown : s.vm.findClass RX8 = some m.cls := findClass_of_methodNamed B.named
  have hlocks := B.notSynchronized
  obtain ⟨rfl, hB⟩ := m_start hv
  generalize va_A (m_w L ad g) sz = A at hB ⊢
  generalize s.heap = H at hB ⊢
  generalize ([] : List Loc) = locs at hB ⊢
  have hl := lv_entry ([.int 0, .int fo, .int tk]) (n := 3) (Nat.le_of_ble_eq_true rfl)
  rw [lg_entry_eq]
  generalize (lg_sl ([.int 0, .int fo, .int tk]) ++ List.replicate (3 - (lg_sl ([.int 0, .int fo, .int tk])).length) Slot.unset).toArray = ls at hl ⊢
  have hl : lv_has ls 3 [(0, .int 0), (1, .int fo), (2, .int tk)] := hl
  refine lv_iload_n hx hb dX8_newPaper_0 rfl (lv_at hl 0 rfl) ?_
  refine lv_lookup (off := 46) (tgt := 47) hx hb dX8_newPaper_1 (by decide) (by decide) (by decide) ?_
  refine n_new (C := RX2) (T := TX2) (N := 4) (ci := 2) (fs := [.int 0, .null, .int 0, .int 0]) hx hb hts in_X8_newPaper_X2 tyX2 tyX2_ok hown (hts (.classLink RX8 25 RX2) (by decide +kernel)) (hts (.instantiable RX2 4) (by decide +kernel)) (hts (.initialized RX2) (by decide +kernel)) hB pp n_pp rfl (by decide +kernel) (Nat.le_of_ble_eq_true rfl) (Nat.le_of_ble_eq_true rfl) dX8_newPaper_47 (fun ad_1 H had_1 hB => ?_)
  replace hB : m_B D ty A s (L ++ [pp]) ad_1 (va_up g pp (.inr (2, [.int 0, .null, .int 0, .int 0]))) H locs := hB
  refine lv_dup hx hb dX8_newPaper_50 rfl ?_
  refine lv_iload_n hx hb dX8_newPaper_51 rfl (lv_at hl 1 rfl) ?_
  refine m_callI (r := pp) (As := [.int fo]) (rest := [.ref (ad_1 pp)]) (c_Paper_init0 l D ty (L ++ [pp]) ad_1 _ pp pt fo (List.mem_append_right _ List.mem_cons_self) (va_up_self _ _ _) (fun h9 => (List.mem_append.mp h9).elim n_pt (fun h8 => ne (List.mem_singleton.mp h8).symm)) ne) ⟨hx, hb, hml, hown, hts⟩ (cwI 1 hts gX8_newPaper_X2_init rfl rfl rfl (hts (.initialized RX2) (by decide +kernel)) (hts (.methodLink RX8 243 yX2_init) (by decide +kernel)) (hts (.instanceMethod yX2_init) (by decide +kernel)) rfl (by decide +kernel) ⟨Nat.le_of_ble_eq_true rfl, Nat.le_of_ble_eq_true rfl⟩) hB rfl hl.1 rfl (Nat.le_of_ble_eq_true rfl) dX8_newPaper_52 ⟨Nat.le_of_ble_eq_true rfl, Nat.le_of_ble_eq_true rfl⟩ (fun v152 L152 ad_152 g152 H locs hp152 hB => ?_)
  obtain ⟨q1_152, q2_152, had_152, hfr_152, hf152_0, hf152_1⟩ := hp152
  subst q2_152
  have e152_pp : ad_1 pp = ad_152 pp := had_152 pp (List.mem_append_right _ List.mem_cons_self)
  refine W.eq (g2 := F0 m 55 ls [.ref (ad_152 pp)]) (by rw [q1_152]; (try rw [e152_pp]); rfl) ?_
  exact m_aret (v := some (ad_152 pp)) hx hb hrt hlocks hB (Nat.le_of_ble_eq_true rfl) (Nat.le_of_ble_eq_true rfl) dX8_newPaper_55 ⟨rfl, rfl, (fun x hx => ((had_1 x hx).trans (had_152 x (List.mem_append_left _ hx)))), (fun x hx => ((hfr_152 x (List.mem_append_left _ hx) (fun e9 => n_pp (by rw [← e9]; exact hx))).trans ((va_up_ne _ _ (fun e9 => n_pp (by rw [← e9]; exact hx))).trans rfl))), hf152_0, hf152_1⟩
set_option maxRecDepth 20000 in
theorem in_X8_newPaper_X0 : ∀ w ∈ wsX00, w ∈ wsX8_newPaper := by decide +kernel
set_option maxHeartbeats 1000000 in
set_option maxRecDepth 100000 in
theorem c_X_newPaper_1 (l : Launch) (D : va_G) (ty : Nat → ClassId) (L : List Nat) (ad : Nat → Nat) (g : Nat → va_E) (pp pt : Nat) (fo tk : Int32) (n_pp : pp ∉ L) (n_pt : pt ∉ L) (ne : pp ≠ pt) : m_C l yX8_newPaper wsX8_newPaper 3 63 2 9 D ty [.int 1, .int fo, .int tk] L ad g (fun v1 L1 ad1 g1 => v1 = some (.ref (ad1 pp)) ∧ L1 = ((L ++ [pp]) ++ [pt]) ∧ (∀ x ∈ L, ad x = ad1 x) ∧ (∀ x ∈ L, g1 x = g x) ∧ g1 pp = .inr (0, [.int fo, .ref (ad1 pt), .int 0, .int 0, .int tk]) ∧ g1 pt = .inl (ty 7, 4, .inr (.inr (.inr (.inr (fun _ => none)))))) := by
  intro sz
  refine Met.ofW (cc := cX8_newPaper) (maxL := 3) (ret := (some (.object "PaperRoom$Paper"))) (by decide) rfl ?_
  intro p e s m args below meth c s₁ B hml hv
  have hx := B.exec
  have hb := B.bytes
  have hrt := B.returns
  have hts := atoms_spec (ws := wsX8_newPaper) B.pre
  have hown : s.vm.findClass RX8 = some m.cls := findClass_of_methodNamed B.named
  have hlocks := B.notSynchronized
  obtain ⟨rfl, hB⟩ := m_start hv
  generalize va_A (m_w L ad g) sz = A at hB ⊢
  generalize s.heap = H at hB ⊢
  generalize ([] : List Loc) = locs at hB ⊢
  have hl := lv_entry ([.int 1, .int fo, .int tk]) (n := 3) (Nat.le_of_ble_eq_true rfl)
  rw [lg_entry_eq]
  generalize (lg_sl ([.int 1, .int fo, .int tk]) ++ List.replicate (3 - (lg_sl ([.int 1, .int fo, .int tk])).length) Slot.unset).toArray = ls at hl ⊢
  have hl : lv_has ls 3 [(0, .int 1), (1, .int fo), (2, .int tk)] := hl
  refine lv_iload_n hx hb dX8_newPaper_0 rfl (lv_at hl 0 rfl) ?_
  refine lv_lookup (off := 27) (tgt := 28) hx hb dX8_newPaper_1 (by decide) (by decide) (by decide) ?_
  refine n_new (C := RX0) (T := TX0) (N := 5) (ci := 0) (fs := [.int 0, .null, .int 0, .int 0, .int 0]) hx hb hts in_X8_newPaper_X0 tyX0 tyX0_ok hown (hts (.classLink RX8 236 RX0) (by decide +kernel)) (hts (.instantiable RX0 5) (by decide +kernel)) (hts (.initialized RX0) (by decide +kernel)) hB pp n_pp rfl (by decide +kernel) (Nat.le_of_ble_eq_true rfl) (Nat.le_of_ble_eq_true rfl) dX8_newPaper_28 (fun ad_1 H had_1 hB => ?_)
  replace hB : m_B D ty A s (L ++ [pp]) ad_1 (va_up g pp (.inr (0, [.int 0, .null, .int 0, .int 0, .int 0]))) H locs := hB
  refine lv_dup hx hb dX8_newPaper_31 rfl ?_
  refine lv_iload_n hx hb dX8_newPaper_32 rfl (lv_at hl 1 rfl) ?_
  refine lv_iload_n hx hb dX8_newPaper_33 rfl (lv_at hl 2 rfl) ?_
  refine m_callI (r := pp) (As := [.int fo, .int tk]) (rest := [.ref (ad_1 pp)]) (c_Held_init l D ty (L ++ [pp]) ad_1 _ pp pt fo tk (List.mem_append_right _ List.mem_cons_self) (va_up_self _ _ _) (fun h9 => (List.mem_append.mp h9).elim n_pt (fun h8 => ne (List.mem_singleton.mp h8).symm)) ne) ⟨hx, hb, hml, hown, hts⟩ (cwI 2 hts gX8_newPaper_X0_init rfl rfl rfl (hts (.initialized RX0) (by decide +kernel)) (hts (.methodLink RX8 238 yX0_init) (by decide +kernel)) (hts (.instanceMethod yX0_init) (by decide +kernel)) rfl (by decide +kernel) ⟨Nat.le_of_ble_eq_true rfl, Nat.le_of_ble_eq_true rfl⟩) hB rfl hl.1 rfl (Nat.le_of_ble_eq_true rfl) dX8_newPaper_34 ⟨Nat.le_of_ble_eq_true rfl, Nat.le_of_ble_eq_true rfl⟩ (fun v134 L134 ad_134 g134 H locs hp134 hB => ?_)
  obtain ⟨q1_134, q2_134, had_134, hfr_134, hf134_0, hf134_1⟩ := hp134
  subst q2_134
  have e134_pp : ad_1 pp = ad_134 pp := had_134 pp (List.mem_append_right _ List.mem_cons_self)
  refine W.eq (g2 := F0 m 37 ls [.ref (ad_134 pp)]) (by rw [q1_134]; (try rw [e134_pp]); rfl) ?_
  exact m_aret (v := some (ad_134 pp)) hx hb hrt hlocks hB (Nat.le_of_ble_eq_true rfl) (Nat.le_of_ble_eq_true rfl) dX8_newPaper_37 ⟨rfl, rfl, (fun x hx => ((had_1 x hx).trans (had_134 x (List.mem_append_left _ hx)))), (fun x hx => ((hfr_134 x (List.mem_append_left _ hx) (fun e9 => n_pp (by rw [← e9]; exact hx))).trans ((va_up_ne _ _ (fun e9 => n_pp (by rw [← e9]; exact hx))).trans rfl))), hf134_0, hf134_1⟩
set_option maxRecDepth 20000 in
theorem in_X8_newPaper_X1 : ∀ w ∈ wsX10, w ∈ wsX8_newPaper := by decide +kernel
set_option maxHeartbeats 1000000 in
set_option maxRecDepth 100000 in
theorem c_X_newPaper_2 (l : Launch) (D : va_G) (ty : Nat → ClassId) (L : List Nat) (ad : Nat → Nat) (g : Nat → va_E) (pp pt : Nat) (fo tk : Int32) (n_pp : pp ∉ L) (n_pt : pt ∉ L) (ne : pp ≠ pt) : m_C l yX8_newPaper wsX8_newPaper 3 63 2 9 D ty [.int 2, .int fo, .int tk] L ad g (fun v1 L1 ad1 g1 => v1 = some (.ref (ad1 pp)) ∧ L1 = ((L ++ [pp]) ++ [pt]) ∧ (∀ x ∈ L, ad x = ad1 x) ∧ (∀ x ∈ L, g1 x = g x) ∧ g1 pp = .inr (1, [.int fo, .ref (ad1 pt), .int 0, .int 0]) ∧ g1 pt = .inl (ty 7, 4, .inr (.inr (.inr (.inr (fun _ => none)))))) := by
  intro sz
  refine Met.ofW (cc := cX8_newPaper) (maxL := 3) (ret := (some (.object "PaperRoom$Paper"))) (by decide) rfl ?_
  intro p e s m args below meth c s₁ B hml hv
  have hx := B.exec
  have hb := B.bytes
  have hrt := B.returns
  have hts := atoms_spec (ws := wsX8_newPaper) B.pre
  have hown : s.vm.findClass RX8 = some m.cls := findClass_of_methodNamed B.named
  have hlocks := B.notSynchronized
  obtain ⟨rfl, hB⟩ := m_start hv
  generalize va_A (m_w L ad g) sz = A at hB ⊢
  generalize s.heap = H at hB ⊢
  generalize ([] : List Loc) = locs at hB ⊢
  have hl := lv_entry ([.int 2, .int fo, .int tk]) (n := 3) (Nat.le_of_ble_eq_true rfl)
  rw [lg_entry_eq]
  generalize (lg_sl ([.int 2, .int fo, .int tk]) ++ List.replicate (3 - (lg_sl ([.int 2, .int fo, .int tk])).length) Slot.unset).toArray = ls at hl ⊢
  have hl : lv_has ls 3 [(0, .int 2), (1, .int fo), (2, .int tk)] := hl
  refine lv_iload_n hx hb dX8_newPaper_0 rfl (lv_at hl 0 rfl) ?_
  refine lv_lookup (off := 37) (tgt := 38) hx hb dX8_newPaper_1 (by decide) (by decide) (by decide) ?_
  refine n_new (C := RX1) (T := TX1) (N := 4) (ci := 1) (fs := [.int 0, .null, .int 0, .int 0]) hx hb hts in_X8_newPaper_X1 tyX1 tyX1_ok hown (hts (.classLink RX8 240 RX1) (by decide +kernel)) (hts (.instantiable RX1 4) (by decide +kernel)) (hts (.initialized RX1) (by decide +kernel)) hB pp n_pp rfl (by decide +kernel) (Nat.le_of_ble_eq_true rfl) (Nat.le_of_ble_eq_true rfl) dX8_newPaper_38 (fun ad_1 H had_1 hB => ?_)
  replace hB : m_B D ty A s (L ++ [pp]) ad_1 (va_up g pp (.inr (1, [.int 0, .null, .int 0, .int 0]))) H locs := hB
  refine lv_dup hx hb dX8_newPaper_41 rfl ?_
  refine lv_iload_n hx hb dX8_newPaper_42 rfl (lv_at hl 1 rfl) ?_
  refine m_callI (r := pp) (As := [.int fo]) (rest := [.ref (ad_1 pp)]) (c_Marked_init l D ty (L ++ [pp]) ad_1 _ pp pt fo (List.mem_append_right _ List.mem_cons_self) (va_up_self _ _ _) (fun h9 => (List.mem_append.mp h9).elim n_pt (fun h8 => ne (List.mem_singleton.mp h8).symm)) ne) ⟨hx, hb, hml, hown, hts⟩ (cwI 1 hts gX8_newPaper_X1_init rfl rfl rfl (hts (.initialized RX1) (by decide +kernel)) (hts (.methodLink RX8 242 yX1_init) (by decide +kernel)) (hts (.instanceMethod yX1_init) (by decide +kernel)) rfl (by decide +kernel) ⟨Nat.le_of_ble_eq_true rfl, Nat.le_of_ble_eq_true rfl⟩) hB rfl hl.1 rfl (Nat.le_of_ble_eq_true rfl) dX8_newPaper_43 ⟨Nat.le_of_ble_eq_true rfl, Nat.le_of_ble_eq_true rfl⟩ (fun v143 L143 ad_143 g143 H locs hp143 hB => ?_)
  obtain ⟨q1_143, q2_143, had_143, hfr_143, hf143_0, hf143_1⟩ := hp143
  subst q2_143
  have e143_pp : ad_1 pp = ad_143 pp := had_143 pp (List.mem_append_right _ List.mem_cons_self)
  refine W.eq (g2 := F0 m 46 ls [.ref (ad_143 pp)]) (by rw [q1_143]; (try rw [e143_pp]); rfl) ?_
  exact m_aret (v := some (ad_143 pp)) hx hb hrt hlocks hB (Nat.le_of_ble_eq_true rfl) (Nat.le_of_ble_eq_true rfl) dX8_newPaper_46 ⟨rfl, rfl, (fun x hx => ((had_1 x hx).trans (had_143 x (List.mem_append_left _ hx)))), (fun x hx => ((hfr_143 x (List.mem_append_left _ hx) (fun e9 => n_pp (by rw [← e9]; exact hx))).trans ((va_up_ne _ _ (fun e9 => n_pp (by rw [← e9]; exact hx))).trans rfl))), hf143_0, hf143_1⟩
set_option maxRecDepth 20000 in
theorem in_X8_takeDraft_X7 : ∀ w ∈ wsX70, w ∈ wsX8_takeDraft := by decide +kernel
set_option maxRecDepth 20000 in
theorem in_X8_takeDraft_X8 : ∀ w ∈ wsX80, w ∈ wsX8_takeDraft := by decide +kernel
set_option maxHeartbeats 1000000 in
set_option maxRecDepth 100000 in
theorem c_X_takeDraft (l : Launch) (D : va_G) (ty : Nat → ClassId) (L : List Nat) (ad : Nat → Nat) (g : Nat → va_E) (pn qn : Nat) (nw : Int32) (tr : Int64) (dn t ro a bl : Nat) (db : Nat → Int32) (hL0 : ∀ r, r < 30 → r ∈ L) (h_0 : g 0 = .inr (8, [.ref (ad 1), .ref (ad 3), .ref (ad 6), .int (nI pn), .ref (ad 7), .ref (ad 20), .ref (ad 22), .ref (ad 28), .int (nI qn), .ref (ad 29), .int nw, .long tr])) (h_1 : g 1 = .inr (5, [.ref (ad 2), .int (nI dn)])) (h_2 : g 2 = .inl (ty 2, 40, .inl db)) (n_t : t ∉ L) (n_ro : ro ∉ L) (n_a : a ∉ L) (n_bl : bl ∉ L) (hdn : dn ≤ 40) (h8 : ∀ k, k < dn → (db k).toInt8.toInt32 = db k) (ne_t_ro : t ≠ ro) (ne_t_a : t ≠ a) (ne_t_bl : t ≠ bl) (ne_ro_a : ro ≠ a) (ne_ro_bl : ro ≠ bl) (ne_a_bl : a ≠ bl) (hb_t : 30 ≤ t) (hb_ro : 30 ≤ ro) (hb_a : 30 ≤ a) (hb_bl : 30 ≤ bl) : m_C l yX8_takeDraft wsX8_takeDraft 3 64 4 124 D ty [.ref (ad 0)] L ad g (fun v1 L1 ad1 g1 => v1 = some (.ref (ad1 t)) ∧ L1 = ((((L ++ [t]) ++ [ro]) ++ [a]) ++ [bl]) ∧ (∀ x ∈ L, ad x = ad1 x) ∧ (∀ x ∈ L, x ≠ 1 → g1 x = g x) ∧ g1 1 = .inr (5, [.ref (ad1 2), .int 0]) ∧ g1 t = .inr (7, [.ref (ad1 ro), .ref (ad1 bl)]) ∧ g1 ro = .inr (5, [.ref (ad1 a), .int (nI dn)]) ∧ g1 a = .inl (ty 2, dn, .inl (cpf db dn)) ∧ g1 bl = .inl (ty 3, dn, .inl (fun _ => 0))) := by
  intro sz
  refine Met.ofW (cc := cX8_takeDraft) (maxL := 2) (ret := (some (.object "PaperRoom$Text"))) (by decide) rfl ?_
  intro p e s m args below meth c s₁ B hml hv
  have hx := B.exec
  have hb := B.bytes
  have hrt := B.returns
  have hts := atoms_spec (ws := wsX8_takeDraft) B.pre
  have hown : s.vm.findClass RX8 = some m.cls := findClass_of_methodNamed B.named
  have hlocks := B.notSynchronized
  obtain ⟨rfl, hB⟩ := m_start hv
  generalize va_A (m_w L ad g) sz = A at hB ⊢
  generalize s.heap = H at hB ⊢
  generalize ([] : List Loc) = locs at hB ⊢
  have hl := lv_entry ([.ref (ad 0)]) (n := 2) (Nat.le_of_ble_eq_true rfl)
  rw [lg_entry_eq]
  generalize (lg_sl ([.ref (ad 0)]) ++ List.replicate (2 - (lg_sl ([.ref (ad 0)])).length) Slot.unset).toArray = ls at hl ⊢
  have hl : lv_has ls 2 [(0, .ref (ad 0))] := hl
  refine n_new (C := RX7) (T := TX7) (N := 2) (ci := 7) (fs := [.null, .null]) hx hb hts in_X8_takeDraft_X7 tyX7 tyX7_ok hown (hts (.classLink RX8 108 RX7) (by decide +kernel)) (hts (.instantiable RX7 2) (by decide +kernel)) (hts (.initialized RX7) (by decide +kernel)) hB t n_t rfl (by decide +kernel) (Nat.le_of_ble_eq_true rfl) (Nat.le_of_ble_eq_true rfl) dX8_takeDraft_0 (fun ad_1 H had_1 hB => ?_)
  have e1_0 : ad 0 = ad_1 0 := had_1 0 (hL0 0 (by decide))
  have e1_1 : ad 1 = ad_1 1 := had_1 1 (hL0 1 (by decide))
  have e1_2 : ad 2 = ad_1 2 := had_1 2 (hL0 2 (by decide))
  have e1_20 : ad 20 = ad_1 20 := had_1 20 (hL0 20 (by decide))
  have e1_22 : ad 22 = ad_1 22 := had_1 22 (hL0 22 (by decide))
  have e1_28 : ad 28 = ad_1 28 := had_1 28 (hL0 28 (by decide))
  have e1_29 : ad 29 = ad_1 29 := had_1 29 (hL0 29 (by decide))
  have e1_3 : ad 3 = ad_1 3 := had_1 3 (hL0 3 (by decide))
  have e1_6 : ad 6 = ad_1 6 := had_1 6 (hL0 6 (by decide))
  have e1_7 : ad 7 = ad_1 7 := had_1 7 (hL0 7 (by decide))
  replace hl : lv_has ls 2 [(0, .ref (ad_1 0))] := by rw [← e1_0]; exact hl
  have fa1_0 : g 0 = .inr (8, [.ref (ad_1 1), .ref (ad_1 3), .ref (ad_1 6), .int (nI pn), .ref (ad_1 7), .ref (ad_1 20), .ref (ad_1 22), .ref (ad_1 28), .int (nI qn), .ref (ad_1 29), .int nw, .long tr]) := by rw [← e1_1, ← e1_20, ← e1_22, ← e1_28, ← e1_29, ← e1_3, ← e1_6, ← e1_7]; exact h_0
  have fa1_1 : g 1 = .inr (5, [.ref (ad_1 2), .int (nI dn)]) := by rw [← e1_2]; exact h_1
  replace hB : m_B D ty A s (L ++ [t]) ad_1 (va_up g t (.inr (7, [.null, .null]))) H locs := hB
  refine lv_dup hx hb dX8_takeDraft_3 rfl ?_
  refine lv_aload_n hx hb dX8_takeDraft_4 rfl (lv_at hl 0 rfl) ?_
  refine m_get (C := RX8) (T := TX8) (N := 12) (ci := 8) hx hb hts in_X8_takeDraft_X8 hown hB (List.mem_append_left _ (hL0 0 (by decide))) ((va_up_ne _ _ (by omega)).trans fa1_0) rfl 0 (by decide) (hts (.fieldLink RX8 14 "PaperRoom" "draft" "LPaperRoom$Row;") (by decide +kernel)) (fun _ h9 => h9) rfl dX8_takeDraft_5 ?_
  refine m_callI (r := t) (As := [.ref (ad_1 1)]) (rest := [.ref (ad_1 t)]) (c_Text_init l D ty (L ++ [t]) ad_1 _ t ro a bl 1 2 dn 40 db (List.mem_append_right _ List.mem_cons_self) (va_up_self _ _ _) (List.mem_append_left _ (hL0 1 (by decide))) (List.mem_append_left _ (hL0 2 (by decide))) ((va_up_ne _ _ (by omega)).trans fa1_1) ((va_up_ne _ _ (by omega)).trans h_2) (fun h9 => (List.mem_append.mp h9).elim n_ro (fun h8 => ne_t_ro (List.mem_singleton.mp h8).symm)) (fun h9 => (List.mem_append.mp h9).elim n_a (fun h8 => ne_t_a (List.mem_singleton.mp h8).symm)) (fun h9 => (List.mem_append.mp h9).elim n_bl (fun h8 => ne_t_bl (List.mem_singleton.mp h8).symm)) hdn (by omega) h8 (by omega) (by omega) ne_t_ro ne_t_a ne_t_bl (by decide) (by omega) (by omega) (by omega) (by omega) (by omega) (by omega) ne_ro_a ne_ro_bl ne_a_bl) ⟨hx, hb, hml, hown, hts⟩ (cwI 1 hts gX8_takeDraft_X7_init rfl rfl rfl (hts (.initialized RX7) (by decide +kernel)) (hts (.methodLink RX8 244 yX7_init) (by decide +kernel)) (hts (.instanceMethod yX7_init) (by decide +kernel)) rfl (by decide +kernel) ⟨Nat.le_of_ble_eq_true rfl, Nat.le_of_ble_eq_true rfl⟩) hB rfl hl.1 rfl (Nat.le_of_ble_eq_true rfl) dX8_takeDraft_8 ⟨Nat.le_of_ble_eq_true rfl, Nat.le_of_ble_eq_true rfl⟩ (fun v108 L108 ad_108 g108 H locs hp108 hB => ?_)
  obtain ⟨q1_108, q2_108, had_108, hfr_108, hf108_0, hf108_1, hf108_2, hf108_3⟩ := hp108
  subst q2_108
  have e108_0 : ad_1 0 = ad_108 0 := had_108 0 (List.mem_append_left _ (hL0 0 (by decide)))
  have e108_1 : ad_1 1 = ad_108 1 := had_108 1 (List.mem_append_left _ (hL0 1 (by decide)))
  have e108_2 : ad_1 2 = ad_108 2 := had_108 2 (List.mem_append_left _ (hL0 2 (by decide)))
  have e108_20 : ad_1 20 = ad_108 20 := had_108 20 (List.mem_append_left _ (hL0 20 (by decide)))
  have e108_22 : ad_1 22 = ad_108 22 := had_108 22 (List.mem_append_left _ (hL0 22 (by decide)))
  have e108_28 : ad_1 28 = ad_108 28 := had_108 28 (List.mem_append_left _ (hL0 28 (by decide)))
  have e108_29 : ad_1 29 = ad_108 29 := had_108 29 (List.mem_append_left _ (hL0 29 (by decide)))
  have e108_3 : ad_1 3 = ad_108 3 := had_108 3 (List.mem_append_left _ (hL0 3 (by decide)))
  have e108_6 : ad_1 6 = ad_108 6 := had_108 6 (List.mem_append_left _ (hL0 6 (by decide)))
  have e108_7 : ad_1 7 = ad_108 7 := had_108 7 (List.mem_append_left _ (hL0 7 (by decide)))
  have e108_t : ad_1 t = ad_108 t := had_108 t (List.mem_append_right _ List.mem_cons_self)
  replace hl : lv_has ls 2 [(0, .ref (ad_108 0))] := by rw [← e108_0]; exact hl
  have fa108_0 : (va_up g t (.inr (7, [.null, .null]))) 0 = .inr (8, [.ref (ad_108 1), .ref (ad_108 3), .ref (ad_108 6), .int (nI pn), .ref (ad_108 7), .ref (ad_108 20), .ref (ad_108 22), .ref (ad_108 28), .int (nI qn), .ref (ad_108 29), .int nw, .long tr]) := by rw [← e108_1, ← e108_20, ← e108_22, ← e108_28, ← e108_29, ← e108_3, ← e108_6, ← e108_7]; exact ((va_up_ne _ _ (by omega)).trans fa1_0)
  have fa108_1 : (va_up g t (.inr (7, [.null, .null]))) 1 = .inr (5, [.ref (ad_108 2), .int (nI dn)]) := by rw [← e108_2]; exact ((va_up_ne _ _ (by omega)).trans fa1_1)
  refine W.eq (g2 := F0 m 11 ls [.ref (ad_108 t)]) (by rw [q1_108]; (try rw [e108_t]); rfl) ?_
  refine lv_astore_n (lv' := [(1, .ref (ad_108 t)), (0, .ref (ad_108 0))]) hx hb dX8_takeDraft_11 rfl hl (by decide) rfl (fun ls hl => ?_)
  refine lv_aload_n hx hb dX8_takeDraft_12 rfl (lv_at hl 1 rfl) ?_
  refine m_get (C := RX8) (T := TX8) (N := 12) (ci := 8) hx hb hts in_X8_takeDraft_X8 hown hB (List.mem_append_left _ (List.mem_append_left _ (List.mem_append_left _ (List.mem_append_left _ (hL0 0 (by decide)))))) ((hfr_108 0 (List.mem_append_left _ (hL0 0 (by decide))) (by omega)).trans fa108_0) rfl 0 (by decide) (hts (.fieldLink RX8 14 "PaperRoom" "draft" "LPaperRoom$Row;") (by decide +kernel)) (fun _ h9 => h9) rfl dX8_takeDraft_13 ?_
  refine m_callVZ (ci := 5) (As := []) (rest := []) (c_Row_empty l D ty ((((L ++ [t]) ++ [ro]) ++ [a]) ++ [bl]) ad_108 _ 1 2 dn (List.mem_append_left _ (List.mem_append_left _ (List.mem_append_left _ (List.mem_append_left _ (hL0 1 (by decide)))))) ((hfr_108 1 (List.mem_append_left _ (hL0 1 (by decide))) (by omega)).trans fa108_1)) ⟨hx, hb, hml, hown, hts⟩ (cwV 0 hts gX8_takeDraft_X5_empty rfl rfl rfl (by decide +kernel) ⟨Nat.le_of_ble_eq_true rfl, Nat.le_of_ble_eq_true rfl⟩) hB (List.mem_append_left _ (List.mem_append_left _ (List.mem_append_left _ (List.mem_append_left _ (hL0 1 (by decide)))))) ((hfr_108 1 (List.mem_append_left _ (hL0 1 (by decide))) (by omega)).trans fa108_1) rfl rfl hl.1 rfl (Nat.le_of_ble_eq_true rfl) dX8_takeDraft_16 ⟨Nat.le_of_ble_eq_true rfl, Nat.le_of_ble_eq_true rfl⟩ (fun H locs hB => ?_)
  replace hB : m_B D ty A s ((((L ++ [t]) ++ [ro]) ++ [a]) ++ [bl]) ad_108 (va_up g108 1 (.inr (5, [.ref (ad_108 2), .int 0]))) H locs := hB
  refine lv_aload_n hx hb dX8_takeDraft_19 rfl (lv_at hl 0 rfl) ?_
  exact m_aret (v := some (ad_108 t)) hx hb hrt hlocks hB (Nat.le_refl _) (Nat.le_refl _) dX8_takeDraft_20 ⟨rfl, rfl, (fun x hx => ((had_1 x hx).trans (had_108 x (List.mem_append_left _ hx)))), (fun x hx hn_1 => ((va_up_ne _ _ hn_1).trans ((hfr_108 x (List.mem_append_left _ hx) (fun e9 => n_t (by rw [← e9]; exact hx))).trans ((va_up_ne _ _ (fun e9 => n_t (by rw [← e9]; exact hx))).trans rfl)))), (va_up_self _ _ _), ((va_up_ne _ _ (by omega)).trans hf108_0), ((va_up_ne _ _ (by omega)).trans hf108_1), ((va_up_ne _ _ (by omega)).trans hf108_2), ((va_up_ne _ _ (by omega)).trans hf108_3)⟩
