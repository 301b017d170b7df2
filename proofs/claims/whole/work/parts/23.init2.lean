theorem oi_X2_init : Cond.code objectInit ⟨#[0xb1]⟩ 1 none ∈ wsX2_init := List.mem_cons_of_mem _ (by first | exact List.mem_of_getElem? (i := 2) rfl | exact List.mem_append_left _ (List.mem_of_getElem? (i := 2) rfl) | exact List.mem_append_left _ (List.mem_append_left _ (List.mem_of_getElem? (i := 2) rfl)) | exact List.mem_append_left _ (List.mem_append_left _ (List.mem_append_left _ (List.mem_of_getElem? (i := 2) rfl))) | exact List.mem_append_left _ (List.mem_append_left _ (List.mem_append_left _ (List.mem_append_left _ (List.mem_of_getElem? (i := 2) rfl)))))
set_option maxRecDepth 20000 in
theorem in_X2_init_X0 : ∀ w ∈ wsX00, w ∈ wsX2_init := by decide +kernel
set_option maxHeartbeats 1000000 in
set_option maxRecDepth 100000 in
theorem c_Held_init0 (l : Launch) (D : va_G) (ty : Nat → ClassId) (L : List Nat) (ad : Nat → Nat) (g : Nat → va_E) (pp pt : Nat) (fo : Int32) (m_pp : pp ∈ L) (h_pp : g pp = .inr (0, [.int 0, .null, .int 0, .int 0, .int 0])) (n_pt : pt ∉ L) (ne : pp ≠ pt) : m_C l yX2_init wsX2_init 1 20 1 4 D ty [.ref (ad pp), .int fo] L ad g (fun v1 L1 ad1 g1 => v1 = none ∧ L1 = (L ++ [pt]) ∧ (∀ x ∈ L, ad x = ad1 x) ∧ (∀ x ∈ L, x ≠ pp → g1 x = g x) ∧ g1 pp = .inr (0, [.int fo, .ref (ad1 pt), .int 0, .int 0, .int 0]) ∧ g1 pt = .inl (ty 7, 4, .inr (.inr (.inr (.inr (fun _ => none)))))) := by
  intro sz
  refine Met.ofW (cc := cX2_init) (maxL := 2) (ret := none) (by decide) rfl ?_
  intro p e s m args below meth c s₁ B hml hv
  have hx := B.exec
  have hb := B.bytes
  have hrt := B.returns
  have hts := atoms_spec (ws := wsX2_init) B.pre
  have hown : s.vm.findClass RX2 = some m.cls := findClass_of_methodNamed B.named
  have hlocks := B.notSynchronized
  have hin : meth.name = "<init>" := (name_of_methodNamed B.named B.method).1
  obtain ⟨rfl, hB⟩ := m_start hv
  generalize va_A (m_w L ad g) sz = A at hB ⊢
  generalize s.heap = H at hB ⊢
  generalize ([] : List Loc) = locs at hB ⊢
  have hl := lv_entry ([.ref (ad pp), .int fo]) (n := 2) (Nat.le_of_ble_eq_true rfl)
  rw [lg_entry_eq]
  generalize (lg_sl ([.ref (ad pp), .int fo]) ++ List.replicate (2 - (lg_sl ([.ref (ad pp), .int fo])).length) Slot.unset).toArray = ls at hl ⊢
  have hl : lv_has ls 2 [(0, .ref (ad pp)), (1, .int fo)] := hl
  refine lv_aload_n hx hb dX2_init_0 rfl (lv_at hl 0 rfl) ?_
  refine W.objInit hx hb hown (hts (.methodLink RX2 3 objectInit) (by decide +kernel)) (hts (.instanceMethod objectInit) (by decide +kernel)) (hts _ oi_X2_init) rfl (by rw [hml]; exact hl.1) rfl dX2_init_1 (Nat.le_of_ble_eq_true rfl) (Nat.le_of_ble_eq_true rfl) ?_
  refine W.eq (g2 := F0 m 4 ls []) rfl ?_
  refine lv_aload_n hx hb dX2_init_4 rfl (lv_at hl 0 rfl) ?_
  refine lv_iload_n hx hb dX2_init_5 rfl (lv_at hl 1 rfl) ?_
  refine m_putF (C := RX0) (T := TX0) (N := 5) (ci := 0) (v := .int fo) (ft := .int) hx hb hts in_X2_init_X0 tyX0 tyX0_ok nmX0 hown hB m_pp h_pp rfl 0 (by decide) (hts (.fieldLink RX2 9 "PaperRoom$Paper" "folder" "I") (by decide +kernel)) (fun _ h9 => h9) rfl hin rfl (by decide +kernel) rfl rfl (Nat.le_of_ble_eq_true rfl) dX2_init_6 (fun H locs hB => ?_)
  replace hB : m_B D ty A s L ad (va_up g pp (.inr (0, [.int fo, .null, .int 0, .int 0, .int 0]))) H locs := hB
  refine lv_aload_n hx hb dX2_init_9 rfl (lv_at hl 0 rfl) ?_
  refine lv_iconst (v := 4) hx hb dX2_init_10 (by decide) ?_
  refine n_newq (C := RX7) (N' := 4) hx hb hown (hts (.classLink RX2 15 RX7) (by decide +kernel)) hB.2.1.1.2.2.2 hB 7 rfl pt n_pt (by decide) (by decide) (by decide) (Nat.le_of_ble_eq_true rfl) (Nat.le_of_ble_eq_true rfl) dX2_init_11 (fun ad_1 H had_1 hB => ?_)
  have e1_pp : ad pp = ad_1 pp := had_1 pp m_pp
  replace hl : lv_has ls 2 [(0, .ref (ad_1 pp)), (1, .int fo)] := by rw [← e1_pp]; exact hl
  replace hB : m_B D ty A s (L ++ [pt]) ad_1 (va_up (va_up g pp (.inr (0, [.int fo, .null, .int 0, .int 0, .int 0]))) pt (.inl (ty 7, 4, .inr (.inr (.inr (.inr (fun _ => none))))))) H locs := hB
  refine W.eq (g2 := F0 m 14 ls [.ref (ad_1 pt), .ref (ad_1 pp)]) (by rw [e1_pp]) ?_
  refine m_putF (C := RX0) (T := TX0) (N := 5) (ci := 0) (v := .ref (ad_1 pt)) (ft := .array (.object "PaperRoom$Text")) hx hb hts in_X2_init_X0 tyX0 tyX0_ok nmX0 hown hB (List.mem_append_left _ m_pp) ((va_up_ne _ _ ne).trans (va_up_self _ _ _)) rfl 1 (by decide) (hts (.fieldLink RX2 17 "PaperRoom$Paper" "texts" "[LPaperRoom$Text;") (by decide +kernel)) (fun _ h9 => h9) rfl hin rfl (by decide +kernel) rfl rfl (Nat.le_of_ble_eq_true rfl) dX2_init_14 (fun H locs hB => ?_)
  replace hB : m_B D ty A s (L ++ [pt]) ad_1 (va_up (va_up (va_up g pp (.inr (0, [.int fo, .null, .int 0, .int 0, .int 0]))) pt (.inl (ty 7, 4, .inr (.inr (.inr (.inr (fun _ => none))))))) pp (.inr (0, [.int fo, .ref (ad_1 pt), .int 0, .int 0, .int 0]))) H locs := hB
  exact m_vret hx hb hrt hlocks hB (Nat.le_refl _) (Nat.le_refl _) dX2_init_17 ⟨rfl, rfl, (fun x hx => had_1 x hx), (fun x hx hn_pp => ((va_up_ne _ _ hn_pp).trans ((va_up_ne _ _ (fun e9 => n_pt (by rw [← e9]; exact hx))).trans ((va_up_ne _ _ hn_pp).trans rfl)))), (va_up_self _ _ _), ((va_up_ne _ _ (Ne.symm ne)).trans (va_up_self _ _ _))⟩
set_option maxRecDepth 20000 in
theorem in_X2_init_X1 : ∀ w ∈ wsX10, w ∈ wsX2_init := by decide +kernel
set_option maxHeartbeats 1000000 in
set_option maxRecDepth 100000 in
theorem c_Marked_init0 (l : Launch) (D : va_G) (ty : Nat → ClassId) (L : List Nat) (ad : Nat → Nat) (g : Nat → va_E) (pp pt : Nat) (fo : Int32) (m_pp : pp ∈ L) (h_pp : g pp = .inr (1, [.int 0, .null, .int 0, .int 0])) (n_pt : pt ∉ L) (ne : pp ≠ pt) : m_C l yX2_init wsX2_init 1 20 1 4 D ty [.ref (ad pp), .int fo] L ad g (fun v1 L1 ad1 g1 => v1 = none ∧ L1 = (L ++ [pt]) ∧ (∀ x ∈ L, ad x = ad1 x) ∧ (∀ x ∈ L, x ≠ pp → g1 x = g x) ∧ g1 pp = .inr (1, [.int fo, .ref (ad1 pt), .int 0, .int 0]) ∧ g1 pt = .inl (ty 7, 4, .inr (.inr (.inr (.inr (fun _ => none)))))) := by
  intro sz
  refine Met.ofW (cc := cX2_init) (maxL := 2) (ret := none) (by decide) rfl ?_
  intro p e s m args below meth c s₁ B hml hv
  have hx := B.exec
  have hb := B.bytes
  have hrt := B.returns
  have hts := atoms_spec (ws := wsX2_init) B.pre
  have hown : s.vm.findClass RX2 = some m.cls := findClass_of_methodNamed B.named
  have hlocks := B.notSynchronized
  have hin : meth.name = "<init>" := (name_of_methodNamed B.named B.method).1
  obtain ⟨rfl, hB⟩ := m_start hv
  generalize va_A (m_w L ad g) sz = A at hB ⊢
  generalize s.heap = H at hB ⊢
  generalize ([] : List Loc) = locs at hB ⊢
  have hl := lv_entry ([.ref (ad pp), .int fo]) (n := 2) (Nat.le_of_ble_eq_true rfl)
  rw [lg_entry_eq]
  generalize (lg_sl ([.ref (ad pp), .int fo]) ++ List.replicate (2 - (lg_sl ([.ref (ad pp), .int fo])).length) Slot.unset).toArray = ls at hl ⊢
  have hl : lv_has ls 2 [(0, .ref (ad pp)), (1, .int fo)] := hl
  refine lv_aload_n hx hb dX2_init_0 rfl (lv_at hl 0 rfl) ?_
  refine W.objInit hx hb hown (hts (.methodLink RX2 3 objectInit) (by decide +kernel)) (hts (.instanceMethod objectInit) (by decide +kernel)) (hts _ oi_X2_init) rfl (by rw [hml]; exact hl.1) rfl dX2_init_1 (Nat.le_of_ble_eq_true rfl) (Nat.le_of_ble_eq_true rfl) ?_
  refine W.eq (g2 := F0 m 4 ls []) rfl ?_
  refine lv_aload_n hx hb dX2_init_4 rfl (lv_at hl 0 rfl) ?_
  refine lv_iload_n hx hb dX2_init_5 rfl (lv_at hl 1 rfl) ?_
  refine m_putF (C := RX1) (T := TX1) (N := 4) (ci := 1) (v := .int fo) (ft := .int) hx hb hts in_X2_init_X1 tyX1 tyX1_ok nmX1 hown hB m_pp h_pp rfl 0 (by decide) (hts (.fieldLink RX2 9 "PaperRoom$Paper" "folder" "I") (by decide +kernel)) (fun _ h9 => h9) rfl hin rfl (by decide +kernel) rfl rfl (Nat.le_of_ble_eq_true rfl) dX2_init_6 (fun H locs hB => ?_)
  replace hB : m_B D ty A s L ad (va_up g pp (.inr (1, [.int fo, .null, .int 0, .int 0]))) H locs := hB
  refine lv_aload_n hx hb dX2_init_9 rfl (lv_at hl 0 rfl) ?_
  refine lv_iconst (v := 4) hx hb dX2_init_10 (by decide) ?_
  refine n_newq (C := RX7) (N' := 4) hx hb hown (hts (.classLink RX2 15 RX7) (by decide +kernel)) hB.2.1.1.2.2.2 hB 7 rfl pt n_pt (by decide) (by decide) (by decide) (Nat.le_of_ble_eq_true rfl) (Nat.le_of_ble_eq_true rfl) dX2_init_11 (fun ad_1 H had_1 hB => ?_)
  have e1_pp : ad pp = ad_1 pp := had_1 pp m_pp
  replace hl : lv_has ls 2 [(0, .ref (ad_1 pp)), (1, .int fo)] := by rw [← e1_pp]; exact hl
  replace hB : m_B D ty A s (L ++ [pt]) ad_1 (va_up (va_up g pp (.inr (1, [.int fo, .null, .int 0, .int 0]))) pt (.inl (ty 7, 4, .inr (.inr (.inr (.inr (fun _ => none))))))) H locs := hB
  refine W.eq (g2 := F0 m 14 ls [.ref (ad_1 pt), .ref (ad_1 pp)]) (by rw [e1_pp]) ?_
  refine m_putF (C := RX1) (T := TX1) (N := 4) (ci := 1) (v := .ref (ad_1 pt)) (ft := .array (.object "PaperRoom$Text")) hx hb hts in_X2_init_X1 tyX1 tyX1_ok nmX1 hown hB (List.mem_append_left _ m_pp) ((va_up_ne _ _ ne).trans (va_up_self _ _ _)) rfl 1 (by decide) (hts (.fieldLink RX2 17 "PaperRoom$Paper" "texts" "[LPaperRoom$Text;") (by decide +kernel)) (fun _ h9 => h9) rfl hin rfl (by decide +kernel) rfl rfl (Nat.le_of_ble_eq_true rfl) dX2_init_14 (fun H locs hB => ?_)
  replace hB : m_B D ty A s (L ++ [pt]) ad_1 (va_up (va_up (va_up g pp (.inr (1, [.int fo, .null, .int 0, .int 0]))) pt (.inl (ty 7, 4, .inr (.inr (.inr (.inr (fun _ => none))))))) pp (.inr (1, [.int fo, .ref (ad_1 pt), .int 0, .int 0]))) H locs := hB
  exact m_vret hx hb hrt hlocks hB (Nat.le_refl _) (Nat.le_refl _) dX2_init_17 ⟨rfl, rfl, (fun x hx => had_1 x hx), (fun x hx hn_pp => ((va_up_ne _ _ hn_pp).trans ((va_up_ne _ _ (fun e9 => n_pt (by rw [← e9]; exact hx))).trans ((va_up_ne _ _ hn_pp).trans rfl)))), (va_up_self _ _ _), ((va_up_ne _ _ (Ne.symm ne)).trans (va_up_self _ _ _))⟩
set_option maxRecDepth 20000 in
theorem in_X2_init_X2 : ∀ w ∈ wsX20, w ∈ wsX2_init := by decide +kernel
set_option maxHeartbeats 1000000 in
set_option maxRecDepth 100000 in
theorem c_Paper_init0 (l : Launch) (D : va_G) (ty : Nat → ClassId) (L : List Nat) (ad : Nat → Nat) (g : Nat → va_E) (pp pt : Nat) (fo : Int32) (m_pp : pp ∈ L) (h_pp : g pp = .inr (2, [.int 0, .null, .int 0, .int 0])) (n_pt : pt ∉ L) (ne : pp ≠ pt) : m_C l yX2_init wsX2_init 1 20 1 4 D ty [.ref (ad pp), .int fo] L ad g (fun v1 L1 ad1 g1 => v1 = none ∧ L1 = (L ++ [pt]) ∧ (∀ x ∈ L, ad x = ad1 x) ∧ (∀ x ∈ L, x ≠ pp → g1 x = g x) ∧ g1 pp = .inr (2, [.int fo, .ref (ad1 pt), .int 0, .int 0]) ∧ g1 pt = .inl (ty 7, 4, .inr (.inr (.inr (.inr (fun _ => none)))))) := by
  intro sz
  refine Met.ofW (cc := cX2_init) (maxL := 2) (ret := none) (by decide) rfl ?_
  intro p e s m args below meth c s₁ B hml hv
  have hx := B.exec
  have hb := B.bytes
  have hrt := B.returns
  have hts := atoms_spec (ws := wsX2_init) B.pre
  have hown : s.vm.findClass RX2 = some m.cls := findClass_of_methodNamed B.named
  have hlocks := B.notSynchronized
  have hin : meth.name = "<init>" := (name_of_methodNamed B.named B.method).1
  obtain ⟨rfl, hB⟩ := m_start hv
  generalize va_A (m_w L ad g) sz = A at hB ⊢
  generalize s.heap = H at hB ⊢
  generalize ([] : List Loc) = locs at hB ⊢
  have hl := lv_entry ([.ref (ad pp), .int fo]) (n := 2) (Nat.le_of_ble_eq_true rfl)
  rw [lg_entry_eq]
  generalize (lg_sl ([.ref (ad pp), .int fo]) ++ List.replicate (2 - (lg_sl ([.ref (ad pp), .int fo])).length) Slot.unset).toArray = ls at hl ⊢
  have hl : lv_has ls 2 [(0, .ref (ad pp)), (1, .int fo)] := hl
  refine lv_aload_n hx hb dX2_init_0 rfl (lv_at hl 0 rfl) ?_
  refine W.objInit hx hb hown (hts (.methodLink RX2 3 objectInit) (by decide +kernel)) (hts (.instanceMethod objectInit) (by decide +kernel)) (hts _ oi_X2_init) rfl (by rw [hml]; exact hl.1) rfl dX2_init_1 (Nat.le_of_ble_eq_true rfl) (Nat.le_of_ble_eq_true rfl) ?_
  refine W.eq (g2 := F0 m 4 ls []) rfl ?_
  refine lv_aload_n hx hb dX2_init_4 rfl (lv_at hl 0 rfl) ?_
  refine lv_iload_n hx hb dX2_init_5 rfl (lv_at hl 1 rfl) ?_
  refine m_putF (C := RX2) (T := TX2) (N := 4) (ci := 2) (v := .int fo) (ft := .int) hx hb hts in_X2_init_X2 tyX2 tyX2_ok nmX2 hown hB m_pp h_pp rfl 0 (by decide) (hts (.fieldLink RX2 9 "PaperRoom$Paper" "folder" "I") (by decide +kernel)) (fun _ h9 => h9) rfl hin rfl (by decide +kernel) rfl rfl (Nat.le_of_ble_eq_true rfl) dX2_init_6 (fun H locs hB => ?_)
  replace hB : m_B D ty A s L ad (va_up g pp (.inr (2, [.int fo, .null, .int 0, .int 0]))) H locs := hB
  refine lv_aload_n hx hb dX2_init_9 rfl (lv_at hl 0 rfl) ?_
  refine lv_iconst (v := 4) hx hb dX2_init_10 (by decide) ?_
  refine n_newq (C := RX7) (N' := 4) hx hb hown (hts (.classLink RX2 15 RX7) (by decide +kernel)) hB.2.1.1.2.2.2 hB 7 rfl pt n_pt (by decide) (by decide) (by decide) (Nat.le_of_ble_eq_true rfl) (Nat.le_of_ble_eq_true rfl) dX2_init_11 (fun ad_1 H had_1 hB => ?_)
  have e1_pp : ad pp = ad_1 pp := had_1 pp m_pp
  replace hl : lv_has ls 2 [(0, .ref (ad_1 pp)), (1, .int fo)] := by rw [← e1_pp]; exact hl
  replace hB : m_B D ty A s (L ++ [pt]) ad_1 (va_up (va_up g pp (.inr (2, [.int fo, .null, .int 0, .int 0]))) pt (.inl (ty 7, 4, .inr (.inr (.inr (.inr (fun _ => none))))))) H locs := hB
  refine W.eq (g2 := F0 m 14 ls [.ref (ad_1 pt), .ref (ad_1 pp)]) (by rw [e1_pp]) ?_
  refine m_putF (C := RX2) (T := TX2) (N := 4) (ci := 2) (v := .ref (ad_1 pt)) (ft := .array (.object "PaperRoom$Text")) hx hb hts in_X2_init_X2 tyX2 tyX2_ok nmX2 hown hB (List.mem_append_left _ m_pp) ((va_up_ne _ _ ne).trans (va_up_self _ _ _)) rfl 1 (by decide) (hts (.fieldLink RX2 17 "PaperRoom$Paper" "texts" "[LPaperRoom$Text;") (by decide +kernel)) (fun _ h9 => h9) rfl hin rfl (by decide +kernel) rfl rfl (Nat.le_of_ble_eq_true rfl) dX2_init_14 (fun H locs hB => ?_)
  replace hB : m_B D ty A s (L ++ [pt]) ad_1 (va_up (va_up (va_up g pp (.inr (2, [.int fo, .null, .int 0, .int 0]))) pt (.inl (ty 7, 4, .inr (.inr (.inr (.inr (fun _ => none))))))) pp (.inr (2, [.int fo, .ref (ad_1 pt), .int 0, .int 0]))) H locs := hB
  exact m_vret hx hb hrt hlocks hB (Nat.le_refl _) (Nat.le_refl _) dX2_init_17 ⟨rfl, rfl, (fun x hx => had_1 x hx), (fun x hx hn_pp => ((va_up_ne _ _ hn_pp).trans ((va_up_ne _ _ (fun e9 => n_pt (by rw [← e9]; exact hx))).trans ((va_up_ne _ _ hn_pp).trans rfl)))), (va_up_self _ _ _), ((va_up_ne _ _ (Ne.symm ne)).trans (va_up_self _ _ _))⟩
set_option maxHeartbeats 1000000 in
set_option maxRecDepth 100000 in
theorem c_Marked_init (l : Launch) (D : va_G) (ty : Nat → ClassId) (L : List Nat) (ad : Nat → Nat) (g : Nat → va_E) (pp pt : Nat) (fo : Int32) (m_pp : pp ∈ L) (h_pp : g pp = .inr (1, [.int 0, .null, .int 0, .int 0])) (n_pt : pt ∉ L) (ne : pp ≠ pt) : m_C l yX1_init wsX1_init 2 41 1 4 D ty [.ref (ad pp), .int fo] L ad g (fun v1 L1 ad1 g1 => v1 = none ∧ L1 = (L ++ [pt]) ∧ (∀ x ∈ L, ad x = ad1 x) ∧ (∀ x ∈ L, x ≠ pp → g1 x = g x) ∧ g1 pp = .inr (1, [.int fo, .ref (ad1 pt), .int 0, .int 0]) ∧ g1 pt = .inl (ty 7, 4, .inr (.inr (.inr (.inr (fun _ => none)))))) := by
  intro sz
  refine Met.ofW (cc := cX1_init) (maxL := 2) (ret := none) (by decide) rfl ?_
  intro p e s m args below meth c s₁ B hml hv
  have hx := B.exec
  have hb := B.bytes
  have hrt := B.returns
  have hts := atoms_spec (ws := wsX1_init) B.pre
  have hown : s.vm.findClass RX1 = some m.cls := findClass_of_methodNamed B.named
  have hlocks := B.notSynchronized
  have hin : meth.name = "<init>" := (name_of_methodNamed B.named B.method).1
  obtain ⟨rfl, hB⟩ := m_start hv
  generalize va_A (m_w L ad g) sz = A at hB ⊢
  generalize s.heap = H at hB ⊢
  generalize ([] : List Loc) = locs at hB ⊢
  have hl := lv_entry ([.ref (ad pp), .int fo]) (n := 2) (Nat.le_of_ble_eq_true rfl)
  rw [lg_entry_eq]
  generalize (lg_sl ([.ref (ad pp), .int fo]) ++ List.replicate (2 - (lg_sl ([.ref (ad pp), .int fo])).length) Slot.unset).toArray = ls at hl ⊢
  have hl : lv_has ls 2 [(0, .ref (ad pp)), (1, .int fo)] := hl
  refine lv_aload_n hx hb dX1_init_0 rfl (lv_at hl 0 rfl) ?_
  refine lv_iload_n hx hb dX1_init_1 rfl (lv_at hl 1 rfl) ?_
  refine m_callI (r := pp) (As := [.int fo]) (rest := []) (c_Marked_init0 l D ty L ad g pp pt fo m_pp h_pp n_pt ne) ⟨hx, hb, hml, hown, hts⟩ (cwI 1 hts gX1_init_X2_init rfl rfl rfl (hts (.initialized RX2) (by decide +kernel)) (hts (.methodLink RX1 3 yX2_init) (by decide +kernel)) (hts (.instanceMethod yX2_init) (by decide +kernel)) rfl (by decide +kernel) ⟨Nat.le_of_ble_eq_true rfl, Nat.le_of_ble_eq_true rfl⟩) hB rfl hl.1 rfl (Nat.le_of_ble_eq_true rfl) dX1_init_2 ⟨Nat.le_of_ble_eq_true rfl, Nat.le_of_ble_eq_true rfl⟩ (fun v102 L102 ad_102 g102 H locs hp102 hB => ?_)
  obtain ⟨q1_102, q2_102, had_102, hfr_102, hf102_0, hf102_1⟩ := hp102
  subst q2_102
  have e102_pp : ad pp = ad_102 pp := had_102 pp m_pp
  replace hl : lv_has ls 2 [(0, .ref (ad_102 pp)), (1, .int fo)] := by rw [← e102_pp]; exact hl
  refine W.eq (g2 := F0 m 5 ls []) (by rw [q1_102]; rfl) ?_
  exact m_vret hx hb hrt hlocks hB (Nat.le_refl _) (Nat.le_refl _) dX1_init_5 ⟨rfl, rfl, (fun x hx => had_102 x hx), (fun x hx hn_pp => ((hfr_102 x hx hn_pp).trans rfl)), hf102_0, hf102_1⟩
set_option maxRecDepth 20000 in
theorem in_X0_init_X0 : ∀ w ∈ wsX00, w ∈ wsX0_init := by decide +kernel
set_option maxHeartbeats 1000000 in
set_option maxRecDepth 100000 in
theorem c_Held_init (l : Launch) (D : va_G) (ty : Nat → ClassId) (L : List Nat) (ad : Nat → Nat) (g : Nat → va_E) (pp pt : Nat) (fo lg : Int32) (m_pp : pp ∈ L) (h_pp : g pp = .inr (0, [.int 0, .null, .int 0, .int 0, .int 0])) (n_pt : pt ∉ L) (ne : pp ≠ pt) : m_C l yX0_init wsX0_init 2 41 1 4 D ty [.ref (ad pp), .int fo, .int lg] L ad g (fun v1 L1 ad1 g1 => v1 = none ∧ L1 = (L ++ [pt]) ∧ (∀ x ∈ L, ad x = ad1 x) ∧ (∀ x ∈ L, x ≠ pp → g1 x = g x) ∧ g1 pp = .inr (0, [.int fo, .ref (ad1 pt), .int 0, .int 0, .int lg]) ∧ g1 pt = .inl (ty 7, 4, .inr (.inr (.inr (.inr (fun _ => none)))))) := by
  intro sz
  refine Met.ofW (cc := cX0_init) (maxL := 3) (ret := none) (by decide) rfl ?_
  intro p e s m args below meth c s₁ B hml hv
  have hx := B.exec
  have hb := B.bytes
  have hrt := B.returns
  have hts := atoms_spec (ws := wsX0_init) B.pre
  have hown : s.vm.findClass RX0 = some m.cls := findClass_of_methodNamed B.named
  have hlocks := B.notSynchronized
  have hin : meth.name = "<init>" := (name_of_methodNamed B.named B.method).1
  obtain ⟨rfl, hB⟩ := m_start hv
  generalize va_A (m_w L ad g) sz = A at hB ⊢
  generalize s.heap = H at hB ⊢
  generalize ([] : List Loc) = locs at hB ⊢
  have hl := lv_entry ([.ref (ad pp), .int fo, .int lg]) (n := 3) (Nat.le_of_ble_eq_true rfl)
  rw [lg_entry_eq]
  generalize (lg_sl ([.ref (ad pp), .int fo, .int lg]) ++ List.replicate (3 - (lg_sl ([.ref (ad pp), .int fo, .int lg])).length) Slot.unset).toArray = ls at hl ⊢
  have hl : lv_has ls 3 [(0, .ref (ad pp)), (1, .int fo), (2, .int lg)] := hl
  refine lv_aload_n hx hb dX0_init_0 rfl (lv_at hl 0 rfl) ?_
  refine lv_iload_n hx hb dX0_init_1 rfl (lv_at hl 1 rfl) ?_
  refine m_callI (r := pp) (As := [.int fo]) (rest := []) (c_Held_init0 l D ty L ad g pp pt fo m_pp h_pp n_pt ne) ⟨hx, hb, hml, hown, hts⟩ (cwI 1 hts gX0_init_X2_init rfl rfl rfl (hts (.initialized RX2) (by decide +kernel)) (hts (.methodLink RX0 3 yX2_init) (by decide +kernel)) (hts (.instanceMethod yX2_init) (by decide +kernel)) rfl (by decide +kernel) ⟨Nat.le_of_ble_eq_true rfl, Nat.le_of_ble_eq_true rfl⟩) hB rfl hl.1 rfl (Nat.le_of_ble_eq_true rfl) dX0_init_2 ⟨Nat.le_of_ble_eq_true rfl, Nat.le_of_ble_eq_true rfl⟩ (fun v102 L102 ad_102 g102 H locs hp102 hB => ?_)
  obtain ⟨q1_102, q2_102, had_102, hfr_102, hf102_0, hf102_1⟩ := hp102
  subst q2_102
  have e102_pp : ad pp = ad_102 pp := had_102 pp m_pp
  replace hl : lv_has ls 3 [(0, .ref (ad_102 pp)), (1, .int fo), (2, .int lg)] := by rw [← e102_pp]; exact hl
  refine W.eq (g2 := F0 m 5 ls []) (by rw [q1_102]; rfl) ?_
  refine lv_aload_n hx hb dX0_init_5 rfl (lv_at hl 0 rfl) ?_
  refine lv_iload_n hx hb dX0_init_6 rfl (lv_at hl 2 rfl) ?_
  refine m_putF (C := RX0) (T := TX0) (N := 5) (ci := 0) (v := .int lg) (ft := .int) hx hb hts in_X0_init_X0 tyX0 tyX0_ok nmX0 hown hB (List.mem_append_left _ m_pp) hf102_0 rfl 4 (by decide) (hts (.fieldLink RX0 9 "PaperRoom$Held" "letGo" "I") (by decide +kernel)) (fun _ h9 => h9) rfl hin rfl (by decide +kernel) rfl rfl (Nat.le_of_ble_eq_true rfl) dX0_init_7 (fun H locs hB => ?_)
  replace hB : m_B D ty A s (L ++ [pt]) ad_102 (va_up g102 pp (.inr (0, [.int fo, .ref (ad_102 pt), .int 0, .int 0, .int lg]))) H locs := hB
  exact m_vret hx hb hrt hlocks hB (Nat.le_refl _) (Nat.le_refl _) dX0_init_10 ⟨rfl, rfl, (fun x hx => had_102 x hx), (fun x hx hn_pp => ((va_up_ne _ _ hn_pp).trans ((hfr_102 x hx hn_pp).trans rfl))), (va_up_self _ _ _), ((va_up_ne _ _ (Ne.symm ne)).trans hf102_1)⟩
theorem oi_X3_init : Cond.code objectInit ⟨#[0xb1]⟩ 1 none ∈ wsX3_init := List.mem_cons_of_mem _ (by first | exact List.mem_of_getElem? (i := 2) rfl | exact List.mem_append_left _ (List.mem_of_getElem? (i := 2) rfl) | exact List.mem_append_left _ (List.mem_append_left _ (List.mem_of_getElem? (i := 2) rfl)) | exact List.mem_append_left _ (List.mem_append_left _ (List.mem_append_left _ (List.mem_of_getElem? (i := 2) rfl))) | exact List.mem_append_left _ (List.mem_append_left _ (List.mem_append_left _ (List.mem_append_left _ (List.mem_of_getElem? (i := 2) rfl)))))
set_option maxRecDepth 20000 in
theorem in_X3_init_X3 : ∀ w ∈ wsX30, w ∈ wsX3_init := by decide +kernel
set_option maxHeartbeats 1000000 in
set_option maxRecDepth 100000 in
theorem c_Question_init (l : Launch) (D : va_G) (ty : Nat → ClassId) (L : List Nat) (ad : Nat → Nat) (g : Nat → va_E) (q : Nat) (pn tp : Int32) (m_q : q ∈ L) (h_q : g q = .inr (3, [.int 0, .int 0, .int 0, .int 0, .int 0])) : m_E l yX3_init wsX3_init 1 20 D ty [.ref (ad q), .int pn, .int tp] L ad g none (va_up g q (.inr (3, [.int pn, .int tp, .int 0, .int 0, .int 0]))) := by
  intro sz
  refine Met.ofW (cc := cX3_init) (maxL := 3) (ret := none) (by decide) rfl ?_
  intro p e s m args below meth c s₁ B hml hv
  have hx := B.exec
  have hb := B.bytes
  have hrt := B.returns
  have hts := atoms_spec (ws := wsX3_init) B.pre
  have hown : s.vm.findClass RX3 = some m.cls := findClass_of_methodNamed B.named
  have hlocks := B.notSynchronized
  have hin : meth.name = "<init>" := (name_of_methodNamed B.named B.method).1
  obtain ⟨rfl, hB⟩ := m_start hv
  generalize va_A (m_w L ad g) sz = A at hB ⊢
  generalize s.heap = H at hB ⊢
  generalize ([] : List Loc) = locs at hB ⊢
  have hl := lv_entry ([.ref (ad q), .int pn, .int tp]) (n := 3) (Nat.le_of_ble_eq_true rfl)
  rw [lg_entry_eq]
  generalize (lg_sl ([.ref (ad q), .int pn, .int tp]) ++ List.replicate (3 - (lg_sl ([.ref (ad q), .int pn, .int tp])).length) Slot.unset).toArray = ls at hl ⊢
  have hl : lv_has ls 3 [(0, .ref (ad q)), (1, .int pn), (2, .int tp)] := hl
  refine lv_aload_n hx hb dX3_init_0 rfl (lv_at hl 0 rfl) ?_
  refine W.objInit hx hb hown (hts (.methodLink RX3 3 objectInit) (by decide +kernel)) (hts (.instanceMethod objectInit) (by decide +kernel)) (hts _ oi_X3_init) rfl (by rw [hml]; exact hl.1) rfl dX3_init_1 (Nat.le_of_ble_eq_true rfl) (Nat.le_of_ble_eq_true rfl) ?_
  refine W.eq (g2 := F0 m 4 ls []) rfl ?_
  refine lv_aload_n hx hb dX3_init_4 rfl (lv_at hl 0 rfl) ?_
  refine lv_iconst (v := 0) hx hb dX3_init_5 (by decide) ?_
  refine m_put (C := RX3) (T := TX3) (N := 5) (ci := 3) (v := .int 0) (ft := .int) hx hb hts in_X3_init_X3 tyX3 tyX3_ok nmX3 hown hB m_q h_q rfl 3 (by decide) (hts (.fieldLink RX3 9 "PaperRoom$Question" "reach" "I") (by decide +kernel)) (fun _ h9 => h9) rfl (by decide +kernel) rfl rfl (Nat.le_of_ble_eq_true rfl) dX3_init_6 (fun H locs hB => ?_)
  replace hB : m_B D ty A s L ad (va_up g q (.inr (3, [.int 0, .int 0, .int 0, .int 0, .int 0]))) H locs := hB
  refine lv_aload_n hx hb dX3_init_9 rfl (lv_at hl 0 rfl) ?_
  refine lv_iload_n hx hb dX3_init_10 rfl (lv_at hl 1 rfl) ?_
  refine m_putF (C := RX3) (T := TX3) (N := 5) (ci := 3) (v := .int pn) (ft := .int) hx hb hts in_X3_init_X3 tyX3 tyX3_ok nmX3 hown hB m_q (va_up_self _ _ _) rfl 0 (by decide) (hts (.fieldLink RX3 15 "PaperRoom$Question" "paperNumber" "I") (by decide +kernel)) (fun _ h9 => h9) rfl hin rfl (by decide +kernel) rfl rfl (Nat.le_of_ble_eq_true rfl) dX3_init_11 (fun H locs hB => ?_)
  replace hB : m_B D ty A s L ad (va_up (va_up g q (.inr (3, [.int 0, .int 0, .int 0, .int 0, .int 0]))) q (.inr (3, [.int pn, .int 0, .int 0, .int 0, .int 0]))) H locs := hB
  refine lv_aload_n hx hb dX3_init_14 rfl (lv_at hl 0 rfl) ?_
  refine lv_iload_n hx hb dX3_init_15 rfl (lv_at hl 2 rfl) ?_
  refine m_putF (C := RX3) (T := TX3) (N := 5) (ci := 3) (v := .int tp) (ft := .int) hx hb hts in_X3_init_X3 tyX3 tyX3_ok nmX3 hown hB m_q (va_up_self _ _ _) rfl 1 (by decide) (hts (.fieldLink RX3 18 "PaperRoom$Question" "topic" "I") (by decide +kernel)) (fun _ h9 => h9) rfl hin rfl (by decide +kernel) rfl rfl (Nat.le_of_ble_eq_true rfl) dX3_init_16 (fun H locs hB => ?_)
  replace hB : m_B D ty A s L ad (va_up (va_up (va_up g q (.inr (3, [.int 0, .int 0, .int 0, .int 0, .int 0]))) q (.inr (3, [.int pn, .int 0, .int 0, .int 0, .int 0]))) q (.inr (3, [.int pn, .int tp, .int 0, .int 0, .int 0]))) H locs := hB
  exact m_vret hx hb hrt hlocks hB (Nat.le_refl _) (Nat.le_refl _) dX3_init_19 ⟨rfl, rfl, rfl, by rw [bx_uu, bx_uu]⟩
