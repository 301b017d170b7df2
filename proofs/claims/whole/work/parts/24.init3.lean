theorem oi_X4_init : Cond.code objectInit ⟨#[0xb1]⟩ 1 none ∈ wsX4_init := List.mem_cons_of_mem _ (by first | exact List.mem_of_getElem? (i := 2) rfl | exact List.mem_append_left _ (List.mem_of_getElem? (i := 2) rfl) | exact List.mem_append_left _ (List.mem_append_left _ (List.mem_of_getElem? (i := 2) rfl)) | exact List.mem_append_left _ (List.mem_append_left _ (List.mem_append_left _ (List.mem_of_getElem? (i := 2) rfl))) | exact List.mem_append_left _ (List.mem_append_left _ (List.mem_append_left _ (List.mem_append_left _ (List.mem_of_getElem? (i := 2) rfl)))))
set_option maxRecDepth 20000 in
theorem in_X4_init_X4 : ∀ w ∈ wsX40, w ∈ wsX4_init := by decide +kernel
set_option maxHeartbeats 1000000 in
set_option maxRecDepth 100000 in
theorem c_Rights_init (l : Launch) (D : va_G) (ty : Nat → ClassId) (L : List Nat) (ad : Nat → Nat) (g : Nat → va_E) (rg st en : Nat) (m_rg : rg ∈ L) (h_rg : g rg = .inr (4, [.null, .null])) (n_st : st ∉ L) (n_en : en ∉ L) (ne1 : rg ≠ st) (ne2 : rg ≠ en) (ne3 : st ≠ en) : m_C l yX4_init wsX4_init 1 20 2 24 D ty [.ref (ad rg)] L ad g (fun v1 L1 ad1 g1 => v1 = none ∧ L1 = ((L ++ [st]) ++ [en]) ∧ (∀ x ∈ L, ad x = ad1 x) ∧ (∀ x ∈ L, x ≠ rg → g1 x = g x) ∧ g1 rg = .inr (4, [.ref (ad1 st), .ref (ad1 en)]) ∧ g1 st = .inl (ty 0, 12, .inl (fun _ => 0)) ∧ g1 en = .inl (ty 0, 12, .inl (fun _ => 0))) := by
  intro sz
  refine Met.ofW (cc := cX4_init) (maxL := 1) (ret := none) (by decide) rfl ?_
  intro p e s m args below meth c s₁ B hml hv
  have hx := B.exec
  have hb := B.bytes
  have hrt := B.returns
  have hts := atoms_spec (ws := wsX4_init) B.pre
  have hown : s.vm.findClass RX4 = some m.cls := findClass_of_methodNamed B.named
  have hlocks := B.notSynchronized
  have hin : meth.name = "<init>" := (name_of_methodNamed B.named B.method).1
  obtain ⟨rfl, hB⟩ := m_start hv
  generalize va_A (m_w L ad g) sz = A at hB ⊢
  generalize s.heap = H at hB ⊢
  generalize ([] : List Loc) = locs at hB ⊢
  have hl := lv_entry ([.ref (ad rg)]) (n := 1) (Nat.le_of_ble_eq_true rfl)
  rw [lg_entry_eq]
  generalize (lg_sl ([.ref (ad rg)]) ++ List.replicate (1 - (lg_sl ([.ref (ad rg)])).length) Slot.unset).toArray = ls at hl ⊢
  have hl : lv_has ls 1 [(0, .ref (ad rg))] := hl
  refine lv_aload_n hx hb dX4_init_0 rfl (lv_at hl 0 rfl) ?_
  refine W.objInit hx hb hown (hts (.methodLink RX4 3 objectInit) (by decide +kernel)) (hts (.instanceMethod objectInit) (by decide +kernel)) (hts _ oi_X4_init) rfl (by rw [hml]; exact hl.1) rfl dX4_init_1 (Nat.le_of_ble_eq_true rfl) (Nat.le_of_ble_eq_true rfl) ?_
  refine W.eq (g2 := F0 m 4 ls []) rfl ?_
  refine lv_aload_n hx hb dX4_init_4 rfl (lv_at hl 0 rfl) ?_
  refine lv_bipush (v := 12) hx hb dX4_init_5 (by decide) ?_
  refine n_newa (atype := .int) (ft := .int) (a0 := (12, .inl (fun _ => 0))) hx hb (hts (.arrayClass .int) (by decide +kernel)) rfl hB 0 rfl st n_st (fun _ => rfl) (by rw [i_lt, i_0]; first | omega | decide) (by first | exact nI_clamp (by omega) | decide) (by show _ * 4 ≤ _; omega) (Nat.le_of_ble_eq_true rfl) (Nat.le_of_ble_eq_true rfl) dX4_init_7 (fun ad_1 H had_1 hB => ?_)
  have e1_rg : ad rg = ad_1 rg := had_1 rg m_rg
  replace hl : lv_has ls 1 [(0, .ref (ad_1 rg))] := by rw [← e1_rg]; exact hl
  replace hB : m_B D ty A s (L ++ [st]) ad_1 (va_up g st (.inl (ty 0, 12, .inl (fun _ => 0)))) H locs := hB
  refine W.eq (g2 := F0 m 9 ls [.ref (ad_1 st), .ref (ad_1 rg)]) (by rw [e1_rg]) ?_
  refine m_putF (C := RX4) (T := TX4) (N := 2) (ci := 4) (v := .ref (ad_1 st)) (ft := .array .int) hx hb hts in_X4_init_X4 tyX4 tyX4_ok nmX4 hown hB (List.mem_append_left _ m_rg) ((va_up_ne _ _ ne1).trans h_rg) rfl 0 (by decide) (hts (.fieldLink RX4 9 "PaperRoom$Rights" "starts" "[I") (by decide +kernel)) (fun _ h9 => h9) rfl hin rfl (by decide +kernel) rfl rfl (Nat.le_of_ble_eq_true rfl) dX4_init_9 (fun H locs hB => ?_)
  replace hB : m_B D ty A s (L ++ [st]) ad_1 (va_up (va_up g st (.inl (ty 0, 12, .inl (fun _ => 0)))) rg (.inr (4, [.ref (ad_1 st), .null]))) H locs := hB
  refine lv_aload_n hx hb dX4_init_12 rfl (lv_at hl 0 rfl) ?_
  refine lv_bipush (v := 12) hx hb dX4_init_13 (by decide) ?_
  refine n_newa (atype := .int) (ft := .int) (a0 := (12, .inl (fun _ => 0))) hx hb (hts (.arrayClass .int) (by decide +kernel)) rfl hB 0 rfl en (fun h9 => (List.mem_append.mp h9).elim n_en (fun h8 => ne3 (List.mem_singleton.mp h8).symm)) (fun _ => rfl) (by rw [i_lt, i_0]; first | omega | decide) (by first | exact nI_clamp (by omega) | decide) (by show _ * 4 ≤ _; omega) (Nat.le_of_ble_eq_true rfl) (Nat.le_of_ble_eq_true rfl) dX4_init_15 (fun ad_2 H had_2 hB => ?_)
  have e2_rg : ad_1 rg = ad_2 rg := had_2 rg (List.mem_append_left _ m_rg)
  have e2_st : ad_1 st = ad_2 st := had_2 st (List.mem_append_right _ List.mem_cons_self)
  replace hl : lv_has ls 1 [(0, .ref (ad_2 rg))] := by rw [← e2_rg]; exact hl
  have fa2_rg : (va_up (va_up g st (.inl (ty 0, 12, .inl (fun _ => 0)))) rg (.inr (4, [.ref (ad_1 st), .null]))) rg = .inr (4, [.ref (ad_2 st), .null]) := by rw [← e2_st]; exact (va_up_self _ _ _)
  replace hB : m_B D ty A s ((L ++ [st]) ++ [en]) ad_2 (va_up (va_up (va_up g st (.inl (ty 0, 12, .inl (fun _ => 0)))) rg (.inr (4, [.ref (ad_1 st), .null]))) en (.inl (ty 0, 12, .inl (fun _ => 0)))) H locs := hB
  refine W.eq (g2 := F0 m 17 ls [.ref (ad_2 en), .ref (ad_2 rg)]) (by rw [e2_rg]) ?_
  refine m_putF (C := RX4) (T := TX4) (N := 2) (ci := 4) (v := .ref (ad_2 en)) (ft := .array .int) hx hb hts in_X4_init_X4 tyX4 tyX4_ok nmX4 hown hB (List.mem_append_left _ (List.mem_append_left _ m_rg)) ((va_up_ne _ _ ne2).trans fa2_rg) rfl 1 (by decide) (hts (.fieldLink RX4 15 "PaperRoom$Rights" "ends" "[I") (by decide +kernel)) (fun _ h9 => h9) rfl hin rfl (by decide +kernel) rfl rfl (Nat.le_of_ble_eq_true rfl) dX4_init_17 (fun H locs hB => ?_)
  replace hB : m_B D ty A s ((L ++ [st]) ++ [en]) ad_2 (va_up (va_up (va_up (va_up g st (.inl (ty 0, 12, .inl (fun _ => 0)))) rg (.inr (4, [.ref (ad_1 st), .null]))) en (.inl (ty 0, 12, .inl (fun _ => 0)))) rg (.inr (4, [.ref (ad_2 st), .ref (ad_2 en)]))) H locs := hB
  exact m_vret hx hb hrt hlocks hB (Nat.le_refl _) (Nat.le_refl _) dX4_init_20 ⟨rfl, rfl, (fun x hx => ((had_1 x hx).trans (had_2 x (List.mem_append_left _ hx)))), (fun x hx hn_rg => ((va_up_ne _ _ hn_rg).trans ((va_up_ne _ _ (fun e9 => n_en (by rw [← e9]; exact hx))).trans ((va_up_ne _ _ hn_rg).trans ((va_up_ne _ _ (fun e9 => n_st (by rw [← e9]; exact hx))).trans rfl))))), (va_up_self _ _ _), ((va_up_ne _ _ (Ne.symm ne1)).trans ((va_up_ne _ _ ne3).trans ((va_up_ne _ _ (Ne.symm ne1)).trans (va_up_self _ _ _)))), ((va_up_ne _ _ (Ne.symm ne2)).trans (va_up_self _ _ _))⟩
theorem oi_X6_init : Cond.code objectInit ⟨#[0xb1]⟩ 1 none ∈ wsX6_init := List.mem_cons_of_mem _ (by first | exact List.mem_of_getElem? (i := 2) rfl | exact List.mem_append_left _ (List.mem_of_getElem? (i := 2) rfl) | exact List.mem_append_left _ (List.mem_append_left _ (List.mem_of_getElem? (i := 2) rfl)) | exact List.mem_append_left _ (List.mem_append_left _ (List.mem_append_left _ (List.mem_of_getElem? (i := 2) rfl))) | exact List.mem_append_left _ (List.mem_append_left _ (List.mem_append_left _ (List.mem_append_left _ (List.mem_of_getElem? (i := 2) rfl)))))
set_option maxRecDepth 20000 in
theorem in_X6_init_X6 : ∀ w ∈ wsX60, w ∈ wsX6_init := by decide +kernel
set_option maxHeartbeats 1000000 in
set_option maxRecDepth 100000 in
theorem c_Seen_init (l : Launch) (D : va_G) (ty : Nat → ClassId) (L : List Nat) (ad : Nat → Nat) (g : Nat → va_E) (sn c0 c1 c2 c3 c4 : Nat) (m_sn : sn ∈ L) (h_sn : g sn = .inr (6, [.null, .null, .null, .null, .null, .int 0, .int 0])) (n_c0 : c0 ∉ L) (n_c1 : c1 ∉ L) (n_c2 : c2 ∉ L) (n_c3 : c3 ∉ L) (n_c4 : c4 ∉ L) (ne_sn_c0 : sn ≠ c0) (ne_sn_c1 : sn ≠ c1) (ne_sn_c2 : sn ≠ c2) (ne_sn_c3 : sn ≠ c3) (ne_sn_c4 : sn ≠ c4) (ne_c0_c1 : c0 ≠ c1) (ne_c0_c2 : c0 ≠ c2) (ne_c0_c3 : c0 ≠ c3) (ne_c0_c4 : c0 ≠ c4) (ne_c1_c2 : c1 ≠ c2) (ne_c1_c3 : c1 ≠ c3) (ne_c1_c4 : c1 ≠ c4) (ne_c2_c3 : c2 ≠ c3) (ne_c2_c4 : c2 ≠ c4) (ne_c3_c4 : c3 ≠ c4) : m_C l yX6_init wsX6_init 1 20 5 1000 D ty [.ref (ad sn)] L ad g (fun v1 L1 ad1 g1 => v1 = none ∧ L1 = (((((L ++ [c0]) ++ [c1]) ++ [c2]) ++ [c3]) ++ [c4]) ∧ (∀ x ∈ L, ad x = ad1 x) ∧ (∀ x ∈ L, x ≠ sn → g1 x = g x) ∧ g1 sn = .inr (6, [.ref (ad1 c0), .ref (ad1 c1), .ref (ad1 c2), .ref (ad1 c3), .ref (ad1 c4), .int 0, .int 0]) ∧ g1 c0 = .inl (ty 0, 200, .inl (fun _ => 0)) ∧ g1 c1 = .inl (ty 0, 200, .inl (fun _ => 0)) ∧ g1 c2 = .inl (ty 0, 200, .inl (fun _ => 0)) ∧ g1 c3 = .inl (ty 0, 200, .inl (fun _ => 0)) ∧ g1 c4 = .inl (ty 1, 200, .inr (.inl (fun _ => 0)))) := by
  intro sz
  refine Met.ofW (cc := cX6_init) (maxL := 1) (ret := none) (by decide) rfl ?_
  intro p e s m args below meth c s₁ B hml hv
  have hx := B.exec
  have hb := B.bytes
  have hrt := B.returns
  have hts := atoms_spec (ws := wsX6_init) B.pre
  have hown : s.vm.findClass RX6 = some m.cls := findClass_of_methodNamed B.named
  have hlocks := B.notSynchronized
  have hin : meth.name = "<init>" := (name_of_methodNamed B.named B.method).1
  obtain ⟨rfl, hB⟩ := m_start hv
  generalize va_A (m_w L ad g) sz = A at hB ⊢
  generalize s.heap = H at hB ⊢
  generalize ([] : List Loc) = locs at hB ⊢
  have hl := lv_entry ([.ref (ad sn)]) (n := 1) (Nat.le_of_ble_eq_true rfl)
  rw [lg_entry_eq]
  generalize (lg_sl ([.ref (ad sn)]) ++ List.replicate (1 - (lg_sl ([.ref (ad sn)])).length) Slot.unset).toArray = ls at hl ⊢
  have hl : lv_has ls 1 [(0, .ref (ad sn))] := hl
  refine lv_aload_n hx hb dX6_init_0 rfl (lv_at hl 0 rfl) ?_
  refine W.objInit hx hb hown (hts (.methodLink RX6 3 objectInit) (by decide +kernel)) (hts (.instanceMethod objectInit) (by decide +kernel)) (hts _ oi_X6_init) rfl (by rw [hml]; exact hl.1) rfl dX6_init_1 (Nat.le_of_ble_eq_true rfl) (Nat.le_of_ble_eq_true rfl) ?_
  refine W.eq (g2 := F0 m 4 ls []) rfl ?_
  refine lv_aload_n hx hb dX6_init_4 rfl (lv_at hl 0 rfl) ?_
  refine lv_sipush (v := 200) hx hb dX6_init_5 (by decide) ?_
  refine n_newa (atype := .int) (ft := .int) (a0 := (200, .inl (fun _ => 0))) hx hb (hts (.arrayClass .int) (by decide +kernel)) rfl hB 0 rfl c0 n_c0 (fun _ => rfl) (by rw [i_lt, i_0]; first | omega | decide) (by first | exact nI_clamp (by omega) | decide) (by show _ * 4 ≤ _; omega) (Nat.le_of_ble_eq_true rfl) (Nat.le_of_ble_eq_true rfl) dX6_init_8 (fun ad_1 H had_1 hB => ?_)
  have e1_sn : ad sn = ad_1 sn := had_1 sn m_sn
  replace hl : lv_has ls 1 [(0, .ref (ad_1 sn))] := by rw [← e1_sn]; exact hl
  replace hB : m_B D ty A s (L ++ [c0]) ad_1 (va_up g c0 (.inl (ty 0, 200, .inl (fun _ => 0)))) H locs := hB
  refine W.eq (g2 := F0 m 10 ls [.ref (ad_1 c0), .ref (ad_1 sn)]) (by rw [e1_sn]) ?_
  refine m_putF (C := RX6) (T := TX6) (N := 7) (ci := 6) (v := .ref (ad_1 c0)) (ft := .array .int) hx hb hts in_X6_init_X6 tyX6 tyX6_ok nmX6 hown hB (List.mem_append_left _ m_sn) ((va_up_ne _ _ ne_sn_c0).trans h_sn) rfl 0 (by decide) (hts (.fieldLink RX6 9 "PaperRoom$Seen" "ticks" "[I") (by decide +kernel)) (fun _ h9 => h9) rfl hin rfl (by decide +kernel) rfl rfl (Nat.le_of_ble_eq_true rfl) dX6_init_10 (fun H locs hB => ?_)
  replace hB : m_B D ty A s (L ++ [c0]) ad_1 (va_up (va_up g c0 (.inl (ty 0, 200, .inl (fun _ => 0)))) sn (.inr (6, [.ref (ad_1 c0), .null, .null, .null, .null, .int 0, .int 0]))) H locs := hB
  refine lv_aload_n hx hb dX6_init_13 rfl (lv_at hl 0 rfl) ?_
  refine lv_sipush (v := 200) hx hb dX6_init_14 (by decide) ?_
  refine n_newa (atype := .int) (ft := .int) (a0 := (200, .inl (fun _ => 0))) hx hb (hts (.arrayClass .int) (by decide +kernel)) rfl hB 0 rfl c1 (fun h9 => (List.mem_append.mp h9).elim n_c1 (fun h8 => ne_c0_c1 (List.mem_singleton.mp h8).symm)) (fun _ => rfl) (by rw [i_lt, i_0]; first | omega | decide) (by first | exact nI_clamp (by omega) | decide) (by show _ * 4 ≤ _; omega) (Nat.le_of_ble_eq_true rfl) (Nat.le_of_ble_eq_true rfl) dX6_init_17 (fun ad_2 H had_2 hB => ?_)
  have e2_c0 : ad_1 c0 = ad_2 c0 := had_2 c0 (List.mem_append_right _ List.mem_cons_self)
  have e2_sn : ad_1 sn = ad_2 sn := had_2 sn (List.mem_append_left _ m_sn)
  replace hl : lv_has ls 1 [(0, .ref (ad_2 sn))] := by rw [← e2_sn]; exact hl
  have fa2_sn : (va_up (va_up g c0 (.inl (ty 0, 200, .inl (fun _ => 0)))) sn (.inr (6, [.ref (ad_1 c0), .null, .null, .null, .null, .int 0, .int 0]))) sn = .inr (6, [.ref (ad_2 c0), .null, .null, .null, .null, .int 0, .int 0]) := by rw [← e2_c0]; exact (va_up_self _ _ _)
  replace hB : m_B D ty A s ((L ++ [c0]) ++ [c1]) ad_2 (va_up (va_up (va_up g c0 (.inl (ty 0, 200, .inl (fun _ => 0)))) sn (.inr (6, [.ref (ad_1 c0), .null, .null, .null, .null, .int 0, .int 0]))) c1 (.inl (ty 0, 200, .inl (fun _ => 0)))) H locs := hB
  refine W.eq (g2 := F0 m 19 ls [.ref (ad_2 c1), .ref (ad_2 sn)]) (by rw [e2_sn]) ?_
  refine m_putF (C := RX6) (T := TX6) (N := 7) (ci := 6) (v := .ref (ad_2 c1)) (ft := .array .int) hx hb hts in_X6_init_X6 tyX6 tyX6_ok nmX6 hown hB (List.mem_append_left _ (List.mem_append_left _ m_sn)) ((va_up_ne _ _ ne_sn_c1).trans fa2_sn) rfl 1 (by decide) (hts (.fieldLink RX6 15 "PaperRoom$Seen" "bidders" "[I") (by decide +kernel)) (fun _ h9 => h9) rfl hin rfl (by decide +kernel) rfl rfl (Nat.le_of_ble_eq_true rfl) dX6_init_19 (fun H locs hB => ?_)
  replace hB : m_B D ty A s ((L ++ [c0]) ++ [c1]) ad_2 (va_up (va_up (va_up (va_up g c0 (.inl (ty 0, 200, .inl (fun _ => 0)))) sn (.inr (6, [.ref (ad_1 c0), .null, .null, .null, .null, .int 0, .int 0]))) c1 (.inl (ty 0, 200, .inl (fun _ => 0)))) sn (.inr (6, [.ref (ad_2 c0), .ref (ad_2 c1), .null, .null, .null, .int 0, .int 0]))) H locs := hB
  refine lv_aload_n hx hb dX6_init_22 rfl (lv_at hl 0 rfl) ?_
  refine lv_sipush (v := 200) hx hb dX6_init_23 (by decide) ?_
  refine n_newa (atype := .int) (ft := .int) (a0 := (200, .inl (fun _ => 0))) hx hb (hts (.arrayClass .int) (by decide +kernel)) rfl hB 0 rfl c2 (fun h9 => (List.mem_append.mp h9).elim (fun h9 => (List.mem_append.mp h9).elim n_c2 (fun h8 => ne_c0_c2 (List.mem_singleton.mp h8).symm)) (fun h8 => ne_c1_c2 (List.mem_singleton.mp h8).symm)) (fun _ => rfl) (by rw [i_lt, i_0]; first | omega | decide) (by first | exact nI_clamp (by omega) | decide) (by show _ * 4 ≤ _; omega) (Nat.le_of_ble_eq_true rfl) (Nat.le_of_ble_eq_true rfl) dX6_init_26 (fun ad_3 H had_3 hB => ?_)
  have e3_c0 : ad_2 c0 = ad_3 c0 := had_3 c0 (List.mem_append_left _ (List.mem_append_right _ List.mem_cons_self))
  have e3_c1 : ad_2 c1 = ad_3 c1 := had_3 c1 (List.mem_append_right _ List.mem_cons_self)
  have e3_sn : ad_2 sn = ad_3 sn := had_3 sn (List.mem_append_left _ (List.mem_append_left _ m_sn))
  replace hl : lv_has ls 1 [(0, .ref (ad_3 sn))] := by rw [← e3_sn]; exact hl
  have fa3_sn : (va_up (va_up (va_up (va_up g c0 (.inl (ty 0, 200, .inl (fun _ => 0)))) sn (.inr (6, [.ref (ad_1 c0), .null, .null, .null, .null, .int 0, .int 0]))) c1 (.inl (ty 0, 200, .inl (fun _ => 0)))) sn (.inr (6, [.ref (ad_2 c0), .ref (ad_2 c1), .null, .null, .null, .int 0, .int 0]))) sn = .inr (6, [.ref (ad_3 c0), .ref (ad_3 c1), .null, .null, .null, .int 0, .int 0]) := by rw [← e3_c0, ← e3_c1]; exact (va_up_self _ _ _)
  replace hB : m_B D ty A s (((L ++ [c0]) ++ [c1]) ++ [c2]) ad_3 (va_up (va_up (va_up (va_up (va_up g c0 (.inl (ty 0, 200, .inl (fun _ => 0)))) sn (.inr (6, [.ref (ad_1 c0), .null, .null, .null, .null, .int 0, .int 0]))) c1 (.inl (ty 0, 200, .inl (fun _ => 0)))) sn (.inr (6, [.ref (ad_2 c0), .ref (ad_2 c1), .null, .null, .null, .int 0, .int 0]))) c2 (.inl (ty 0, 200, .inl (fun _ => 0)))) H locs := hB
  refine W.eq (g2 := F0 m 28 ls [.ref (ad_3 c2), .ref (ad_3 sn)]) (by rw [e3_sn]) ?_
  refine m_putF (C := RX6) (T := TX6) (N := 7) (ci := 6) (v := .ref (ad_3 c2)) (ft := .array .int) hx hb hts in_X6_init_X6 tyX6 tyX6_ok nmX6 hown hB (List.mem_append_left _ (List.mem_append_left _ (List.mem_append_left _ m_sn))) ((va_up_ne _ _ ne_sn_c2).trans fa3_sn) rfl 2 (by decide) (hts (.fieldLink RX6 18 "PaperRoom$Seen" "papers" "[I") (by decide +kernel)) (fun _ h9 => h9) rfl hin rfl (by decide +kernel) rfl rfl (Nat.le_of_ble_eq_true rfl) dX6_init_28 (fun H locs hB => ?_)
  replace hB : m_B D ty A s (((L ++ [c0]) ++ [c1]) ++ [c2]) ad_3 (va_up (va_up (va_up (va_up (va_up (va_up g c0 (.inl (ty 0, 200, .inl (fun _ => 0)))) sn (.inr (6, [.ref (ad_1 c0), .null, .null, .null, .null, .int 0, .int 0]))) c1 (.inl (ty 0, 200, .inl (fun _ => 0)))) sn (.inr (6, [.ref (ad_2 c0), .ref (ad_2 c1), .null, .null, .null, .int 0, .int 0]))) c2 (.inl (ty 0, 200, .inl (fun _ => 0)))) sn (.inr (6, [.ref (ad_3 c0), .ref (ad_3 c1), .ref (ad_3 c2), .null, .null, .int 0, .int 0]))) H locs := hB
  refine lv_aload_n hx hb dX6_init_31 rfl (lv_at hl 0 rfl) ?_
  refine lv_sipush (v := 200) hx hb dX6_init_32 (by decide) ?_
  refine n_newa (atype := .int) (ft := .int) (a0 := (200, .inl (fun _ => 0))) hx hb (hts (.arrayClass .int) (by decide +kernel)) rfl hB 0 rfl c3 (fun h9 => (List.mem_append.mp h9).elim (fun h9 => (List.mem_append.mp h9).elim (fun h9 => (List.mem_append.mp h9).elim n_c3 (fun h8 => ne_c0_c3 (List.mem_singleton.mp h8).symm)) (fun h8 => ne_c1_c3 (List.mem_singleton.mp h8).symm)) (fun h8 => ne_c2_c3 (List.mem_singleton.mp h8).symm)) (fun _ => rfl) (by rw [i_lt, i_0]; first | omega | decide) (by first | exact nI_clamp (by omega) | decide) (by show _ * 4 ≤ _; omega) (Nat.le_of_ble_eq_true rfl) (Nat.le_of_ble_eq_true rfl) dX6_init_35 (fun ad_4 H had_4 hB => ?_)
  have e4_c0 : ad_3 c0 = ad_4 c0 := had_4 c0 (List.mem_append_left _ (List.mem_append_left _ (List.mem_append_right _ List.mem_cons_self)))
  have e4_c1 : ad_3 c1 = ad_4 c1 := had_4 c1 (List.mem_append_left _ (List.mem_append_right _ List.mem_cons_self))
  have e4_c2 : ad_3 c2 = ad_4 c2 := had_4 c2 (List.mem_append_right _ List.mem_cons_self)
  have e4_sn : ad_3 sn = ad_4 sn := had_4 sn (List.mem_append_left _ (List.mem_append_left _ (List.mem_append_left _ m_sn)))
  replace hl : lv_has ls 1 [(0, .ref (ad_4 sn))] := by rw [← e4_sn]; exact hl
  have fa4_sn : (va_up (va_up (va_up (va_up (va_up (va_up g c0 (.inl (ty 0, 200, .inl (fun _ => 0)))) sn (.inr (6, [.ref (ad_1 c0), .null, .null, .null, .null, .int 0, .int 0]))) c1 (.inl (ty 0, 200, .inl (fun _ => 0)))) sn (.inr (6, [.ref (ad_2 c0), .ref (ad_2 c1), .null, .null, .null, .int 0, .int 0]))) c2 (.inl (ty 0, 200, .inl (fun _ => 0)))) sn (.inr (6, [.ref (ad_3 c0), .ref (ad_3 c1), .ref (ad_3 c2), .null, .null, .int 0, .int 0]))) sn = .inr (6, [.ref (ad_4 c0), .ref (ad_4 c1), .ref (ad_4 c2), .null, .null, .int 0, .int 0]) := by rw [← e4_c0, ← e4_c1, ← e4_c2]; exact (va_up_self _ _ _)
  replace hB : m_B D ty A s ((((L ++ [c0]) ++ [c1]) ++ [c2]) ++ [c3]) ad_4 (va_up (va_up (va_up (va_up (va_up (va_up (va_up g c0 (.inl (ty 0, 200, .inl (fun _ => 0)))) sn (.inr (6, [.ref (ad_1 c0), .null, .null, .null, .null, .int 0, .int 0]))) c1 (.inl (ty 0, 200, .inl (fun _ => 0)))) sn (.inr (6, [.ref (ad_2 c0), .ref (ad_2 c1), .null, .null, .null, .int 0, .int 0]))) c2 (.inl (ty 0, 200, .inl (fun _ => 0)))) sn (.inr (6, [.ref (ad_3 c0), .ref (ad_3 c1), .ref (ad_3 c2), .null, .null, .int 0, .int 0]))) c3 (.inl (ty 0, 200, .inl (fun _ => 0)))) H locs := hB
  refine W.eq (g2 := F0 m 37 ls [.ref (ad_4 c3), .ref (ad_4 sn)]) (by rw [e4_sn]) ?_
  refine m_putF (C := RX6) (T := TX6) (N := 7) (ci := 6) (v := .ref (ad_4 c3)) (ft := .array .int) hx hb hts in_X6_init_X6 tyX6 tyX6_ok nmX6 hown hB (List.mem_append_left _ (List.mem_append_left _ (List.mem_append_left _ (List.mem_append_left _ m_sn)))) ((va_up_ne _ _ ne_sn_c3).trans fa4_sn) rfl 3 (by decide) (hts (.fieldLink RX6 21 "PaperRoom$Seen" "versions" "[I") (by decide +kernel)) (fun _ h9 => h9) rfl hin rfl (by decide +kernel) rfl rfl (Nat.le_of_ble_eq_true rfl) dX6_init_37 (fun H locs hB => ?_)
  replace hB : m_B D ty A s ((((L ++ [c0]) ++ [c1]) ++ [c2]) ++ [c3]) ad_4 (va_up (va_up (va_up (va_up (va_up (va_up (va_up (va_up g c0 (.inl (ty 0, 200, .inl (fun _ => 0)))) sn (.inr (6, [.ref (ad_1 c0), .null, .null, .null, .null, .int 0, .int 0]))) c1 (.inl (ty 0, 200, .inl (fun _ => 0)))) sn (.inr (6, [.ref (ad_2 c0), .ref (ad_2 c1), .null, .null, .null, .int 0, .int 0]))) c2 (.inl (ty 0, 200, .inl (fun _ => 0)))) sn (.inr (6, [.ref (ad_3 c0), .ref (ad_3 c1), .ref (ad_3 c2), .null, .null, .int 0, .int 0]))) c3 (.inl (ty 0, 200, .inl (fun _ => 0)))) sn (.inr (6, [.ref (ad_4 c0), .ref (ad_4 c1), .ref (ad_4 c2), .ref (ad_4 c3), .null, .int 0, .int 0]))) H locs := hB
  refine lv_aload_n hx hb dX6_init_40 rfl (lv_at hl 0 rfl) ?_
  refine lv_sipush (v := 200) hx hb dX6_init_41 (by decide) ?_
  refine n_newa (atype := .long) (ft := .long) (a0 := (200, .inr (.inl (fun _ => 0)))) hx hb (hts (.arrayClass .long) (by decide +kernel)) rfl hB 1 rfl c4 (fun h9 => (List.mem_append.mp h9).elim (fun h9 => (List.mem_append.mp h9).elim (fun h9 => (List.mem_append.mp h9).elim (fun h9 => (List.mem_append.mp h9).elim n_c4 (fun h8 => ne_c0_c4 (List.mem_singleton.mp h8).symm)) (fun h8 => ne_c1_c4 (List.mem_singleton.mp h8).symm)) (fun h8 => ne_c2_c4 (List.mem_singleton.mp h8).symm)) (fun h8 => ne_c3_c4 (List.mem_singleton.mp h8).symm)) (fun _ => rfl) (by rw [i_lt, i_0]; first | omega | decide) (by first | exact nI_clamp (by omega) | decide) (by show _ * 8 ≤ _; omega) (Nat.le_of_ble_eq_true rfl) (Nat.le_of_ble_eq_true rfl) dX6_init_44 (fun ad_5 H had_5 hB => ?_)
  have e5_c0 : ad_4 c0 = ad_5 c0 := had_5 c0 (List.mem_append_left _ (List.mem_append_left _ (List.mem_append_left _ (List.mem_append_right _ List.mem_cons_self))))
  have e5_c1 : ad_4 c1 = ad_5 c1 := had_5 c1 (List.mem_append_left _ (List.mem_append_left _ (List.mem_append_right _ List.mem_cons_self)))
  have e5_c2 : ad_4 c2 = ad_5 c2 := had_5 c2 (List.mem_append_left _ (List.mem_append_right _ List.mem_cons_self))
  have e5_c3 : ad_4 c3 = ad_5 c3 := had_5 c3 (List.mem_append_right _ List.mem_cons_self)
  have e5_sn : ad_4 sn = ad_5 sn := had_5 sn (List.mem_append_left _ (List.mem_append_left _ (List.mem_append_left _ (List.mem_append_left _ m_sn))))
  replace hl : lv_has ls 1 [(0, .ref (ad_5 sn))] := by rw [← e5_sn]; exact hl
  have fa5_sn : (va_up (va_up (va_up (va_up (va_up (va_up (va_up (va_up g c0 (.inl (ty 0, 200, .inl (fun _ => 0)))) sn (.inr (6, [.ref (ad_1 c0), .null, .null, .null, .null, .int 0, .int 0]))) c1 (.inl (ty 0, 200, .inl (fun _ => 0)))) sn (.inr (6, [.ref (ad_2 c0), .ref (ad_2 c1), .null, .null, .null, .int 0, .int 0]))) c2 (.inl (ty 0, 200, .inl (fun _ => 0)))) sn (.inr (6, [.ref (ad_3 c0), .ref (ad_3 c1), .ref (ad_3 c2), .null, .null, .int 0, .int 0]))) c3 (.inl (ty 0, 200, .inl (fun _ => 0)))) sn (.inr (6, [.ref (ad_4 c0), .ref (ad_4 c1), .ref (ad_4 c2), .ref (ad_4 c3), .null, .int 0, .int 0]))) sn = .inr (6, [.ref (ad_5 c0), .ref (ad_5 c1), .ref (ad_5 c2), .ref (ad_5 c3), .null, .int 0, .int 0]) := by rw [← e5_c0, ← e5_c1, ← e5_c2, ← e5_c3]; exact (va_up_self _ _ _)
  replace hB : m_B D ty A s (((((L ++ [c0]) ++ [c1]) ++ [c2]) ++ [c3]) ++ [c4]) ad_5 (va_up (va_up (va_up (va_up (va_up (va_up (va_up (va_up (va_up g c0 (.inl (ty 0, 200, .inl (fun _ => 0)))) sn (.inr (6, [.ref (ad_1 c0), .null, .null, .null, .null, .int 0, .int 0]))) c1 (.inl (ty 0, 200, .inl (fun _ => 0)))) sn (.inr (6, [.ref (ad_2 c0), .ref (ad_2 c1), .null, .null, .null, .int 0, .int 0]))) c2 (.inl (ty 0, 200, .inl (fun _ => 0)))) sn (.inr (6, [.ref (ad_3 c0), .ref (ad_3 c1), .ref (ad_3 c2), .null, .null, .int 0, .int 0]))) c3 (.inl (ty 0, 200, .inl (fun _ => 0)))) sn (.inr (6, [.ref (ad_4 c0), .ref (ad_4 c1), .ref (ad_4 c2), .ref (ad_4 c3), .null, .int 0, .int 0]))) c4 (.inl (ty 1, 200, .inr (.inl (fun _ => 0))))) H locs := hB
  refine W.eq (g2 := F0 m 46 ls [.ref (ad_5 c4), .ref (ad_5 sn)]) (by rw [e5_sn]) ?_
  refine m_putF (C := RX6) (T := TX6) (N := 7) (ci := 6) (v := .ref (ad_5 c4)) (ft := .array .long) hx hb hts in_X6_init_X6 tyX6 tyX6_ok nmX6 hown hB (List.mem_append_left _ (List.mem_append_left _ (List.mem_append_left _ (List.mem_append_left _ (List.mem_append_left _ m_sn))))) ((va_up_ne _ _ ne_sn_c4).trans fa5_sn) rfl 4 (by decide) (hts (.fieldLink RX6 24 "PaperRoom$Seen" "links" "[J") (by decide +kernel)) (fun _ h9 => h9) rfl hin rfl (by decide +kernel) rfl rfl (Nat.le_of_ble_eq_true rfl) dX6_init_46 (fun H locs hB => ?_)
  replace hB : m_B D ty A s (((((L ++ [c0]) ++ [c1]) ++ [c2]) ++ [c3]) ++ [c4]) ad_5 (va_up (va_up (va_up (va_up (va_up (va_up (va_up (va_up (va_up (va_up g c0 (.inl (ty 0, 200, .inl (fun _ => 0)))) sn (.inr (6, [.ref (ad_1 c0), .null, .null, .null, .null, .int 0, .int 0]))) c1 (.inl (ty 0, 200, .inl (fun _ => 0)))) sn (.inr (6, [.ref (ad_2 c0), .ref (ad_2 c1), .null, .null, .null, .int 0, .int 0]))) c2 (.inl (ty 0, 200, .inl (fun _ => 0)))) sn (.inr (6, [.ref (ad_3 c0), .ref (ad_3 c1), .ref (ad_3 c2), .null, .null, .int 0, .int 0]))) c3 (.inl (ty 0, 200, .inl (fun _ => 0)))) sn (.inr (6, [.ref (ad_4 c0), .ref (ad_4 c1), .ref (ad_4 c2), .ref (ad_4 c3), .null, .int 0, .int 0]))) c4 (.inl (ty 1, 200, .inr (.inl (fun _ => 0))))) sn (.inr (6, [.ref (ad_5 c0), .ref (ad_5 c1), .ref (ad_5 c2), .ref (ad_5 c3), .ref (ad_5 c4), .int 0, .int 0]))) H locs := hB
  exact m_vret hx hb hrt hlocks hB (Nat.le_refl _) (Nat.le_refl _) dX6_init_49 ⟨rfl, rfl, (fun x hx => ((((((((had_1 x hx).trans (had_2 x (List.mem_append_left _ hx)))).trans (had_3 x (List.mem_append_left _ (List.mem_append_left _ hx))))).trans (had_4 x (List.mem_append_left _ (List.mem_append_left _ (List.mem_append_left _ hx)))))).trans (had_5 x (List.mem_append_left _ (List.mem_append_left _ (List.mem_append_left _ (List.mem_append_left _ hx))))))), (fun x hx hn_sn => ((va_up_ne _ _ hn_sn).trans ((va_up_ne _ _ (fun e9 => n_c4 (by rw [← e9]; exact hx))).trans ((va_up_ne _ _ hn_sn).trans ((va_up_ne _ _ (fun e9 => n_c3 (by rw [← e9]; exact hx))).trans ((va_up_ne _ _ hn_sn).trans ((va_up_ne _ _ (fun e9 => n_c2 (by rw [← e9]; exact hx))).trans ((va_up_ne _ _ hn_sn).trans ((va_up_ne _ _ (fun e9 => n_c1 (by rw [← e9]; exact hx))).trans ((va_up_ne _ _ hn_sn).trans ((va_up_ne _ _ (fun e9 => n_c0 (by rw [← e9]; exact hx))).trans rfl))))))))))), (va_up_self _ _ _), ((va_up_ne _ _ (Ne.symm ne_sn_c0)).trans ((va_up_ne _ _ ne_c0_c4).trans ((va_up_ne _ _ (Ne.symm ne_sn_c0)).trans ((va_up_ne _ _ ne_c0_c3).trans ((va_up_ne _ _ (Ne.symm ne_sn_c0)).trans ((va_up_ne _ _ ne_c0_c2).trans ((va_up_ne _ _ (Ne.symm ne_sn_c0)).trans ((va_up_ne _ _ ne_c0_c1).trans ((va_up_ne _ _ (Ne.symm ne_sn_c0)).trans (va_up_self _ _ _)))))))))), ((va_up_ne _ _ (Ne.symm ne_sn_c1)).trans ((va_up_ne _ _ ne_c1_c4).trans ((va_up_ne _ _ (Ne.symm ne_sn_c1)).trans ((va_up_ne _ _ ne_c1_c3).trans ((va_up_ne _ _ (Ne.symm ne_sn_c1)).trans ((va_up_ne _ _ ne_c1_c2).trans ((va_up_ne _ _ (Ne.symm ne_sn_c1)).trans (va_up_self _ _ _)))))))), ((va_up_ne _ _ (Ne.symm ne_sn_c2)).trans ((va_up_ne _ _ ne_c2_c4).trans ((va_up_ne _ _ (Ne.symm ne_sn_c2)).trans ((va_up_ne _ _ ne_c2_c3).trans ((va_up_ne _ _ (Ne.symm ne_sn_c2)).trans (va_up_self _ _ _)))))), ((va_up_ne _ _ (Ne.symm ne_sn_c3)).trans ((va_up_ne _ _ ne_c3_c4).trans ((va_up_ne _ _ (Ne.symm ne_sn_c3)).trans (va_up_self _ _ _)))), ((va_up_ne _ _ (Ne.symm ne_sn_c4)).trans (va_up_self _ _ _))⟩
theorem oi_X7_init : Cond.code objectInit ⟨#[0xb1]⟩ 1 none ∈ wsX7_init := List.mem_cons_of_mem _ (by first | exact List.mem_of_getElem? (i := 2) rfl | exact List.mem_append_left _ (List.mem_of_getElem? (i := 2) rfl) | exact List.mem_append_left _ (List.mem_append_left _ (List.mem_of_getElem? (i := 2) rfl)) | exact List.mem_append_left _ (List.mem_append_left _ (List.mem_append_left _ (List.mem_of_getElem? (i := 2) rfl))) | exact List.mem_append_left _ (List.mem_append_left _ (List.mem_append_left _ (List.mem_append_left _ (List.mem_of_getElem? (i := 2) rfl)))))
set_option maxRecDepth 20000 in
theorem in_X7_init_X5 : ∀ w ∈ wsX50, w ∈ wsX7_init := by decide +kernel
set_option maxRecDepth 20000 in
theorem in_X7_init_X7 : ∀ w ∈ wsX70, w ∈ wsX7_init := by decide +kernel
set_option maxRecDepth 20000 in
theorem mx_X7_init : Cond.code Lib.Math.max.name Lib.Math.max.code 2 (some .int) ∈ wsX7_init := List.mem_of_getElem? (i := 11) rfl
set_option maxHeartbeats 1000000 in
set_option maxRecDepth 100000 in
theorem c_Text_init (l : Launch) (D : va_G) (ty : Nat → ClassId) (L : List Nat) (ad : Nat → Nat) (g : Nat → va_E) (t ro a bl r2 a2 n2 cap2 : Nat) (bs2 : Nat → Int32) (m_t : t ∈ L) (h_t : g t = .inr (7, [.null, .null])) (m_r2 : r2 ∈ L) (m_a2 : a2 ∈ L) (h_r2 : g r2 = .inr (5, [.ref (ad a2), .int (nI n2)])) (h_a2 : g a2 = .inl (ty 2, cap2, .inl bs2)) (n_ro : ro ∉ L) (n_a : a ∉ L) (n_bl : bl ∉ L) (hn2 : n2 ≤ cap2) (hc2 : cap2 ≤ 40) (h8 : ∀ k, k < n2 → (bs2 k).toInt8.toInt32 = bs2 k) (ne_t_r2 : t ≠ r2) (ne_t_a2 : t ≠ a2) (ne_t_ro : t ≠ ro) (ne_t_a : t ≠ a) (ne_t_bl : t ≠ bl) (ne_r2_a2 : r2 ≠ a2) (ne_r2_ro : r2 ≠ ro) (ne_r2_a : r2 ≠ a) (ne_r2_bl : r2 ≠ bl) (ne_a2_ro : a2 ≠ ro) (ne_a2_a : a2 ≠ a) (ne_a2_bl : a2 ≠ bl) (ne_ro_a : ro ≠ a) (ne_ro_bl : ro ≠ bl) (ne_a_bl : a ≠ bl) : m_C l yX7_init wsX7_init 2 42 3 122 D ty [.ref (ad t), .ref (ad r2)] L ad g (fun v1 L1 ad1 g1 => v1 = none ∧ L1 = (((L ++ [ro]) ++ [a]) ++ [bl]) ∧ (∀ x ∈ L, ad x = ad1 x) ∧ (∀ x ∈ L, x ≠ t → g1 x = g x) ∧ g1 t = .inr (7, [.ref (ad1 ro), .ref (ad1 bl)]) ∧ g1 ro = .inr (5, [.ref (ad1 a), .int (nI n2)]) ∧ g1 a = .inl (ty 2, n2, .inl (cpf bs2 n2)) ∧ g1 bl = .inl (ty 3, n2, .inl (fun _ => 0))) := by
  intro sz
  refine Met.ofW (cc := cX7_init) (maxL := 3) (ret := none) (by decide) rfl ?_
  intro p e s m args below meth c s₁ B hml hv
  have hx := B.exec
  have hb := B.bytes
  have hrt := B.returns
  have hts := atoms_spec (ws := wsX7_init) B.pre
  have hown : s.vm.findClass RX7 = some m.cls := findClass_of_methodNamed B.named
  have hlocks := B.notSynchronized
  have hin : meth.name = "<init>" := (name_of_methodNamed B.named B.method).1
  obtain ⟨rfl, hB⟩ := m_start hv
  generalize va_A (m_w L ad g) sz = A at hB ⊢
  generalize s.heap = H at hB ⊢
  generalize ([] : List Loc) = locs at hB ⊢
  have hl := lv_entry ([.ref (ad t), .ref (ad r2)]) (n := 3) (Nat.le_of_ble_eq_true rfl)
  rw [lg_entry_eq]
  generalize (lg_sl ([.ref (ad t), .ref (ad r2)]) ++ List.replicate (3 - (lg_sl ([.ref (ad t), .ref (ad r2)])).length) Slot.unset).toArray = ls at hl ⊢
  have hl : lv_has ls 3 [(0, .ref (ad t)), (1, .ref (ad r2))] := hl
  refine lv_aload_n hx hb dX7_init_0 rfl (lv_at hl 0 rfl) ?_
  refine W.objInit hx hb hown (hts (.methodLink RX7 3 objectInit) (by decide +kernel)) (hts (.instanceMethod objectInit) (by decide +kernel)) (hts _ oi_X7_init) rfl (by rw [hml]; exact hl.1) rfl dX7_init_1 (Nat.le_of_ble_eq_true rfl) (Nat.le_of_ble_eq_true rfl) ?_
  refine W.eq (g2 := F0 m 4 ls []) rfl ?_
  refine lv_aload_n hx hb dX7_init_4 rfl (lv_at hl 0 rfl) ?_
  refine n_new (C := RX5) (T := TX5) (N := 2) (ci := 5) (fs := [.null, .int 0]) hx hb hts in_X7_init_X5 tyX5 tyX5_ok hown (hts (.classLink RX7 9 RX5) (by decide +kernel)) (hts (.instantiable RX5 2) (by decide +kernel)) (hts (.initialized RX5) (by decide +kernel)) hB ro n_ro rfl (by decide +kernel) (Nat.le_of_ble_eq_true rfl) (by show _ + _ ≤ (122 : Nat); omega) dX7_init_5 (fun ad_1 H had_1 hB => ?_)
  have e1_a2 : ad a2 = ad_1 a2 := had_1 a2 m_a2
  have e1_r2 : ad r2 = ad_1 r2 := had_1 r2 m_r2
  have e1_t : ad t = ad_1 t := had_1 t m_t
  replace hl : lv_has ls 3 [(0, .ref (ad_1 t)), (1, .ref (ad_1 r2))] := by rw [← e1_r2, ← e1_t]; exact hl
  have fa1_r2 : g r2 = .inr (5, [.ref (ad_1 a2), .int (nI n2)]) := by rw [← e1_a2]; exact h_r2
  replace hB : m_B D ty A s (L ++ [ro]) ad_1 (va_up g ro (.inr (5, [.null, .int 0]))) H locs := hB
  refine W.eq (g2 := F0 m 8 ls [.ref (ad_1 ro), .ref (ad_1 t)]) (by rw [e1_t]) ?_
  refine lv_dup hx hb dX7_init_8 rfl ?_
  refine lv_aload_n hx hb dX7_init_9 rfl (lv_at hl 1 rfl) ?_
  refine m_callVE (ci := 5) (As := []) (rest := [.ref (ad_1 ro), .ref (ad_1 ro), .ref (ad_1 t)]) (c_Row_length l D ty (L ++ [ro]) ad_1 _ r2 a2 n2 (List.mem_append_left _ m_r2) ((va_up_ne _ _ ne_r2_ro).trans fa1_r2)) ⟨hx, hb, hml, hown, hts⟩ (cwV 0 hts gX7_init_X5_length rfl rfl rfl (by decide +kernel) ⟨Nat.le_of_ble_eq_true rfl, Nat.le_of_ble_eq_true rfl⟩) hB (List.mem_append_left _ m_r2) ((va_up_ne _ _ ne_r2_ro).trans fa1_r2) rfl rfl hl.1 rfl (Nat.le_of_ble_eq_true rfl) dX7_init_10 ⟨Nat.le_of_ble_eq_true rfl, Nat.le_of_ble_eq_true rfl⟩ (fun H locs hB => ?_)
  refine m_callI (r := ro) (As := [.int (nI n2)]) (rest := [.ref (ad_1 ro), .ref (ad_1 t)]) (c_Row_init l D ty (L ++ [ro]) ad_1 _ ro a n2 (List.mem_append_right _ List.mem_cons_self) (va_up_self _ _ _) (fun h9 => (List.mem_append.mp h9).elim n_a (fun h8 => ne_ro_a (List.mem_singleton.mp h8).symm)) (by omega) ne_ro_a) ⟨hx, hb, hml, hown, hts⟩ (cwI 1 hts gX7_init_X5_init rfl rfl rfl (hts (.initialized RX5) (by decide +kernel)) (hts (.methodLink RX7 15 yX5_init) (by decide +kernel)) (hts (.instanceMethod yX5_init) (by decide +kernel)) rfl (by decide +kernel) ⟨Nat.le_of_ble_eq_true rfl, Nat.le_of_ble_eq_true rfl⟩) hB rfl hl.1 rfl (Nat.le_of_ble_eq_true rfl) dX7_init_13 ⟨Nat.le_of_ble_eq_true rfl, Nat.le_of_ble_eq_true rfl⟩ (fun v113 L113 ad_113 g113 H locs hp113 hB => ?_)
  obtain ⟨q1_113, q2_113, had_113, q4_113⟩ := hp113
  subst q2_113
  have e113_a2 : ad_1 a2 = ad_113 a2 := had_113 a2 (List.mem_append_left _ m_a2)
  have e113_r2 : ad_1 r2 = ad_113 r2 := had_113 r2 (List.mem_append_left _ m_r2)
  have e113_ro : ad_1 ro = ad_113 ro := had_113 ro (List.mem_append_right _ List.mem_cons_self)
  have e113_t : ad_1 t = ad_113 t := had_113 t (List.mem_append_left _ m_t)
  replace hl : lv_has ls 3 [(0, .ref (ad_113 t)), (1, .ref (ad_113 r2))] := by rw [← e113_r2, ← e113_t]; exact hl
  have fa113_r2 : (va_up g ro (.inr (5, [.null, .int 0]))) r2 = .inr (5, [.ref (ad_113 a2), .int (nI n2)]) := by rw [← e113_a2]; exact ((va_up_ne _ _ ne_r2_ro).trans fa1_r2)
  replace hB : m_B D ty A s ((L ++ [ro]) ++ [a]) ad_113 (va_up (va_up (va_up g ro (.inr (5, [.null, .int 0]))) a (.inl (ty 2, n2, .inl (fun _ => 0)))) ro (.inr (5, [.ref (ad_113 a), .int 0]))) H locs := by rw [q4_113] at hB; exact hB
  refine W.eq (g2 := F0 m 16 ls [.ref (ad_113 ro), .ref (ad_113 t)]) (by rw [q1_113]; (try rw [e113_ro]); (try rw [e113_t]); rfl) ?_
  refine m_putF (C := RX7) (T := TX7) (N := 2) (ci := 7) (v := .ref (ad_113 ro)) (ft := .object "PaperRoom$Row") hx hb hts in_X7_init_X7 tyX7 tyX7_ok nmX7 hown hB (List.mem_append_left _ (List.mem_append_left _ m_t)) ((va_up_ne _ _ ne_t_ro).trans ((va_up_ne _ _ ne_t_a).trans ((va_up_ne _ _ ne_t_ro).trans h_t))) rfl 0 (by decide) (hts (.fieldLink RX7 18 "PaperRoom$Text" "row" "LPaperRoom$Row;") (by decide +kernel)) (fun _ h9 => h9) rfl hin rfl (by decide +kernel) rfl rfl (Nat.le_of_ble_eq_true rfl) dX7_init_16 (fun H locs hB => ?_)
  replace hB : m_B D ty A s ((L ++ [ro]) ++ [a]) ad_113 (va_up (va_up (va_up (va_up g ro (.inr (5, [.null, .int 0]))) a (.inl (ty 2, n2, .inl (fun _ => 0)))) ro (.inr (5, [.ref (ad_113 a), .int 0]))) t (.inr (7, [.ref (ad_113 ro), .null]))) H locs := hB
  refine lv_aload_n hx hb dX7_init_19 rfl (lv_at hl 0 rfl) ?_
  refine lv_aload_n hx hb dX7_init_20 rfl (lv_at hl 1 rfl) ?_
  refine m_callVE (ci := 5) (As := []) (rest := [.ref (ad_113 t)]) (c_Row_length l D ty ((L ++ [ro]) ++ [a]) ad_113 _ r2 a2 n2 (List.mem_append_left _ (List.mem_append_left _ m_r2)) ((va_up_ne _ _ (Ne.symm ne_t_r2)).trans ((va_up_ne _ _ ne_r2_ro).trans ((va_up_ne _ _ ne_r2_a).trans fa113_r2)))) ⟨hx, hb, hml, hown, hts⟩ (cwV 0 hts gX7_init_X5_length rfl rfl rfl (by decide +kernel) ⟨Nat.le_of_ble_eq_true rfl, Nat.le_of_ble_eq_true rfl⟩) hB (List.mem_append_left _ (List.mem_append_left _ m_r2)) ((va_up_ne _ _ (Ne.symm ne_t_r2)).trans ((va_up_ne _ _ ne_r2_ro).trans ((va_up_ne _ _ ne_r2_a).trans fa113_r2))) rfl rfl hl.1 rfl (Nat.le_of_ble_eq_true rfl) dX7_init_21 ⟨Nat.le_of_ble_eq_true rfl, Nat.le_of_ble_eq_true rfl⟩ (fun H locs hB => ?_)
  refine lv_iconst (v := 0) hx hb dX7_init_24 (by decide) ?_
  refine va_mmax hx hb (by rw [hml]; exact hl.1.symm) hown (hts (.methodLink RX7 24 Lib.Math.max.name) (by decide +kernel)) (hts (.static Lib.Math.max.name) (by decide +kernel)) (hts (.initialized "java/lang/Math") (by decide +kernel)) (hts _ mx_X7_init) (Nat.le_of_ble_eq_true rfl) (Nat.le_of_ble_eq_true rfl) (Nat.le_of_ble_eq_true rfl) (by show _ ≤ (122 : Nat); omega) dX7_init_25 ?_
  refine b_topi (w := nI n2) (if_neg (by rw [i_lt, nI_toInt (by omega), i_0]; omega)) ?_
  refine n_newa (atype := .boolean) (ft := .boolean) (a0 := (n2, .inl (fun _ => 0))) hx hb (hts (.arrayClass .boolean) (by decide +kernel)) rfl hB 3 rfl bl (fun h9 => (List.mem_append.mp h9).elim (fun h9 => (List.mem_append.mp h9).elim n_bl (fun h8 => ne_ro_bl (List.mem_singleton.mp h8).symm)) (fun h8 => ne_a_bl (List.mem_singleton.mp h8).symm)) (fun _ => rfl) (by rw [i_lt, nI_toInt (by omega), i_0]; first | omega | decide) (by first | exact nI_clamp (by omega) | decide) (by show _ * 1 ≤ _; omega) (Nat.le_of_ble_eq_true rfl) (by show _ + _ ≤ (122 : Nat); omega) dX7_init_28 (fun ad_2 H had_2 hB => ?_)
  have e2_a : ad_113 a = ad_2 a := had_2 a (List.mem_append_right _ List.mem_cons_self)
  have e2_a2 : ad_113 a2 = ad_2 a2 := had_2 a2 (List.mem_append_left _ (List.mem_append_left _ m_a2))
  have e2_r2 : ad_113 r2 = ad_2 r2 := had_2 r2 (List.mem_append_left _ (List.mem_append_left _ m_r2))
  have e2_ro : ad_113 ro = ad_2 ro := had_2 ro (List.mem_append_left _ (List.mem_append_right _ List.mem_cons_self))
  have e2_t : ad_113 t = ad_2 t := had_2 t (List.mem_append_left _ (List.mem_append_left _ m_t))
  replace hl : lv_has ls 3 [(0, .ref (ad_2 t)), (1, .ref (ad_2 r2))] := by rw [← e2_r2, ← e2_t]; exact hl
  have fa2_t : (va_up (va_up (va_up (va_up g ro (.inr (5, [.null, .int 0]))) a (.inl (ty 2, n2, .inl (fun _ => 0)))) ro (.inr (5, [.ref (ad_113 a), .int 0]))) t (.inr (7, [.ref (ad_113 ro), .null]))) t = .inr (7, [.ref (ad_2 ro), .null]) := by rw [← e2_ro]; exact (va_up_self _ _ _)
  have fa2_r2 : (va_up (va_up (va_up (va_up g ro (.inr (5, [.null, .int 0]))) a (.inl (ty 2, n2, .inl (fun _ => 0)))) ro (.inr (5, [.ref (ad_113 a), .int 0]))) t (.inr (7, [.ref (ad_113 ro), .null]))) r2 = .inr (5, [.ref (ad_2 a2), .int (nI n2)]) := by rw [← e2_a2]; exact ((va_up_ne _ _ (Ne.symm ne_t_r2)).trans ((va_up_ne _ _ ne_r2_ro).trans ((va_up_ne _ _ ne_r2_a).trans fa113_r2)))
  have fa2_ro : (va_up (va_up (va_up (va_up g ro (.inr (5, [.null, .int 0]))) a (.inl (ty 2, n2, .inl (fun _ => 0)))) ro (.inr (5, [.ref (ad_113 a), .int 0]))) t (.inr (7, [.ref (ad_113 ro), .null]))) ro = .inr (5, [.ref (ad_2 a), .int 0]) := by rw [← e2_a]; exact ((va_up_ne _ _ (Ne.symm ne_t_ro)).trans (va_up_self _ _ _))
  replace hB : m_B D ty A s (((L ++ [ro]) ++ [a]) ++ [bl]) ad_2 (va_up (va_up (va_up (va_up (va_up g ro (.inr (5, [.null, .int 0]))) a (.inl (ty 2, n2, .inl (fun _ => 0)))) ro (.inr (5, [.ref (ad_113 a), .int 0]))) t (.inr (7, [.ref (ad_113 ro), .null]))) bl (.inl (ty 3, n2, .inl (fun _ => 0)))) H locs := hB
  refine W.eq (g2 := F0 m 30 ls [.ref (ad_2 bl), .ref (ad_2 t)]) (by rw [e2_t]) ?_
  refine m_putF (C := RX7) (T := TX7) (N := 2) (ci := 7) (v := .ref (ad_2 bl)) (ft := .array .boolean) hx hb hts in_X7_init_X7 tyX7 tyX7_ok nmX7 hown hB (List.mem_append_left _ (List.mem_append_left _ (List.mem_append_left _ m_t))) ((va_up_ne _ _ ne_t_bl).trans fa2_t) rfl 1 (by decide) (hts (.fieldLink RX7 30 "PaperRoom$Text" "black" "[Z") (by decide +kernel)) (fun _ h9 => h9) rfl hin rfl (by decide +kernel) rfl rfl (Nat.le_of_ble_eq_true rfl) dX7_init_30 (fun H locs hB => ?_)
  replace hB : m_B D ty A s (((L ++ [ro]) ++ [a]) ++ [bl]) ad_2 (va_up (va_up (va_up (va_up (va_up (va_up g ro (.inr (5, [.null, .int 0]))) a (.inl (ty 2, n2, .inl (fun _ => 0)))) ro (.inr (5, [.ref (ad_113 a), .int 0]))) t (.inr (7, [.ref (ad_113 ro), .null]))) bl (.inl (ty 3, n2, .inl (fun _ => 0)))) t (.inr (7, [.ref (ad_2 ro), .ref (ad_2 bl)]))) H locs := hB
  refine lv_iconst (v := 0) hx hb dX7_init_33 (by decide) ?_
  refine lv_istore_n (lv' := [(2, .int 0), (0, .ref (ad_2 t)), (1, .ref (ad_2 r2))]) hx hb dX7_init_34 rfl hl (by decide) rfl (fun ls hl => ?_)
  refine W.widen (k := 3) (n := 122) (Nat.le_of_ble_eq_true rfl) (by show 0 + 2 + 80 + n2 ≤ 122; omega) ?_
  obtain ⟨gB, hgB⟩ : ∃ z, z = (va_up (va_up (va_up (va_up (va_up (va_up g ro (.inr (5, [.null, .int 0]))) a (.inl (ty 2, n2, .inl (fun _ => 0)))) ro (.inr (5, [.ref (ad_113 a), .int 0]))) t (.inr (7, [.ref (ad_113 ro), .null]))) bl (.inl (ty 3, n2, .inl (fun _ => 0)))) t (.inr (7, [.ref (ad_2 ro), .ref (ad_2 bl)]))) := ⟨_, rfl⟩
  rw [← hgB] at hB
  have FgB_t : gB t = .inr (7, [.ref (ad_2 ro), .ref (ad_2 bl)]) := by rw [hgB]; exact (va_up_self _ _ _)
  have FgB_r2 : gB r2 = .inr (5, [.ref (ad_2 a2), .int (nI n2)]) := by rw [hgB]; exact ((va_up_ne _ _ (Ne.symm ne_t_r2)).trans ((va_up_ne _ _ ne_r2_bl).trans fa2_r2))
  have FgB_a2 : gB a2 = .inl (ty 2, cap2, .inl bs2) := by rw [hgB]; exact ((va_up_ne _ _ (Ne.symm ne_t_a2)).trans ((va_up_ne _ _ ne_a2_bl).trans ((va_up_ne _ _ (Ne.symm ne_t_a2)).trans ((va_up_ne _ _ ne_a2_ro).trans ((va_up_ne _ _ ne_a2_a).trans ((va_up_ne _ _ ne_a2_ro).trans h_a2))))))
  have FgB_ro : gB ro = .inr (5, [.ref (ad_2 a), .int 0]) := by rw [hgB]; exact ((va_up_ne _ _ (Ne.symm ne_t_ro)).trans ((va_up_ne _ _ ne_ro_bl).trans fa2_ro))
  have FgB_a : gB a = .inl (ty 2, n2, .inl (fun _ => 0)) := by rw [hgB]; exact ((va_up_ne _ _ (Ne.symm ne_t_a)).trans ((va_up_ne _ _ ne_a_bl).trans ((va_up_ne _ _ (Ne.symm ne_t_a)).trans ((va_up_ne _ _ (Ne.symm ne_ro_a)).trans (va_up_self _ _ _)))))
  have FgB_bl : gB bl = .inl (ty 3, n2, .inl (fun _ => 0)) := by rw [hgB]; exact ((va_up_ne _ _ (Ne.symm ne_t_bl)).trans (va_up_self _ _ _))
  have RgB : ∀ x, x ∈ L → x ≠ t → gB x = g x := by
    intro x hx hn_t
    rw [hgB]; exact ((va_up_ne _ _ hn_t).trans ((va_up_ne _ _ (fun e9 => n_bl (by rw [← e9]; exact hx))).trans ((va_up_ne _ _ hn_t).trans ((va_up_ne _ _ (fun e9 => n_ro (by rw [← e9]; exact hx))).trans ((va_up_ne _ _ (fun e9 => n_a (by rw [← e9]; exact hx))).trans ((va_up_ne _ _ (fun e9 => n_ro (by rw [← e9]; exact hx))).trans rfl))))))
  have tI_n2 : (nI n2).toInt = (n2 : Int) := nI_toInt (by omega)
  replace hl : lv_has ls 3 [(0, .ref (ad_2 t)), (1, .ref (ad_2 r2)), (2, .int 0)] := lv_sub hl [1, 2, 0] rfl
  obtain ⟨k, hk0⟩ : ∃ k : Nat, k = 0 := ⟨0, rfl⟩
  replace hB : m_B D ty A s (((L ++ [ro]) ++ [a]) ++ [bl]) ad_2 (va_up (va_up gB a (.inl (ty 2, n2, .inl (cpf bs2 k)))) ro (.inr (5, [.ref (ad_2 a), .int (nI k)]))) H locs := by
    rw [hk0]
    show m_B D ty A s (((L ++ [ro]) ++ [a]) ++ [bl]) ad_2 (va_up (va_up gB a (.inl (ty 2, n2, .inl (cpf bs2 0)))) ro (.inr (5, [.ref (ad_2 a), .int 0]))) H locs; rw [cpf_0, up_same FgB_a, up_same FgB_ro]; exact hB
  replace hl : lv_has ls 3 [(0, .ref (ad_2 t)), (1, .ref (ad_2 r2)), (2, .int (nI k))] := by rw [hk0]; exact hl
  obtain ⟨jz, hj⟩ : ∃ jz : Nat, k + jz = n2 := ⟨n2 - k, by omega⟩
  clear hk0
  induction jz generalizing k H locs ls with
  | zero =>
    have hje : k = n2 := by omega
    have tI_k : (nI k).toInt = (k : Int) := nI_toInt (by omega)
    refine lv_iload_n hx hb dX7_init_35 rfl (lv_at hl 2 rfl) ?_
    refine lv_aload_n hx hb dX7_init_36 rfl (lv_at hl 1 rfl) ?_
    refine m_callVE (ci := 5) (As := []) (rest := [.int (nI k)]) (c_Row_length l D ty (((L ++ [ro]) ++ [a]) ++ [bl]) ad_2 _ r2 a2 n2 (List.mem_append_left _ (List.mem_append_left _ (List.mem_append_left _ m_r2))) ((va_up_ne _ _ ne_r2_ro).trans ((va_up_ne _ _ ne_r2_a).trans FgB_r2))) ⟨hx, hb, hml, hown, hts⟩ (cwV 0 hts gX7_init_X5_length rfl rfl rfl (by decide +kernel) ⟨Nat.le_of_ble_eq_true rfl, Nat.le_of_ble_eq_true rfl⟩) hB (List.mem_append_left _ (List.mem_append_left _ (List.mem_append_left _ m_r2))) ((va_up_ne _ _ ne_r2_ro).trans ((va_up_ne _ _ ne_r2_a).trans FgB_r2)) rfl rfl hl.1 rfl (Nat.le_of_ble_eq_true rfl) dX7_init_37 ⟨Nat.le_of_ble_eq_true rfl, Nat.le_of_ble_eq_true rfl⟩ (fun H locs hB => ?_)
    refine b_icmp_ge_t 61 hx hb dX7_init_40 (by decide) (by omega) ?_
    subst hje
    skip
    exact m_vret hx hb hrt hlocks hB (Nat.le_refl _) (Nat.le_refl _) dX7_init_61 ⟨rfl, rfl, (fun x hx => ((((had_1 x hx).trans (had_113 x (List.mem_append_left _ hx)))).trans (had_2 x (List.mem_append_left _ (List.mem_append_left _ hx))))), (fun x hx hn_t => ((va_up_ne _ _ (fun e9 => n_ro (by rw [← e9]; exact hx))).trans ((va_up_ne _ _ (fun e9 => n_a (by rw [← e9]; exact hx))).trans (RgB x hx hn_t)))), ((va_up_ne _ _ ne_t_ro).trans ((va_up_ne _ _ ne_t_a).trans FgB_t)), (va_up_self _ _ _), ((va_up_ne _ _ (Ne.symm ne_ro_a)).trans (va_up_self _ _ _)), ((va_up_ne _ _ (Ne.symm ne_ro_bl)).trans ((va_up_ne _ _ (Ne.symm ne_a_bl)).trans FgB_bl))⟩
  | succ jz ihj =>
    have hjl : k < n2 := by omega
    have tI_k : (nI k).toInt = (k : Int) := nI_toInt (by omega)
    refine lv_iload_n hx hb dX7_init_35 rfl (lv_at hl 2 rfl) ?_
    refine lv_aload_n hx hb dX7_init_36 rfl (lv_at hl 1 rfl) ?_
    refine m_callVE (ci := 5) (As := []) (rest := [.int (nI k)]) (c_Row_length l D ty (((L ++ [ro]) ++ [a]) ++ [bl]) ad_2 _ r2 a2 n2 (List.mem_append_left _ (List.mem_append_left _ (List.mem_append_left _ m_r2))) ((va_up_ne _ _ ne_r2_ro).trans ((va_up_ne _ _ ne_r2_a).trans FgB_r2))) ⟨hx, hb, hml, hown, hts⟩ (cwV 0 hts gX7_init_X5_length rfl rfl rfl (by decide +kernel) ⟨Nat.le_of_ble_eq_true rfl, Nat.le_of_ble_eq_true rfl⟩) hB (List.mem_append_left _ (List.mem_append_left _ (List.mem_append_left _ m_r2))) ((va_up_ne _ _ ne_r2_ro).trans ((va_up_ne _ _ ne_r2_a).trans FgB_r2)) rfl rfl hl.1 rfl (Nat.le_of_ble_eq_true rfl) dX7_init_37 ⟨Nat.le_of_ble_eq_true rfl, Nat.le_of_ble_eq_true rfl⟩ (fun H locs hB => ?_)
    refine b_icmp_ge_f 61 hx hb dX7_init_40 (by decide) (by omega) ?_
    refine lv_aload_n hx hb dX7_init_43 rfl (lv_at hl 0 rfl) ?_
    refine m_get (C := RX7) (T := TX7) (N := 2) (ci := 7) hx hb hts in_X7_init_X7 hown hB (List.mem_append_left _ (List.mem_append_left _ (List.mem_append_left _ m_t))) ((va_up_ne _ _ ne_t_ro).trans ((va_up_ne _ _ ne_t_a).trans FgB_t)) rfl 0 (by decide) (hts (.fieldLink RX7 18 "PaperRoom$Text" "row" "LPaperRoom$Row;") (by decide +kernel)) (fun _ h9 => h9) rfl dX7_init_44 ?_
    refine lv_aload_n hx hb dX7_init_47 rfl (lv_at hl 1 rfl) ?_
    refine lv_iload_n hx hb dX7_init_48 rfl (lv_at hl 2 rfl) ?_
    refine m_callVE (ci := 5) (As := [.int (nI k)]) (rest := [.ref (ad_2 ro)]) (c_Row_get_t l D ty (((L ++ [ro]) ++ [a]) ++ [bl]) ad_2 _ r2 a2 n2 cap2 bs2 k (List.mem_append_left _ (List.mem_append_left _ (List.mem_append_left _ m_r2))) (List.mem_append_left _ (List.mem_append_left _ (List.mem_append_left _ m_a2))) ((va_up_ne _ _ ne_r2_ro).trans ((va_up_ne _ _ ne_r2_a).trans FgB_r2)) ((va_up_ne _ _ ne_a2_ro).trans ((va_up_ne _ _ ne_a2_a).trans FgB_a2)) hjl hn2 (by omega)) ⟨hx, hb, hml, hown, hts⟩ (cwV 1 hts gX7_init_X5_get rfl rfl rfl (by decide +kernel) ⟨Nat.le_of_ble_eq_true rfl, Nat.le_of_ble_eq_true rfl⟩) hB (List.mem_append_left _ (List.mem_append_left _ (List.mem_append_left _ m_r2))) ((va_up_ne _ _ ne_r2_ro).trans ((va_up_ne _ _ ne_r2_a).trans FgB_r2)) rfl rfl hl.1 rfl (Nat.le_of_ble_eq_true rfl) dX7_init_49 ⟨Nat.le_of_ble_eq_true rfl, Nat.le_of_ble_eq_true rfl⟩ (fun H locs hB => ?_)
    refine m_callVZ (ci := 5) (As := [.int (bs2 k)]) (rest := []) (c_Row_put l D ty (((L ++ [ro]) ++ [a]) ++ [bl]) ad_2 _ ro a k n2 (cpf bs2 k) (bs2 k) (List.mem_append_left _ (List.mem_append_left _ (List.mem_append_right _ List.mem_cons_self))) (List.mem_append_left _ (List.mem_append_right _ List.mem_cons_self)) (va_up_self _ _ _) ((va_up_ne _ _ (Ne.symm ne_ro_a)).trans (va_up_self _ _ _)) ne_ro_a hjl (by omega) (h8 k hjl)) ⟨hx, hb, hml, hown, hts⟩ (cwV 1 hts gX7_init_X5_put rfl rfl rfl (by decide +kernel) ⟨Nat.le_of_ble_eq_true rfl, Nat.le_of_ble_eq_true rfl⟩) hB (List.mem_append_left _ (List.mem_append_left _ (List.mem_append_right _ List.mem_cons_self))) (va_up_self _ _ _) rfl rfl hl.1 rfl (Nat.le_of_ble_eq_true rfl) dX7_init_52 ⟨Nat.le_of_ble_eq_true rfl, Nat.le_of_ble_eq_true rfl⟩ (fun H locs hB => ?_)
    replace hB : m_B D ty A s (((L ++ [ro]) ++ [a]) ++ [bl]) ad_2 (va_up (va_up gB a (.inl (ty 2, n2, .inl (upd (cpf bs2 k) k (bs2 k))))) ro (.inr (5, [.ref (ad_2 a), .int (nI (k + 1))]))) H locs := by rw [up_4 ne_ro_a] at hB; exact hB
    refine lv_iinc (v := nI (k + 1)) (lv' := [(2, .int (nI (k + 1))), (0, .ref (ad_2 t)), (1, .ref (ad_2 r2))]) hx hb dX7_init_55 hl (k := 2) rfl (nI_add k 1) (by decide) rfl (fun ls hl => ?_)
    refine lv_goto (tgt := 35) hx hb dX7_init_58 (by decide) ?_
    have hB : m_B D ty A s (((L ++ [ro]) ++ [a]) ++ [bl]) ad_2 (va_up (va_up gB a (.inl (ty 2, n2, .inl (cpf bs2 (k + 1))))) ro (.inr (5, [.ref (ad_2 a), .int (nI (k + 1))]))) H locs := by
      rw [← cpf_1]; exact hB
    have hl : lv_has ls 3 [(0, .ref (ad_2 t)), (1, .ref (ad_2 r2)), (2, .int (nI (k + 1)))] := lv_sub hl [1, 2, 0] rfl
    apply ihj (k := (k + 1)) (H := H) (locs := locs) (ls := ls) <;> first | omega | exact hB | exact hl
