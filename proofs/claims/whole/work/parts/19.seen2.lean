set_option maxRecDepth 20000 in
theorem in_X6_note_X6 : ∀ w ∈ wsX60, w ∈ wsX6_note := by decide +kernel
set_option maxHeartbeats 1000000 in
set_option maxRecDepth 100000 in
theorem c_Seen_note_full (l : Launch) (D : va_G) (ty : Nat → ClassId) (L : List Nat) (ad : Nat → Nat) (g : Nat → va_E) (sn c0 c1 c2 c3 c4 en : Nat) (ls0 : Int32) (t b pq v : Int32) (m_sn : sn ∈ L) (h_sn : g sn = .inr (6, [.ref (ad c0), .ref (ad c1), .ref (ad c2), .ref (ad c3), .ref (ad c4), .int (nI en), .int ls0])) (he : en = 200) : m_E l yX6_note wsX6_note 1 21 D ty [.ref (ad sn), .int t, .int b, .int pq, .int v] L ad g none (va_up g sn (.inr (6, [.ref (ad c0), .ref (ad c1), .ref (ad c2), .ref (ad c3), .ref (ad c4), .int (nI en), .int (ls0 + 1)]))) := by
  intro sz
  refine Met.ofW (cc := cX6_note) (maxL := 7) (ret := none) (by decide) rfl ?_
  intro p e s m args below meth c s₁ B hml hv
  have hx := B.exec
  have hb := B.bytes
  have hrt := B.returns
  have hts := atoms_spec (ws := wsX6_note) B.pre
  have hown : s.vm.findClass RX6 = some m.cls := findClass_of_methodNamed B.named
  have hlocks := B.notSynchronized
  obtain ⟨rfl, hB⟩ := m_start hv
  generalize va_A (m_w L ad g) sz = A at hB ⊢
  generalize s.heap = H at hB ⊢
  generalize ([] : List Loc) = locs at hB ⊢
  have hl := lv_entry ([.ref (ad sn), .int t, .int b, .int pq, .int v]) (n := 7) (Nat.le_of_ble_eq_true rfl)
  rw [lg_entry_eq]
  generalize (lg_sl ([.ref (ad sn), .int t, .int b, .int pq, .int v]) ++ List.replicate (7 - (lg_sl ([.ref (ad sn), .int t, .int b, .int pq, .int v])).length) Slot.unset).toArray = ls at hl ⊢
  have hl : lv_has ls 7 [(0, .ref (ad sn)), (1, .int t), (2, .int b), (3, .int pq), (4, .int v)] := hl
  have tI_en : (nI en).toInt = 200 := by rw [he]; decide
  have tI_200 : (200 : Int32).toInt = 200 := by decide
  refine lv_aload_n hx hb dX6_note_0 rfl (lv_at hl 0 rfl) ?_
  refine m_get (C := RX6) (T := TX6) (N := 7) (ci := 6) hx hb hts in_X6_note_X6 hown hB m_sn h_sn rfl 5 (by decide) (hts (.fieldLink RX6 28 "PaperRoom$Seen" "entries" "I") (by decide +kernel)) (fun _ h9 => h9) rfl dX6_note_1 ?_
  refine lv_sipush (v := 200) hx hb dX6_note_4 (by decide) ?_
  refine m_callSNE (As := [.int (nI en), .int 200]) (rest := []) (c_isBelow_f l D ty L ad g _ _ (by omega)) ⟨hx, hb, hml, hown, hts⟩ ⟨va_cnB 2 hts gX6_note_X8_isBelow_n35 rfl rfl rfl hB.2.1.2.2.2.2.2.2.2.1 (hts (.initialized RX8) (by decide +kernel)) (by decide +kernel) ⟨Nat.le_of_ble_eq_true rfl, Nat.le_of_ble_eq_true rfl⟩, hts (.static yX8_isBelow) (by decide +kernel), trivial⟩ hB rfl hl.1 rfl (Nat.le_of_ble_eq_true rfl) dX6_note_7 ⟨Nat.le_of_ble_eq_true rfl, Nat.le_of_ble_eq_true rfl⟩ (fun H locs hB => ?_)
  refine b_if_ne_f 24 hx hb dX6_note_10 (by decide) (by decide) ?_
  refine lv_aload_n hx hb dX6_note_13 rfl (lv_at hl 0 rfl) ?_
  refine lv_dup hx hb dX6_note_14 rfl ?_
  refine m_get (C := RX6) (T := TX6) (N := 7) (ci := 6) hx hb hts in_X6_note_X6 hown hB m_sn h_sn rfl 6 (by decide) (hts (.fieldLink RX6 32 "PaperRoom$Seen" "lost" "I") (by decide +kernel)) (fun _ h9 => h9) rfl dX6_note_15 ?_
  refine lv_iconst (v := 1) hx hb dX6_note_18 (by decide) ?_
  refine lv_iadd hx hb dX6_note_19 ?_
  refine m_put (C := RX6) (T := TX6) (N := 7) (ci := 6) (v := .int (ls0 + 1)) (ft := .int) hx hb hts in_X6_note_X6 tyX6 tyX6_ok nmX6 hown hB m_sn h_sn rfl 6 (by decide) (hts (.fieldLink RX6 32 "PaperRoom$Seen" "lost" "I") (by decide +kernel)) (fun _ h9 => h9) rfl (by decide +kernel) rfl rfl (Nat.le_of_ble_eq_true rfl) dX6_note_20 (fun H locs hB => ?_)
  replace hB : m_B D ty A s L ad (va_up g sn (.inr (6, [.ref (ad c0), .ref (ad c1), .ref (ad c2), .ref (ad c3), .ref (ad c4), .int (nI en), .int (ls0 + 1)]))) H locs := hB
  exact m_vret hx hb hrt hlocks hB (Nat.le_refl _) (Nat.le_refl _) dX6_note_23 ⟨rfl, rfl, rfl, rfl⟩
set_option maxHeartbeats 1000000 in
set_option maxRecDepth 100000 in
theorem c_Seen_note_0 (l : Launch) (D : va_G) (ty : Nat → ClassId) (L : List Nat) (ad : Nat → Nat) (g : Nat → va_E) (sn c0 c1 c2 c3 c4 en : Nat) (ls0 : Int32) (f0 f1 f2 f3 : Nat → Int32) (f4 : Nat → Int64) (t b pq v : Int32) (m_sn : sn ∈ L) (m_c0 : c0 ∈ L) (m_c1 : c1 ∈ L) (m_c2 : c2 ∈ L) (m_c3 : c3 ∈ L) (m_c4 : c4 ∈ L) (h_sn : g sn = .inr (6, [.ref (ad c0), .ref (ad c1), .ref (ad c2), .ref (ad c3), .ref (ad c4), .int (nI en), .int ls0])) (h_c0 : g c0 = .inl (ty 0, 200, .inl f0)) (h_c1 : g c1 = .inl (ty 0, 200, .inl f1)) (h_c2 : g c2 = .inl (ty 0, 200, .inl f2)) (h_c3 : g c3 = .inl (ty 0, 200, .inl f3)) (h_c4 : g c4 = .inl (ty 1, 200, .inr (.inl f4))) (he : en = 0) (ne_sn_c0 : sn ≠ c0) (ne_sn_c1 : sn ≠ c1) (ne_sn_c2 : sn ≠ c2) (ne_sn_c3 : sn ≠ c3) (ne_sn_c4 : sn ≠ c4) (ne_c0_c1 : c0 ≠ c1) (ne_c0_c2 : c0 ≠ c2) (ne_c0_c3 : c0 ≠ c3) (ne_c0_c4 : c0 ≠ c4) (ne_c1_c2 : c1 ≠ c2) (ne_c1_c3 : c1 ≠ c3) (ne_c1_c4 : c1 ≠ c4) (ne_c2_c3 : c2 ≠ c3) (ne_c2_c4 : c2 ≠ c4) (ne_c3_c4 : c3 ≠ c4) : m_E l yX6_note wsX6_note 1 21 D ty [.ref (ad sn), .int t, .int b, .int pq, .int v] L ad g none (va_up (va_up (va_up (va_up (va_up (va_up g c0 (.inl (ty 0, 200, .inl (upd f0 en t)))) c1 (.inl (ty 0, 200, .inl (upd f1 en b)))) c2 (.inl (ty 0, 200, .inl (upd f2 en pq)))) c3 (.inl (ty 0, 200, .inl (upd f3 en v)))) c4 (.inl (ty 1, 200, .inr (.inl (vp_updL f4 en (lk (7) t b pq v)))))) sn (.inr (6, [.ref (ad c0), .ref (ad c1), .ref (ad c2), .ref (ad c3), .ref (ad c4), .int (nI (en + 1)), .int (ls0)]))) := by
  intro sz
  refine Met.ofW (cc := cX6_note) (maxL := 7) (ret := none) (by decide) rfl ?_
  intro p e s m args below meth c s₁ B hml hv
  have hx := B.exec
  have hb := B.bytes
  have hrt := B.returns
  have hts := atoms_spec (ws := wsX6_note) B.pre
  have hown : s.vm.findClass RX6 = some m.cls := findClass_of_methodNamed B.named
  have hlocks := B.notSynchronized
  obtain ⟨rfl, hB⟩ := m_start hv
  generalize va_A (m_w L ad g) sz = A at hB ⊢
  generalize s.heap = H at hB ⊢
  generalize ([] : List Loc) = locs at hB ⊢
  have hl := lv_entry ([.ref (ad sn), .int t, .int b, .int pq, .int v]) (n := 7) (Nat.le_of_ble_eq_true rfl)
  rw [lg_entry_eq]
  generalize (lg_sl ([.ref (ad sn), .int t, .int b, .int pq, .int v]) ++ List.replicate (7 - (lg_sl ([.ref (ad sn), .int t, .int b, .int pq, .int v])).length) Slot.unset).toArray = ls at hl ⊢
  have hl : lv_has ls 7 [(0, .ref (ad sn)), (1, .int t), (2, .int b), (3, .int pq), (4, .int v)] := hl
  have tI_en : (nI en).toInt = (en : Int) := nI_toInt (by omega)
  have tI_200 : (200 : Int32).toInt = 200 := by decide
  refine lv_aload_n hx hb dX6_note_0 rfl (lv_at hl 0 rfl) ?_
  refine m_get (C := RX6) (T := TX6) (N := 7) (ci := 6) hx hb hts in_X6_note_X6 hown hB m_sn h_sn rfl 5 (by decide) (hts (.fieldLink RX6 28 "PaperRoom$Seen" "entries" "I") (by decide +kernel)) (fun _ h9 => h9) rfl dX6_note_1 ?_
  refine lv_sipush (v := 200) hx hb dX6_note_4 (by decide) ?_
  refine m_callSNE (As := [.int (nI en), .int 200]) (rest := []) (c_isBelow_t l D ty L ad g _ _ (by omega) (by omega)) ⟨hx, hb, hml, hown, hts⟩ ⟨va_cnB 2 hts gX6_note_X8_isBelow_n35 rfl rfl rfl hB.2.1.2.2.2.2.2.2.2.1 (hts (.initialized RX8) (by decide +kernel)) (by decide +kernel) ⟨Nat.le_of_ble_eq_true rfl, Nat.le_of_ble_eq_true rfl⟩, hts (.static yX8_isBelow) (by decide +kernel), trivial⟩ hB rfl hl.1 rfl (Nat.le_of_ble_eq_true rfl) dX6_note_7 ⟨Nat.le_of_ble_eq_true rfl, Nat.le_of_ble_eq_true rfl⟩ (fun H locs hB => ?_)
  refine b_if_ne_t 24 hx hb dX6_note_10 (by decide) (by decide) ?_
  refine lv_aload_n hx hb dX6_note_24 rfl (lv_at hl 0 rfl) ?_
  refine m_get (C := RX6) (T := TX6) (N := 7) (ci := 6) hx hb hts in_X6_note_X6 hown hB m_sn h_sn rfl 5 (by decide) (hts (.fieldLink RX6 28 "PaperRoom$Seen" "entries" "I") (by decide +kernel)) (fun _ h9 => h9) rfl dX6_note_25 ?_
  refine b_if_ne_f 37 hx hb dX6_note_28 (by decide) (by rw [he]; decide) ?_
  refine lv_ldc2 hx hb hown (hts (.constantLong RX6 39 (7)) (by decide +kernel)) dX6_note_31 ?_
  refine lv_goto (tgt := 48) hx hb dX6_note_34 (by decide) ?_
  refine lv_lstore (lv' := [(5, .long 7), (0, .ref (ad sn)), (1, .int t), (2, .int b), (3, .int pq), (4, .int v)]) hx hb dX6_note_48 hl (by decide) rfl (fun ls hl => ?_)
  refine lv_aload_n hx hb dX6_note_50 rfl (lv_at hl 1 rfl) ?_
  refine m_get (C := RX6) (T := TX6) (N := 7) (ci := 6) hx hb hts in_X6_note_X6 hown hB m_sn h_sn rfl 0 (by decide) (hts (.fieldLink RX6 9 "PaperRoom$Seen" "ticks" "[I") (by decide +kernel)) (fun _ h9 => h9) rfl dX6_note_51 ?_
  refine lv_aload_n hx hb dX6_note_54 rfl (lv_at hl 1 rfl) ?_
  refine m_get (C := RX6) (T := TX6) (N := 7) (ci := 6) hx hb hts in_X6_note_X6 hown hB m_sn h_sn rfl 5 (by decide) (hts (.fieldLink RX6 28 "PaperRoom$Seen" "entries" "I") (by decide +kernel)) (fun _ h9 => h9) rfl dX6_note_55 ?_
  refine lv_iload_n hx hb dX6_note_58 rfl (lv_at hl 2 rfl) ?_
  refine n_iast hx hb hB m_c0 h_c0 en rfl (by omega) (by omega) dX6_note_59 (fun H locs hB => ?_)
  replace hB : m_B D ty A s L ad (va_up g c0 (.inl (ty 0, 200, .inl (upd f0 en t)))) H locs := hB
  refine lv_aload_n hx hb dX6_note_60 rfl (lv_at hl 1 rfl) ?_
  refine m_get (C := RX6) (T := TX6) (N := 7) (ci := 6) hx hb hts in_X6_note_X6 hown hB m_sn ((va_up_ne _ _ ne_sn_c0).trans h_sn) rfl 1 (by decide) (hts (.fieldLink RX6 15 "PaperRoom$Seen" "bidders" "[I") (by decide +kernel)) (fun _ h9 => h9) rfl dX6_note_61 ?_
  refine lv_aload_n hx hb dX6_note_64 rfl (lv_at hl 1 rfl) ?_
  refine m_get (C := RX6) (T := TX6) (N := 7) (ci := 6) hx hb hts in_X6_note_X6 hown hB m_sn ((va_up_ne _ _ ne_sn_c0).trans h_sn) rfl 5 (by decide) (hts (.fieldLink RX6 28 "PaperRoom$Seen" "entries" "I") (by decide +kernel)) (fun _ h9 => h9) rfl dX6_note_65 ?_
  refine lv_iload_n hx hb dX6_note_68 rfl (lv_at hl 3 rfl) ?_
  refine n_iast hx hb hB m_c1 ((va_up_ne _ _ (Ne.symm ne_c0_c1)).trans h_c1) en rfl (by omega) (by omega) dX6_note_69 (fun H locs hB => ?_)
  replace hB : m_B D ty A s L ad (va_up (va_up g c0 (.inl (ty 0, 200, .inl (upd f0 en t)))) c1 (.inl (ty 0, 200, .inl (upd f1 en b)))) H locs := hB
  refine lv_aload_n hx hb dX6_note_70 rfl (lv_at hl 1 rfl) ?_
  refine m_get (C := RX6) (T := TX6) (N := 7) (ci := 6) hx hb hts in_X6_note_X6 hown hB m_sn ((va_up_ne _ _ ne_sn_c1).trans ((va_up_ne _ _ ne_sn_c0).trans h_sn)) rfl 2 (by decide) (hts (.fieldLink RX6 18 "PaperRoom$Seen" "papers" "[I") (by decide +kernel)) (fun _ h9 => h9) rfl dX6_note_71 ?_
  refine lv_aload_n hx hb dX6_note_74 rfl (lv_at hl 1 rfl) ?_
  refine m_get (C := RX6) (T := TX6) (N := 7) (ci := 6) hx hb hts in_X6_note_X6 hown hB m_sn ((va_up_ne _ _ ne_sn_c1).trans ((va_up_ne _ _ ne_sn_c0).trans h_sn)) rfl 5 (by decide) (hts (.fieldLink RX6 28 "PaperRoom$Seen" "entries" "I") (by decide +kernel)) (fun _ h9 => h9) rfl dX6_note_75 ?_
  refine lv_iload_n hx hb dX6_note_78 rfl (lv_at hl 4 rfl) ?_
  refine n_iast hx hb hB m_c2 ((va_up_ne _ _ (Ne.symm ne_c1_c2)).trans ((va_up_ne _ _ (Ne.symm ne_c0_c2)).trans h_c2)) en rfl (by omega) (by omega) dX6_note_79 (fun H locs hB => ?_)
  replace hB : m_B D ty A s L ad (va_up (va_up (va_up g c0 (.inl (ty 0, 200, .inl (upd f0 en t)))) c1 (.inl (ty 0, 200, .inl (upd f1 en b)))) c2 (.inl (ty 0, 200, .inl (upd f2 en pq)))) H locs := hB
  refine lv_aload_n hx hb dX6_note_80 rfl (lv_at hl 1 rfl) ?_
  refine m_get (C := RX6) (T := TX6) (N := 7) (ci := 6) hx hb hts in_X6_note_X6 hown hB m_sn ((va_up_ne _ _ ne_sn_c2).trans ((va_up_ne _ _ ne_sn_c1).trans ((va_up_ne _ _ ne_sn_c0).trans h_sn))) rfl 3 (by decide) (hts (.fieldLink RX6 21 "PaperRoom$Seen" "versions" "[I") (by decide +kernel)) (fun _ h9 => h9) rfl dX6_note_81 ?_
  refine lv_aload_n hx hb dX6_note_84 rfl (lv_at hl 1 rfl) ?_
  refine m_get (C := RX6) (T := TX6) (N := 7) (ci := 6) hx hb hts in_X6_note_X6 hown hB m_sn ((va_up_ne _ _ ne_sn_c2).trans ((va_up_ne _ _ ne_sn_c1).trans ((va_up_ne _ _ ne_sn_c0).trans h_sn))) rfl 5 (by decide) (hts (.fieldLink RX6 28 "PaperRoom$Seen" "entries" "I") (by decide +kernel)) (fun _ h9 => h9) rfl dX6_note_85 ?_
  refine lv_iload hx hb dX6_note_88 (lv_at hl 5 rfl) ?_
  refine n_iast hx hb hB m_c3 ((va_up_ne _ _ (Ne.symm ne_c2_c3)).trans ((va_up_ne _ _ (Ne.symm ne_c1_c3)).trans ((va_up_ne _ _ (Ne.symm ne_c0_c3)).trans h_c3))) en rfl (by omega) (by omega) dX6_note_90 (fun H locs hB => ?_)
  replace hB : m_B D ty A s L ad (va_up (va_up (va_up (va_up g c0 (.inl (ty 0, 200, .inl (upd f0 en t)))) c1 (.inl (ty 0, 200, .inl (upd f1 en b)))) c2 (.inl (ty 0, 200, .inl (upd f2 en pq)))) c3 (.inl (ty 0, 200, .inl (upd f3 en v)))) H locs := hB
  refine lv_aload_n hx hb dX6_note_91 rfl (lv_at hl 1 rfl) ?_
  refine m_get (C := RX6) (T := TX6) (N := 7) (ci := 6) hx hb hts in_X6_note_X6 hown hB m_sn ((va_up_ne _ _ ne_sn_c3).trans ((va_up_ne _ _ ne_sn_c2).trans ((va_up_ne _ _ ne_sn_c1).trans ((va_up_ne _ _ ne_sn_c0).trans h_sn)))) rfl 4 (by decide) (hts (.fieldLink RX6 24 "PaperRoom$Seen" "links" "[J") (by decide +kernel)) (fun _ h9 => h9) rfl dX6_note_92 ?_
  refine lv_aload_n hx hb dX6_note_95 rfl (lv_at hl 1 rfl) ?_
  refine m_get (C := RX6) (T := TX6) (N := 7) (ci := 6) hx hb hts in_X6_note_X6 hown hB m_sn ((va_up_ne _ _ ne_sn_c3).trans ((va_up_ne _ _ ne_sn_c2).trans ((va_up_ne _ _ ne_sn_c1).trans ((va_up_ne _ _ ne_sn_c0).trans h_sn)))) rfl 5 (by decide) (hts (.fieldLink RX6 28 "PaperRoom$Seen" "entries" "I") (by decide +kernel)) (fun _ h9 => h9) rfl dX6_note_96 ?_
  refine lv_ldc2 hx hb hown (hts (.constantLong RX6 41 (31)) (by decide +kernel)) dX6_note_99 ?_
  refine lv_lload hx hb dX6_note_102 (lv_at hl 0 rfl) ?_
  refine lv_lmul hx hb dX6_note_104 ?_
  refine lv_ldc2 hx hb hown (hts (.constantLong RX6 43 (1000)) (by decide +kernel)) dX6_note_105 ?_
  refine lv_iload_n hx hb dX6_note_108 rfl (lv_at hl 2 rfl) ?_
  refine lv_i2l hx hb dX6_note_109 rfl ?_
  refine lv_lmul hx hb dX6_note_110 ?_
  refine lv_ladd hx hb dX6_note_111 ?_
  refine lv_ldc2 hx hb hown (hts (.constantLong RX6 45 (100)) (by decide +kernel)) dX6_note_112 ?_
  refine lv_iload_n hx hb dX6_note_115 rfl (lv_at hl 3 rfl) ?_
  refine lv_i2l hx hb dX6_note_116 rfl ?_
  refine lv_lmul hx hb dX6_note_117 ?_
  refine lv_ladd hx hb dX6_note_118 ?_
  refine lv_ldc2 hx hb hown (hts (.constantLong RX6 47 (10)) (by decide +kernel)) dX6_note_119 ?_
  refine lv_iload_n hx hb dX6_note_122 rfl (lv_at hl 4 rfl) ?_
  refine lv_i2l hx hb dX6_note_123 rfl ?_
  refine lv_lmul hx hb dX6_note_124 ?_
  refine lv_ladd hx hb dX6_note_125 ?_
  refine lv_iload hx hb dX6_note_126 (lv_at hl 5 rfl) ?_
  refine lv_i2l hx hb dX6_note_128 rfl ?_
  refine lv_ladd hx hb dX6_note_129 ?_
  refine n_last hx hb hB m_c4 ((va_up_ne _ _ (Ne.symm ne_c3_c4)).trans ((va_up_ne _ _ (Ne.symm ne_c2_c4)).trans ((va_up_ne _ _ (Ne.symm ne_c1_c4)).trans ((va_up_ne _ _ (Ne.symm ne_c0_c4)).trans h_c4)))) en rfl (by omega) (by omega) dX6_note_130 (fun H locs hB => ?_)
  replace hB : m_B D ty A s L ad (va_up (va_up (va_up (va_up (va_up g c0 (.inl (ty 0, 200, .inl (upd f0 en t)))) c1 (.inl (ty 0, 200, .inl (upd f1 en b)))) c2 (.inl (ty 0, 200, .inl (upd f2 en pq)))) c3 (.inl (ty 0, 200, .inl (upd f3 en v)))) c4 (.inl (ty 1, 200, .inr (.inl (vp_updL f4 en (((((31 * 7) + (1000 * t.toInt64)) + (100 * b.toInt64)) + (10 * pq.toInt64)) + v.toInt64)))))) H locs := hB
  refine lv_aload_n hx hb dX6_note_131 rfl (lv_at hl 1 rfl) ?_
  refine lv_dup hx hb dX6_note_132 rfl ?_
  refine m_get (C := RX6) (T := TX6) (N := 7) (ci := 6) hx hb hts in_X6_note_X6 hown hB m_sn ((va_up_ne _ _ ne_sn_c4).trans ((va_up_ne _ _ ne_sn_c3).trans ((va_up_ne _ _ ne_sn_c2).trans ((va_up_ne _ _ ne_sn_c1).trans ((va_up_ne _ _ ne_sn_c0).trans h_sn))))) rfl 5 (by decide) (hts (.fieldLink RX6 28 "PaperRoom$Seen" "entries" "I") (by decide +kernel)) (fun _ h9 => h9) rfl dX6_note_133 ?_
  refine lv_iconst (v := 1) hx hb dX6_note_136 (by decide) ?_
  refine lv_iadd hx hb dX6_note_137 ?_
  refine b_topi (w := nI (en + 1)) (nI_add en 1) ?_
  refine m_put (C := RX6) (T := TX6) (N := 7) (ci := 6) (v := .int (nI (en + 1))) (ft := .int) hx hb hts in_X6_note_X6 tyX6 tyX6_ok nmX6 hown hB m_sn ((va_up_ne _ _ ne_sn_c4).trans ((va_up_ne _ _ ne_sn_c3).trans ((va_up_ne _ _ ne_sn_c2).trans ((va_up_ne _ _ ne_sn_c1).trans ((va_up_ne _ _ ne_sn_c0).trans h_sn))))) rfl 5 (by decide) (hts (.fieldLink RX6 28 "PaperRoom$Seen" "entries" "I") (by decide +kernel)) (fun _ h9 => h9) rfl (by decide +kernel) rfl rfl (Nat.le_of_ble_eq_true rfl) dX6_note_138 (fun H locs hB => ?_)
  replace hB : m_B D ty A s L ad (va_up (va_up (va_up (va_up (va_up (va_up g c0 (.inl (ty 0, 200, .inl (upd f0 en t)))) c1 (.inl (ty 0, 200, .inl (upd f1 en b)))) c2 (.inl (ty 0, 200, .inl (upd f2 en pq)))) c3 (.inl (ty 0, 200, .inl (upd f3 en v)))) c4 (.inl (ty 1, 200, .inr (.inl (vp_updL f4 en (((((31 * 7) + (1000 * t.toInt64)) + (100 * b.toInt64)) + (10 * pq.toInt64)) + v.toInt64)))))) sn (.inr (6, [.ref (ad c0), .ref (ad c1), .ref (ad c2), .ref (ad c3), .ref (ad c4), .int (nI (en + 1)), .int ls0]))) H locs := hB
  exact m_vret hx hb hrt hlocks hB (Nat.le_refl _) (Nat.le_refl _) dX6_note_141 ⟨rfl, rfl, rfl, rfl⟩
set_option maxHeartbeats 1000000 in
set_option maxRecDepth 100000 in
theorem c_Seen_note_1 (l : Launch) (D : va_G) (ty : Nat → ClassId) (L : List Nat) (ad : Nat → Nat) (g : Nat → va_E) (sn c0 c1 c2 c3 c4 en : Nat) (ls0 : Int32) (f0 f1 f2 f3 : Nat → Int32) (f4 : Nat → Int64) (t b pq v : Int32) (m_sn : sn ∈ L) (m_c0 : c0 ∈ L) (m_c1 : c1 ∈ L) (m_c2 : c2 ∈ L) (m_c3 : c3 ∈ L) (m_c4 : c4 ∈ L) (h_sn : g sn = .inr (6, [.ref (ad c0), .ref (ad c1), .ref (ad c2), .ref (ad c3), .ref (ad c4), .int (nI en), .int ls0])) (h_c0 : g c0 = .inl (ty 0, 200, .inl f0)) (h_c1 : g c1 = .inl (ty 0, 200, .inl f1)) (h_c2 : g c2 = .inl (ty 0, 200, .inl f2)) (h_c3 : g c3 = .inl (ty 0, 200, .inl f3)) (h_c4 : g c4 = .inl (ty 1, 200, .inr (.inl f4))) (he0 : 0 < en) (he : en < 200) (ne_sn_c0 : sn ≠ c0) (ne_sn_c1 : sn ≠ c1) (ne_sn_c2 : sn ≠ c2) (ne_sn_c3 : sn ≠ c3) (ne_sn_c4 : sn ≠ c4) (ne_c0_c1 : c0 ≠ c1) (ne_c0_c2 : c0 ≠ c2) (ne_c0_c3 : c0 ≠ c3) (ne_c0_c4 : c0 ≠ c4) (ne_c1_c2 : c1 ≠ c2) (ne_c1_c3 : c1 ≠ c3) (ne_c1_c4 : c1 ≠ c4) (ne_c2_c3 : c2 ≠ c3) (ne_c2_c4 : c2 ≠ c4) (ne_c3_c4 : c3 ≠ c4) : m_E l yX6_note wsX6_note 1 21 D ty [.ref (ad sn), .int t, .int b, .int pq, .int v] L ad g none (va_up (va_up (va_up (va_up (va_up (va_up g c0 (.inl (ty 0, 200, .inl (upd f0 en t)))) c1 (.inl (ty 0, 200, .inl (upd f1 en b)))) c2 (.inl (ty 0, 200, .inl (upd f2 en pq)))) c3 (.inl (ty 0, 200, .inl (upd f3 en v)))) c4 (.inl (ty 1, 200, .inr (.inl (vp_updL f4 en (lk (f4 (en - 1)) t b pq v)))))) sn (.inr (6, [.ref (ad c0), .ref (ad c1), .ref (ad c2), .ref (ad c3), .ref (ad c4), .int (nI (en + 1)), .int (ls0)]))) := by
  intro sz
  refine Met.ofW (cc := cX6_note) (maxL := 7) (ret := none) (by decide) rfl ?_
  intro p e s m args below meth c s₁ B hml hv
  have hx := B.exec
  have hb := B.bytes
  have hrt := B.returns
  have hts := atoms_spec (ws := wsX6_note) B.pre
  have hown : s.vm.findClass RX6 = some m.cls := findClass_of_methodNamed B.named
  have hlocks := B.notSynchronized
  obtain ⟨rfl, hB⟩ := m_start hv
  generalize va_A (m_w L ad g) sz = A at hB ⊢
  generalize s.heap = H at hB ⊢
  generalize ([] : List Loc) = locs at hB ⊢
  have hl := lv_entry ([.ref (ad sn), .int t, .int b, .int pq, .int v]) (n := 7) (Nat.le_of_ble_eq_true rfl)
  rw [lg_entry_eq]
  generalize (lg_sl ([.ref (ad sn), .int t, .int b, .int pq, .int v]) ++ List.replicate (7 - (lg_sl ([.ref (ad sn), .int t, .int b, .int pq, .int v])).length) Slot.unset).toArray = ls at hl ⊢
  have hl : lv_has ls 7 [(0, .ref (ad sn)), (1, .int t), (2, .int b), (3, .int pq), (4, .int v)] := hl
  have tI_en : (nI en).toInt = (en : Int) := nI_toInt (by omega)
  have tI_200 : (200 : Int32).toInt = 200 := by decide
  refine lv_aload_n hx hb dX6_note_0 rfl (lv_at hl 0 rfl) ?_
  refine m_get (C := RX6) (T := TX6) (N := 7) (ci := 6) hx hb hts in_X6_note_X6 hown hB m_sn h_sn rfl 5 (by decide) (hts (.fieldLink RX6 28 "PaperRoom$Seen" "entries" "I") (by decide +kernel)) (fun _ h9 => h9) rfl dX6_note_1 ?_
  refine lv_sipush (v := 200) hx hb dX6_note_4 (by decide) ?_
  refine m_callSNE (As := [.int (nI en), .int 200]) (rest := []) (c_isBelow_t l D ty L ad g _ _ (by omega) (by omega)) ⟨hx, hb, hml, hown, hts⟩ ⟨va_cnB 2 hts gX6_note_X8_isBelow_n35 rfl rfl rfl hB.2.1.2.2.2.2.2.2.2.1 (hts (.initialized RX8) (by decide +kernel)) (by decide +kernel) ⟨Nat.le_of_ble_eq_true rfl, Nat.le_of_ble_eq_true rfl⟩, hts (.static yX8_isBelow) (by decide +kernel), trivial⟩ hB rfl hl.1 rfl (Nat.le_of_ble_eq_true rfl) dX6_note_7 ⟨Nat.le_of_ble_eq_true rfl, Nat.le_of_ble_eq_true rfl⟩ (fun H locs hB => ?_)
  refine b_if_ne_t 24 hx hb dX6_note_10 (by decide) (by decide) ?_
  refine lv_aload_n hx hb dX6_note_24 rfl (lv_at hl 0 rfl) ?_
  refine m_get (C := RX6) (T := TX6) (N := 7) (ci := 6) hx hb hts in_X6_note_X6 hown hB m_sn h_sn rfl 5 (by decide) (hts (.fieldLink RX6 28 "PaperRoom$Seen" "entries" "I") (by decide +kernel)) (fun _ h9 => h9) rfl dX6_note_25 ?_
  refine b_if_ne_t 37 hx hb dX6_note_28 (by decide) (by have := (by decide : (0 : Int32).toInt = 0); omega) ?_
  refine lv_aload_n hx hb dX6_note_37 rfl (lv_at hl 0 rfl) ?_
  refine m_get (C := RX6) (T := TX6) (N := 7) (ci := 6) hx hb hts in_X6_note_X6 hown hB m_sn h_sn rfl 4 (by decide) (hts (.fieldLink RX6 24 "PaperRoom$Seen" "links" "[J") (by decide +kernel)) (fun _ h9 => h9) rfl dX6_note_38 ?_
  refine lv_aload_n hx hb dX6_note_41 rfl (lv_at hl 0 rfl) ?_
  refine m_get (C := RX6) (T := TX6) (N := 7) (ci := 6) hx hb hts in_X6_note_X6 hown hB m_sn h_sn rfl 5 (by decide) (hts (.fieldLink RX6 28 "PaperRoom$Seen" "entries" "I") (by decide +kernel)) (fun _ h9 => h9) rfl dX6_note_42 ?_
  refine lv_iconst (v := 1) hx hb dX6_note_45 (by decide) ?_
  refine lv_isub hx hb dX6_note_46 ?_
  refine b_topi (w := nI (en - 1)) (pk_sub (a := en) (b := 1) he0) ?_
  refine n_lald hx hb hB m_c4 h_c4 (en - 1) rfl (by omega) (by omega) dX6_note_47 ?_
  refine lv_lstore (lv' := [(5, .long (f4 (en - 1))), (0, .ref (ad sn)), (1, .int t), (2, .int b), (3, .int pq), (4, .int v)]) hx hb dX6_note_48 hl (by decide) rfl (fun ls hl => ?_)
  refine lv_aload_n hx hb dX6_note_50 rfl (lv_at hl 1 rfl) ?_
  refine m_get (C := RX6) (T := TX6) (N := 7) (ci := 6) hx hb hts in_X6_note_X6 hown hB m_sn h_sn rfl 0 (by decide) (hts (.fieldLink RX6 9 "PaperRoom$Seen" "ticks" "[I") (by decide +kernel)) (fun _ h9 => h9) rfl dX6_note_51 ?_
  refine lv_aload_n hx hb dX6_note_54 rfl (lv_at hl 1 rfl) ?_
  refine m_get (C := RX6) (T := TX6) (N := 7) (ci := 6) hx hb hts in_X6_note_X6 hown hB m_sn h_sn rfl 5 (by decide) (hts (.fieldLink RX6 28 "PaperRoom$Seen" "entries" "I") (by decide +kernel)) (fun _ h9 => h9) rfl dX6_note_55 ?_
  refine lv_iload_n hx hb dX6_note_58 rfl (lv_at hl 2 rfl) ?_
  refine n_iast hx hb hB m_c0 h_c0 en rfl (by omega) (by omega) dX6_note_59 (fun H locs hB => ?_)
  replace hB : m_B D ty A s L ad (va_up g c0 (.inl (ty 0, 200, .inl (upd f0 en t)))) H locs := hB
  refine lv_aload_n hx hb dX6_note_60 rfl (lv_at hl 1 rfl) ?_
  refine m_get (C := RX6) (T := TX6) (N := 7) (ci := 6) hx hb hts in_X6_note_X6 hown hB m_sn ((va_up_ne _ _ ne_sn_c0).trans h_sn) rfl 1 (by decide) (hts (.fieldLink RX6 15 "PaperRoom$Seen" "bidders" "[I") (by decide +kernel)) (fun _ h9 => h9) rfl dX6_note_61 ?_
  refine lv_aload_n hx hb dX6_note_64 rfl (lv_at hl 1 rfl) ?_
  refine m_get (C := RX6) (T := TX6) (N := 7) (ci := 6) hx hb hts in_X6_note_X6 hown hB m_sn ((va_up_ne _ _ ne_sn_c0).trans h_sn) rfl 5 (by decide) (hts (.fieldLink RX6 28 "PaperRoom$Seen" "entries" "I") (by decide +kernel)) (fun _ h9 => h9) rfl dX6_note_65 ?_
  refine lv_iload_n hx hb dX6_note_68 rfl (lv_at hl 3 rfl) ?_
  refine n_iast hx hb hB m_c1 ((va_up_ne _ _ (Ne.symm ne_c0_c1)).trans h_c1) en rfl (by omega) (by omega) dX6_note_69 (fun H locs hB => ?_)
  replace hB : m_B D ty A s L ad (va_up (va_up g c0 (.inl (ty 0, 200, .inl (upd f0 en t)))) c1 (.inl (ty 0, 200, .inl (upd f1 en b)))) H locs := hB
  refine lv_aload_n hx hb dX6_note_70 rfl (lv_at hl 1 rfl) ?_
  refine m_get (C := RX6) (T := TX6) (N := 7) (ci := 6) hx hb hts in_X6_note_X6 hown hB m_sn ((va_up_ne _ _ ne_sn_c1).trans ((va_up_ne _ _ ne_sn_c0).trans h_sn)) rfl 2 (by decide) (hts (.fieldLink RX6 18 "PaperRoom$Seen" "papers" "[I") (by decide +kernel)) (fun _ h9 => h9) rfl dX6_note_71 ?_
  refine lv_aload_n hx hb dX6_note_74 rfl (lv_at hl 1 rfl) ?_
  refine m_get (C := RX6) (T := TX6) (N := 7) (ci := 6) hx hb hts in_X6_note_X6 hown hB m_sn ((va_up_ne _ _ ne_sn_c1).trans ((va_up_ne _ _ ne_sn_c0).trans h_sn)) rfl 5 (by decide) (hts (.fieldLink RX6 28 "PaperRoom$Seen" "entries" "I") (by decide +kernel)) (fun _ h9 => h9) rfl dX6_note_75 ?_
  refine lv_iload_n hx hb dX6_note_78 rfl (lv_at hl 4 rfl) ?_
  refine n_iast hx hb hB m_c2 ((va_up_ne _ _ (Ne.symm ne_c1_c2)).trans ((va_up_ne _ _ (Ne.symm ne_c0_c2)).trans h_c2)) en rfl (by omega) (by omega) dX6_note_79 (fun H locs hB => ?_)
  replace hB : m_B D ty A s L ad (va_up (va_up (va_up g c0 (.inl (ty 0, 200, .inl (upd f0 en t)))) c1 (.inl (ty 0, 200, .inl (upd f1 en b)))) c2 (.inl (ty 0, 200, .inl (upd f2 en pq)))) H locs := hB
  refine lv_aload_n hx hb dX6_note_80 rfl (lv_at hl 1 rfl) ?_
  refine m_get (C := RX6) (T := TX6) (N := 7) (ci := 6) hx hb hts in_X6_note_X6 hown hB m_sn ((va_up_ne _ _ ne_sn_c2).trans ((va_up_ne _ _ ne_sn_c1).trans ((va_up_ne _ _ ne_sn_c0).trans h_sn))) rfl 3 (by decide) (hts (.fieldLink RX6 21 "PaperRoom$Seen" "versions" "[I") (by decide +kernel)) (fun _ h9 => h9) rfl dX6_note_81 ?_
  refine lv_aload_n hx hb dX6_note_84 rfl (lv_at hl 1 rfl) ?_
  refine m_get (C := RX6) (T := TX6) (N := 7) (ci := 6) hx hb hts in_X6_note_X6 hown hB m_sn ((va_up_ne _ _ ne_sn_c2).trans ((va_up_ne _ _ ne_sn_c1).trans ((va_up_ne _ _ ne_sn_c0).trans h_sn))) rfl 5 (by decide) (hts (.fieldLink RX6 28 "PaperRoom$Seen" "entries" "I") (by decide +kernel)) (fun _ h9 => h9) rfl dX6_note_85 ?_
  refine lv_iload hx hb dX6_note_88 (lv_at hl 5 rfl) ?_
  refine n_iast hx hb hB m_c3 ((va_up_ne _ _ (Ne.symm ne_c2_c3)).trans ((va_up_ne _ _ (Ne.symm ne_c1_c3)).trans ((va_up_ne _ _ (Ne.symm ne_c0_c3)).trans h_c3))) en rfl (by omega) (by omega) dX6_note_90 (fun H locs hB => ?_)
  replace hB : m_B D ty A s L ad (va_up (va_up (va_up (va_up g c0 (.inl (ty 0, 200, .inl (upd f0 en t)))) c1 (.inl (ty 0, 200, .inl (upd f1 en b)))) c2 (.inl (ty 0, 200, .inl (upd f2 en pq)))) c3 (.inl (ty 0, 200, .inl (upd f3 en v)))) H locs := hB
  refine lv_aload_n hx hb dX6_note_91 rfl (lv_at hl 1 rfl) ?_
  refine m_get (C := RX6) (T := TX6) (N := 7) (ci := 6) hx hb hts in_X6_note_X6 hown hB m_sn ((va_up_ne _ _ ne_sn_c3).trans ((va_up_ne _ _ ne_sn_c2).trans ((va_up_ne _ _ ne_sn_c1).trans ((va_up_ne _ _ ne_sn_c0).trans h_sn)))) rfl 4 (by decide) (hts (.fieldLink RX6 24 "PaperRoom$Seen" "links" "[J") (by decide +kernel)) (fun _ h9 => h9) rfl dX6_note_92 ?_
  refine lv_aload_n hx hb dX6_note_95 rfl (lv_at hl 1 rfl) ?_
  refine m_get (C := RX6) (T := TX6) (N := 7) (ci := 6) hx hb hts in_X6_note_X6 hown hB m_sn ((va_up_ne _ _ ne_sn_c3).trans ((va_up_ne _ _ ne_sn_c2).trans ((va_up_ne _ _ ne_sn_c1).trans ((va_up_ne _ _ ne_sn_c0).trans h_sn)))) rfl 5 (by decide) (hts (.fieldLink RX6 28 "PaperRoom$Seen" "entries" "I") (by decide +kernel)) (fun _ h9 => h9) rfl dX6_note_96 ?_
  refine lv_ldc2 hx hb hown (hts (.constantLong RX6 41 (31)) (by decide +kernel)) dX6_note_99 ?_
  refine lv_lload hx hb dX6_note_102 (lv_at hl 0 rfl) ?_
  refine lv_lmul hx hb dX6_note_104 ?_
  refine lv_ldc2 hx hb hown (hts (.constantLong RX6 43 (1000)) (by decide +kernel)) dX6_note_105 ?_
  refine lv_iload_n hx hb dX6_note_108 rfl (lv_at hl 2 rfl) ?_
  refine lv_i2l hx hb dX6_note_109 rfl ?_
  refine lv_lmul hx hb dX6_note_110 ?_
  refine lv_ladd hx hb dX6_note_111 ?_
  refine lv_ldc2 hx hb hown (hts (.constantLong RX6 45 (100)) (by decide +kernel)) dX6_note_112 ?_
  refine lv_iload_n hx hb dX6_note_115 rfl (lv_at hl 3 rfl) ?_
  refine lv_i2l hx hb dX6_note_116 rfl ?_
  refine lv_lmul hx hb dX6_note_117 ?_
  refine lv_ladd hx hb dX6_note_118 ?_
  refine lv_ldc2 hx hb hown (hts (.constantLong RX6 47 (10)) (by decide +kernel)) dX6_note_119 ?_
  refine lv_iload_n hx hb dX6_note_122 rfl (lv_at hl 4 rfl) ?_
  refine lv_i2l hx hb dX6_note_123 rfl ?_
  refine lv_lmul hx hb dX6_note_124 ?_
  refine lv_ladd hx hb dX6_note_125 ?_
  refine lv_iload hx hb dX6_note_126 (lv_at hl 5 rfl) ?_
  refine lv_i2l hx hb dX6_note_128 rfl ?_
  refine lv_ladd hx hb dX6_note_129 ?_
  refine n_last hx hb hB m_c4 ((va_up_ne _ _ (Ne.symm ne_c3_c4)).trans ((va_up_ne _ _ (Ne.symm ne_c2_c4)).trans ((va_up_ne _ _ (Ne.symm ne_c1_c4)).trans ((va_up_ne _ _ (Ne.symm ne_c0_c4)).trans h_c4)))) en rfl (by omega) (by omega) dX6_note_130 (fun H locs hB => ?_)
  replace hB : m_B D ty A s L ad (va_up (va_up (va_up (va_up (va_up g c0 (.inl (ty 0, 200, .inl (upd f0 en t)))) c1 (.inl (ty 0, 200, .inl (upd f1 en b)))) c2 (.inl (ty 0, 200, .inl (upd f2 en pq)))) c3 (.inl (ty 0, 200, .inl (upd f3 en v)))) c4 (.inl (ty 1, 200, .inr (.inl (vp_updL f4 en (((((31 * (f4 (en - 1))) + (1000 * t.toInt64)) + (100 * b.toInt64)) + (10 * pq.toInt64)) + v.toInt64)))))) H locs := hB
  refine lv_aload_n hx hb dX6_note_131 rfl (lv_at hl 1 rfl) ?_
  refine lv_dup hx hb dX6_note_132 rfl ?_
  refine m_get (C := RX6) (T := TX6) (N := 7) (ci := 6) hx hb hts in_X6_note_X6 hown hB m_sn ((va_up_ne _ _ ne_sn_c4).trans ((va_up_ne _ _ ne_sn_c3).trans ((va_up_ne _ _ ne_sn_c2).trans ((va_up_ne _ _ ne_sn_c1).trans ((va_up_ne _ _ ne_sn_c0).trans h_sn))))) rfl 5 (by decide) (hts (.fieldLink RX6 28 "PaperRoom$Seen" "entries" "I") (by decide +kernel)) (fun _ h9 => h9) rfl dX6_note_133 ?_
  refine lv_iconst (v := 1) hx hb dX6_note_136 (by decide) ?_
  refine lv_iadd hx hb dX6_note_137 ?_
  refine b_topi (w := nI (en + 1)) (nI_add en 1) ?_
  refine m_put (C := RX6) (T := TX6) (N := 7) (ci := 6) (v := .int (nI (en + 1))) (ft := .int) hx hb hts in_X6_note_X6 tyX6 tyX6_ok nmX6 hown hB m_sn ((va_up_ne _ _ ne_sn_c4).trans ((va_up_ne _ _ ne_sn_c3).trans ((va_up_ne _ _ ne_sn_c2).trans ((va_up_ne _ _ ne_sn_c1).trans ((va_up_ne _ _ ne_sn_c0).trans h_sn))))) rfl 5 (by decide) (hts (.fieldLink RX6 28 "PaperRoom$Seen" "entries" "I") (by decide +kernel)) (fun _ h9 => h9) rfl (by decide +kernel) rfl rfl (Nat.le_of_ble_eq_true rfl) dX6_note_138 (fun H locs hB => ?_)
  replace hB : m_B D ty A s L ad (va_up (va_up (va_up (va_up (va_up (va_up g c0 (.inl (ty 0, 200, .inl (upd f0 en t)))) c1 (.inl (ty 0, 200, .inl (upd f1 en b)))) c2 (.inl (ty 0, 200, .inl (upd f2 en pq)))) c3 (.inl (ty 0, 200, .inl (upd f3 en v)))) c4 (.inl (ty 1, 200, .inr (.inl (vp_updL f4 en (((((31 * (f4 (en - 1))) + (1000 * t.toInt64)) + (100 * b.toInt64)) + (10 * pq.toInt64)) + v.toInt64)))))) sn (.inr (6, [.ref (ad c0), .ref (ad c1), .ref (ad c2), .ref (ad c3), .ref (ad c4), .int (nI (en + 1)), .int ls0]))) H locs := hB
  exact m_vret hx hb hrt hlocks hB (Nat.le_refl _) (Nat.le_refl _) dX6_note_141 ⟨rfl, rfl, rfl, rfl⟩
set_option maxRecDepth 20000 in
theorem in_X6_readings_X6 : ∀ w ∈ wsX60, w ∈ wsX6_readings := by decide +kernel
set_option maxHeartbeats 1000000 in
set_option maxRecDepth 100000 in
theorem c_Seen_readings (l : Launch) (D : va_G) (ty : Nat → ClassId) (L : List Nat) (ad : Nat → Nat) (g : Nat → va_E) (sn c0 c1 c2 c3 c4 en : Nat) (ls0 : Int32) (f0 f1 f2 f3 : Nat → Int32) (f4 : Nat → Int64) (b pq v : Int32) (m_sn : sn ∈ L) (m_c0 : c0 ∈ L) (m_c1 : c1 ∈ L) (m_c2 : c2 ∈ L) (m_c3 : c3 ∈ L) (m_c4 : c4 ∈ L) (h_sn : g sn = .inr (6, [.ref (ad c0), .ref (ad c1), .ref (ad c2), .ref (ad c3), .ref (ad c4), .int (nI en), .int ls0])) (h_c0 : g c0 = .inl (ty 0, 200, .inl f0)) (h_c1 : g c1 = .inl (ty 0, 200, .inl f1)) (h_c2 : g c2 = .inl (ty 0, 200, .inl f2)) (h_c3 : g c3 = .inl (ty 0, 200, .inl f3)) (h_c4 : g c4 = .inl (ty 1, 200, .inr (.inl f4))) (he : en ≤ 200) : m_E l yX6_readings wsX6_readings 0 0 D ty [.ref (ad sn), .int b, .int pq, .int v] L ad g (some (.int (nI (rdc f1 f2 f3 b pq v en)))) g := by
  intro sz
  refine Met.ofW (cc := cX6_readings) (maxL := 6) (ret := (some .int)) (by decide) rfl ?_
  intro p e s m args below meth c s₁ B hml hv
  have hx := B.exec
  have hb := B.bytes
  have hrt := B.returns
  have hts := atoms_spec (ws := wsX6_readings) B.pre
  have hown : s.vm.findClass RX6 = some m.cls := findClass_of_methodNamed B.named
  have hlocks := B.notSynchronized
  obtain ⟨rfl, hB⟩ := m_start hv
  generalize va_A (m_w L ad g) sz = A at hB ⊢
  generalize s.heap = H at hB ⊢
  generalize ([] : List Loc) = locs at hB ⊢
  have hl := lv_entry ([.ref (ad sn), .int b, .int pq, .int v]) (n := 6) (Nat.le_of_ble_eq_true rfl)
  rw [lg_entry_eq]
  generalize (lg_sl ([.ref (ad sn), .int b, .int pq, .int v]) ++ List.replicate (6 - (lg_sl ([.ref (ad sn), .int b, .int pq, .int v])).length) Slot.unset).toArray = ls at hl ⊢
  have hl : lv_has ls 6 [(0, .ref (ad sn)), (1, .int b), (2, .int pq), (3, .int v)] := hl
  have tI_en : (nI en).toInt = (en : Int) := nI_toInt (by omega)
  have tI_200 : (200 : Int32).toInt = 200 := by decide
  refine lv_iconst (v := 0) hx hb dX6_readings_0 (by decide) ?_
  refine lv_istore (lv' := [(4, .int 0), (0, .ref (ad sn)), (1, .int b), (2, .int pq), (3, .int v)]) hx hb dX6_readings_1 hl (by decide) rfl (fun ls hl => ?_)
  refine lv_iconst (v := 0) hx hb dX6_readings_3 (by decide) ?_
  refine lv_istore (lv' := [(5, .int 0), (4, .int 0), (0, .ref (ad sn)), (1, .int b), (2, .int pq), (3, .int v)]) hx hb dX6_readings_4 hl (by decide) rfl (fun ls hl => ?_)
  replace hl : lv_has ls 6 [(0, .ref (ad sn)), (1, .int b), (2, .int pq), (3, .int v), (4, .int 0), (5, .int 0)] := lv_sub hl [2, 3, 4, 5, 1, 0] rfl
  obtain ⟨k, hk0⟩ : ∃ k : Nat, k = 0 := ⟨0, rfl⟩
  replace hl : lv_has ls 6 [(0, .ref (ad sn)), (1, .int b), (2, .int pq), (3, .int v), (4, .int (nI (rdc f1 f2 f3 b pq v k))), (5, .int (nI k))] := by rw [hk0]; exact hl
  obtain ⟨jz, hj⟩ : ∃ jz : Nat, k + jz = en := ⟨en - k, by omega⟩
  clear hk0
  induction jz generalizing k H locs ls with
  | zero =>
    have hje : k = en := by omega
    have tI_k : (nI k).toInt = (k : Int) := nI_toInt (by omega)
    refine lv_iload hx hb dX6_readings_6 (lv_at hl 5 rfl) ?_
    refine lv_aload_n hx hb dX6_readings_8 rfl (lv_at hl 0 rfl) ?_
    refine m_get (C := RX6) (T := TX6) (N := 7) (ci := 6) hx hb hts in_X6_readings_X6 hown hB m_sn h_sn rfl 5 (by decide) (hts (.fieldLink RX6 28 "PaperRoom$Seen" "entries" "I") (by decide +kernel)) (fun _ h9 => h9) rfl dX6_readings_9 ?_
    refine b_icmp_ge_t 65 hx hb dX6_readings_12 (by decide) (by omega) ?_
    refine lv_iload hx hb dX6_readings_65 (lv_at hl 4 rfl) ?_
    exact m_iret hx hb hrt hlocks hB (Nat.le_refl _) (Nat.le_refl _) dX6_readings_67 ⟨by rw [hje], rfl, rfl, rfl⟩
  | succ jz ihj =>
    have hjl : k < en := by omega
    have tI_k : (nI k).toInt = (k : Int) := nI_toInt (by omega)
    by_cases h1 : f1 k = b
    · skip
      by_cases h2 : f2 k = pq
      · skip
        by_cases h3 : f3 k = v
        · skip
          refine lv_iload hx hb dX6_readings_6 (lv_at hl 5 rfl) ?_
          refine lv_aload_n hx hb dX6_readings_8 rfl (lv_at hl 0 rfl) ?_
          refine m_get (C := RX6) (T := TX6) (N := 7) (ci := 6) hx hb hts in_X6_readings_X6 hown hB m_sn h_sn rfl 5 (by decide) (hts (.fieldLink RX6 28 "PaperRoom$Seen" "entries" "I") (by decide +kernel)) (fun _ h9 => h9) rfl dX6_readings_9 ?_
          refine b_icmp_ge_f 65 hx hb dX6_readings_12 (by decide) (by omega) ?_
          refine lv_iload hx hb dX6_readings_15 (lv_at hl 5 rfl) ?_
          refine lv_sipush (v := 200) hx hb dX6_readings_17 (by decide) ?_
          refine b_icmp_ge_f 65 hx hb dX6_readings_20 (by decide) (by have := (by decide : (200 : Int32).toInt = 200); omega) ?_
          refine lv_aload_n hx hb dX6_readings_23 rfl (lv_at hl 0 rfl) ?_
          refine m_get (C := RX6) (T := TX6) (N := 7) (ci := 6) hx hb hts in_X6_readings_X6 hown hB m_sn h_sn rfl 1 (by decide) (hts (.fieldLink RX6 15 "PaperRoom$Seen" "bidders" "[I") (by decide +kernel)) (fun _ h9 => h9) rfl dX6_readings_24 ?_
          refine lv_iload hx hb dX6_readings_27 (lv_at hl 5 rfl) ?_
          refine n_iald hx hb hB m_c1 h_c1 k rfl (by omega) (by omega) dX6_readings_29 ?_
          refine lv_iload_n hx hb dX6_readings_30 rfl (lv_at hl 1 rfl) ?_
          refine b_icmp_ne_f 59 hx hb dX6_readings_31 (by decide) (by rw [h1]) ?_
          refine lv_aload_n hx hb dX6_readings_34 rfl (lv_at hl 0 rfl) ?_
          refine m_get (C := RX6) (T := TX6) (N := 7) (ci := 6) hx hb hts in_X6_readings_X6 hown hB m_sn h_sn rfl 2 (by decide) (hts (.fieldLink RX6 18 "PaperRoom$Seen" "papers" "[I") (by decide +kernel)) (fun _ h9 => h9) rfl dX6_readings_35 ?_
          refine lv_iload hx hb dX6_readings_38 (lv_at hl 5 rfl) ?_
          refine n_iald hx hb hB m_c2 h_c2 k rfl (by omega) (by omega) dX6_readings_40 ?_
          refine lv_iload_n hx hb dX6_readings_41 rfl (lv_at hl 2 rfl) ?_
          refine b_icmp_ne_f 59 hx hb dX6_readings_42 (by decide) (by rw [h2]) ?_
          refine lv_aload_n hx hb dX6_readings_45 rfl (lv_at hl 0 rfl) ?_
          refine m_get (C := RX6) (T := TX6) (N := 7) (ci := 6) hx hb hts in_X6_readings_X6 hown hB m_sn h_sn rfl 3 (by decide) (hts (.fieldLink RX6 21 "PaperRoom$Seen" "versions" "[I") (by decide +kernel)) (fun _ h9 => h9) rfl dX6_readings_46 ?_
          refine lv_iload hx hb dX6_readings_49 (lv_at hl 5 rfl) ?_
          refine n_iald hx hb hB m_c3 h_c3 k rfl (by omega) (by omega) dX6_readings_51 ?_
          refine lv_iload_n hx hb dX6_readings_52 rfl (lv_at hl 3 rfl) ?_
          refine b_icmp_ne_f 59 hx hb dX6_readings_53 (by decide) (by rw [h3]) ?_
          refine lv_iinc (v := nI (rdc f1 f2 f3 b pq v (k + 1))) (lv' := [(4, .int (nI (rdc f1 f2 f3 b pq v (k + 1)))), (0, .ref (ad sn)), (1, .int b), (2, .int pq), (3, .int v), (5, .int (nI k))]) hx hb dX6_readings_56 hl (k := 4) rfl (by rw [rdc_1 ⟨h1, h2, h3⟩]; exact nI_add _ 1) (by decide) rfl (fun ls hl => ?_)
          refine lv_iinc (v := nI (k + 1)) (lv' := [(5, .int (nI (k + 1))), (4, .int (nI (rdc f1 f2 f3 b pq v (k + 1)))), (0, .ref (ad sn)), (1, .int b), (2, .int pq), (3, .int v)]) hx hb dX6_readings_59 hl (k := 5) rfl (nI_add k 1) (by decide) rfl (fun ls hl => ?_)
          refine lv_goto (tgt := 6) hx hb dX6_readings_62 (by decide) ?_
          have hl : lv_has ls 6 [(0, .ref (ad sn)), (1, .int b), (2, .int pq), (3, .int v), (4, .int (nI (rdc f1 f2 f3 b pq v (k + 1)))), (5, .int (nI (k + 1)))] := lv_sub hl [2, 3, 4, 5, 1, 0] rfl
          apply ihj (k := (k + 1)) (H := H) (locs := locs) (ls := ls) <;> first | omega | exact hB | exact hl
        · skip
          have h9 : ¬ (f1 k = b ∧ f2 k = pq ∧ f3 k = v) := fun h => h3 h.2.2
          have e9 := rdc_0 h9
          refine lv_iload hx hb dX6_readings_6 (lv_at hl 5 rfl) ?_
          refine lv_aload_n hx hb dX6_readings_8 rfl (lv_at hl 0 rfl) ?_
          refine m_get (C := RX6) (T := TX6) (N := 7) (ci := 6) hx hb hts in_X6_readings_X6 hown hB m_sn h_sn rfl 5 (by decide) (hts (.fieldLink RX6 28 "PaperRoom$Seen" "entries" "I") (by decide +kernel)) (fun _ h9 => h9) rfl dX6_readings_9 ?_
          refine b_icmp_ge_f 65 hx hb dX6_readings_12 (by decide) (by omega) ?_
          refine lv_iload hx hb dX6_readings_15 (lv_at hl 5 rfl) ?_
          refine lv_sipush (v := 200) hx hb dX6_readings_17 (by decide) ?_
          refine b_icmp_ge_f 65 hx hb dX6_readings_20 (by decide) (by have := (by decide : (200 : Int32).toInt = 200); omega) ?_
          refine lv_aload_n hx hb dX6_readings_23 rfl (lv_at hl 0 rfl) ?_
          refine m_get (C := RX6) (T := TX6) (N := 7) (ci := 6) hx hb hts in_X6_readings_X6 hown hB m_sn h_sn rfl 1 (by decide) (hts (.fieldLink RX6 15 "PaperRoom$Seen" "bidders" "[I") (by decide +kernel)) (fun _ h9 => h9) rfl dX6_readings_24 ?_
          refine lv_iload hx hb dX6_readings_27 (lv_at hl 5 rfl) ?_
          refine n_iald hx hb hB m_c1 h_c1 k rfl (by omega) (by omega) dX6_readings_29 ?_
          refine lv_iload_n hx hb dX6_readings_30 rfl (lv_at hl 1 rfl) ?_
          refine b_icmp_ne_f 59 hx hb dX6_readings_31 (by decide) (by rw [h1]) ?_
          refine lv_aload_n hx hb dX6_readings_34 rfl (lv_at hl 0 rfl) ?_
          refine m_get (C := RX6) (T := TX6) (N := 7) (ci := 6) hx hb hts in_X6_readings_X6 hown hB m_sn h_sn rfl 2 (by decide) (hts (.fieldLink RX6 18 "PaperRoom$Seen" "papers" "[I") (by decide +kernel)) (fun _ h9 => h9) rfl dX6_readings_35 ?_
          refine lv_iload hx hb dX6_readings_38 (lv_at hl 5 rfl) ?_
          refine n_iald hx hb hB m_c2 h_c2 k rfl (by omega) (by omega) dX6_readings_40 ?_
          refine lv_iload_n hx hb dX6_readings_41 rfl (lv_at hl 2 rfl) ?_
          refine b_icmp_ne_f 59 hx hb dX6_readings_42 (by decide) (by rw [h2]) ?_
          refine lv_aload_n hx hb dX6_readings_45 rfl (lv_at hl 0 rfl) ?_
          refine m_get (C := RX6) (T := TX6) (N := 7) (ci := 6) hx hb hts in_X6_readings_X6 hown hB m_sn h_sn rfl 3 (by decide) (hts (.fieldLink RX6 21 "PaperRoom$Seen" "versions" "[I") (by decide +kernel)) (fun _ h9 => h9) rfl dX6_readings_46 ?_
          refine lv_iload hx hb dX6_readings_49 (lv_at hl 5 rfl) ?_
          refine n_iald hx hb hB m_c3 h_c3 k rfl (by omega) (by omega) dX6_readings_51 ?_
          refine lv_iload_n hx hb dX6_readings_52 rfl (lv_at hl 3 rfl) ?_
          refine b_icmp_ne_t 59 hx hb dX6_readings_53 (by decide) (fun h8 => h3 ((i_eq _ _).mpr h8)) ?_
          refine lv_iinc (v := nI (k + 1)) (lv' := [(5, .int (nI (k + 1))), (0, .ref (ad sn)), (1, .int b), (2, .int pq), (3, .int v), (4, .int (nI (rdc f1 f2 f3 b pq v k)))]) hx hb dX6_readings_59 hl (k := 5) rfl (nI_add k 1) (by decide) rfl (fun ls hl => ?_)
          refine lv_goto (tgt := 6) hx hb dX6_readings_62 (by decide) ?_
          rw [← e9] at hl
          have hl : lv_has ls 6 [(0, .ref (ad sn)), (1, .int b), (2, .int pq), (3, .int v), (4, .int (nI (rdc f1 f2 f3 b pq v (k + 1)))), (5, .int (nI (k + 1)))] := lv_sub hl [1, 2, 3, 4, 5, 0] rfl
          apply ihj (k := (k + 1)) (H := H) (locs := locs) (ls := ls) <;> first | omega | exact hB | exact hl
      · skip
        have h9 : ¬ (f1 k = b ∧ f2 k = pq ∧ f3 k = v) := fun h => h2 h.2.1
        have e9 := rdc_0 h9
        refine lv_iload hx hb dX6_readings_6 (lv_at hl 5 rfl) ?_
        refine lv_aload_n hx hb dX6_readings_8 rfl (lv_at hl 0 rfl) ?_
        refine m_get (C := RX6) (T := TX6) (N := 7) (ci := 6) hx hb hts in_X6_readings_X6 hown hB m_sn h_sn rfl 5 (by decide) (hts (.fieldLink RX6 28 "PaperRoom$Seen" "entries" "I") (by decide +kernel)) (fun _ h9 => h9) rfl dX6_readings_9 ?_
        refine b_icmp_ge_f 65 hx hb dX6_readings_12 (by decide) (by omega) ?_
        refine lv_iload hx hb dX6_readings_15 (lv_at hl 5 rfl) ?_
        refine lv_sipush (v := 200) hx hb dX6_readings_17 (by decide) ?_
        refine b_icmp_ge_f 65 hx hb dX6_readings_20 (by decide) (by have := (by decide : (200 : Int32).toInt = 200); omega) ?_
        refine lv_aload_n hx hb dX6_readings_23 rfl (lv_at hl 0 rfl) ?_
        refine m_get (C := RX6) (T := TX6) (N := 7) (ci := 6) hx hb hts in_X6_readings_X6 hown hB m_sn h_sn rfl 1 (by decide) (hts (.fieldLink RX6 15 "PaperRoom$Seen" "bidders" "[I") (by decide +kernel)) (fun _ h9 => h9) rfl dX6_readings_24 ?_
        refine lv_iload hx hb dX6_readings_27 (lv_at hl 5 rfl) ?_
        refine n_iald hx hb hB m_c1 h_c1 k rfl (by omega) (by omega) dX6_readings_29 ?_
        refine lv_iload_n hx hb dX6_readings_30 rfl (lv_at hl 1 rfl) ?_
        refine b_icmp_ne_f 59 hx hb dX6_readings_31 (by decide) (by rw [h1]) ?_
        refine lv_aload_n hx hb dX6_readings_34 rfl (lv_at hl 0 rfl) ?_
        refine m_get (C := RX6) (T := TX6) (N := 7) (ci := 6) hx hb hts in_X6_readings_X6 hown hB m_sn h_sn rfl 2 (by decide) (hts (.fieldLink RX6 18 "PaperRoom$Seen" "papers" "[I") (by decide +kernel)) (fun _ h9 => h9) rfl dX6_readings_35 ?_
        refine lv_iload hx hb dX6_readings_38 (lv_at hl 5 rfl) ?_
        refine n_iald hx hb hB m_c2 h_c2 k rfl (by omega) (by omega) dX6_readings_40 ?_
        refine lv_iload_n hx hb dX6_readings_41 rfl (lv_at hl 2 rfl) ?_
        refine b_icmp_ne_t 59 hx hb dX6_readings_42 (by decide) (fun h8 => h2 ((i_eq _ _).mpr h8)) ?_
        refine lv_iinc (v := nI (k + 1)) (lv' := [(5, .int (nI (k + 1))), (0, .ref (ad sn)), (1, .int b), (2, .int pq), (3, .int v), (4, .int (nI (rdc f1 f2 f3 b pq v k)))]) hx hb dX6_readings_59 hl (k := 5) rfl (nI_add k 1) (by decide) rfl (fun ls hl => ?_)
        refine lv_goto (tgt := 6) hx hb dX6_readings_62 (by decide) ?_
        rw [← e9] at hl
        have hl : lv_has ls 6 [(0, .ref (ad sn)), (1, .int b), (2, .int pq), (3, .int v), (4, .int (nI (rdc f1 f2 f3 b pq v (k + 1)))), (5, .int (nI (k + 1)))] := lv_sub hl [1, 2, 3, 4, 5, 0] rfl
        apply ihj (k := (k + 1)) (H := H) (locs := locs) (ls := ls) <;> first | omega | exact hB | exact hl
    · skip
      have h9 : ¬ (f1 k = b ∧ f2 k = pq ∧ f3 k = v) := fun h => h1 h.1
      have e9 := rdc_0 h9
      refine lv_iload hx hb dX6_readings_6 (lv_at hl 5 rfl) ?_
      refine lv_aload_n hx hb dX6_readings_8 rfl (lv_at hl 0 rfl) ?_
      refine m_get (C := RX6) (T := TX6) (N := 7) (ci := 6) hx hb hts in_X6_readings_X6 hown hB m_sn h_sn rfl 5 (by decide) (hts (.fieldLink RX6 28 "PaperRoom$Seen" "entries" "I") (by decide +kernel)) (fun _ h9 => h9) rfl dX6_readings_9 ?_
      refine b_icmp_ge_f 65 hx hb dX6_readings_12 (by decide) (by omega) ?_
      refine lv_iload hx hb dX6_readings_15 (lv_at hl 5 rfl) ?_
      refine lv_sipush (v := 200) hx hb dX6_readings_17 (by decide) ?_
      refine b_icmp_ge_f 65 hx hb dX6_readings_20 (by decide) (by have := (by decide : (200 : Int32).toInt = 200); omega) ?_
      refine lv_aload_n hx hb dX6_readings_23 rfl (lv_at hl 0 rfl) ?_
      refine m_get (C := RX6) (T := TX6) (N := 7) (ci := 6) hx hb hts in_X6_readings_X6 hown hB m_sn h_sn rfl 1 (by decide) (hts (.fieldLink RX6 15 "PaperRoom$Seen" "bidders" "[I") (by decide +kernel)) (fun _ h9 => h9) rfl dX6_readings_24 ?_
      refine lv_iload hx hb dX6_readings_27 (lv_at hl 5 rfl) ?_
      refine n_iald hx hb hB m_c1 h_c1 k rfl (by omega) (by omega) dX6_readings_29 ?_
      refine lv_iload_n hx hb dX6_readings_30 rfl (lv_at hl 1 rfl) ?_
      refine b_icmp_ne_t 59 hx hb dX6_readings_31 (by decide) (fun h8 => h1 ((i_eq _ _).mpr h8)) ?_
      refine lv_iinc (v := nI (k + 1)) (lv' := [(5, .int (nI (k + 1))), (0, .ref (ad sn)), (1, .int b), (2, .int pq), (3, .int v), (4, .int (nI (rdc f1 f2 f3 b pq v k)))]) hx hb dX6_readings_59 hl (k := 5) rfl (nI_add k 1) (by decide) rfl (fun ls hl => ?_)
      refine lv_goto (tgt := 6) hx hb dX6_readings_62 (by decide) ?_
      rw [← e9] at hl
      have hl : lv_has ls 6 [(0, .ref (ad sn)), (1, .int b), (2, .int pq), (3, .int v), (4, .int (nI (rdc f1 f2 f3 b pq v (k + 1)))), (5, .int (nI (k + 1)))] := lv_sub hl [1, 2, 3, 4, 5, 0] rfl
      apply ihj (k := (k + 1)) (H := H) (locs := locs) (ls := ls) <;> first | omega | exact hB | exact hl
