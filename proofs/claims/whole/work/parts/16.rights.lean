set_option maxRecDepth 20000 in
theorem in_X4_cover_X4 : ∀ w ∈ wsX40, w ∈ wsX4_cover := by decide +kernel
set_option maxHeartbeats 1000000 in
set_option maxRecDepth 100000 in
theorem c_Rights_cover (l : Launch) (D : va_G) (ty : Nat → ClassId) (L : List Nat) (ad : Nat → Nat) (g : Nat → va_E) (rg st en : Nat) (fs fe : Nat → Int32) (x f : Nat) (nw : Int32) (m_rg : rg ∈ L) (m_st : st ∈ L) (m_en : en ∈ L) (h_rg : g rg = .inr (4, [.ref (ad st), .ref (ad en)])) (h_st : g st = .inl (ty 0, 12, .inl fs)) (h_en : g en = .inl (ty 0, 12, .inl fe)) (hx3 : x < 3) (hf4 : f < 4) : m_E l yX4_cover wsX4_cover 1 21 D ty [.ref (ad rg), .int (nI x), .int (nI f), .int nw] L ad g (some (.int (zb (cv fs fe (x * 4 + f) nw)))) g := by
  intro sz
  refine Met.ofW (cc := cX4_cover) (maxL := 5) (ret := (some .boolean)) (by decide) rfl ?_
  intro p e s m args below meth c s₁ B hml hv
  have hx := B.exec
  have hb := B.bytes
  have hrt := B.returns
  have hts := atoms_spec (ws := wsX4_cover) B.pre
  have hown : s.vm.findClass RX4 = some m.cls := findClass_of_methodNamed B.named
  have hlocks := B.notSynchronized
  obtain ⟨rfl, hB⟩ := m_start hv
  generalize va_A (m_w L ad g) sz = A at hB ⊢
  generalize s.heap = H at hB ⊢
  generalize ([] : List Loc) = locs at hB ⊢
  have hl := lv_entry ([.ref (ad rg), .int (nI x), .int (nI f), .int nw]) (n := 5) (Nat.le_of_ble_eq_true rfl)
  rw [lg_entry_eq]
  generalize (lg_sl ([.ref (ad rg), .int (nI x), .int (nI f), .int nw]) ++ List.replicate (5 - (lg_sl ([.ref (ad rg), .int (nI x), .int (nI f), .int nw])).length) Slot.unset).toArray = ls at hl ⊢
  have hl : lv_has ls 5 [(0, .ref (ad rg)), (1, .int (nI x)), (2, .int (nI f)), (3, .int nw)] := hl
  have tI_x : (nI (x * 4 + f)).toInt = ((x * 4 + f : Nat) : Int) := nI_toInt (by omega)
  have tI_12 : (nI 12).toInt = 12 := by decide
  rcases (show nw.toInt < (fs (x * 4 + f)).toInt ∨ (¬ nw.toInt < (fs (x * 4 + f)).toInt ∧ (fe (x * 4 + f)).toInt ≤ nw.toInt) ∨ (¬ nw.toInt < (fs (x * 4 + f)).toInt ∧ ¬ (fe (x * 4 + f)).toInt ≤ nw.toInt) by omega) with h9 | h9 | h9
  · skip
    refine lv_iload_n hx hb dX4_cover_0 rfl (lv_at hl 1 rfl) ?_
    refine lv_iconst (v := 4) hx hb dX4_cover_1 (by decide) ?_
    refine lv_imul hx hb dX4_cover_2 ?_
    refine b_topi (w := nI (x * 4)) (pk_mul x 4) ?_
    refine lv_iload_n hx hb dX4_cover_3 rfl (lv_at hl 2 rfl) ?_
    refine lv_iadd hx hb dX4_cover_4 ?_
    refine b_topi (w := nI ((x * 4) + f)) (nI_add (x * 4) f) ?_
    refine lv_istore (lv' := [(4, .int (nI ((x * 4) + f))), (0, .ref (ad rg)), (1, .int (nI x)), (2, .int (nI f)), (3, .int nw)]) hx hb dX4_cover_5 hl (by decide) rfl (fun ls hl => ?_)
    refine lv_iload hx hb dX4_cover_7 (lv_at hl 0 rfl) ?_
    refine lv_aload_n hx hb dX4_cover_9 rfl (lv_at hl 1 rfl) ?_
    refine m_get (C := RX4) (T := TX4) (N := 2) (ci := 4) hx hb hts in_X4_cover_X4 hown hB m_rg h_rg rfl 0 (by decide) (hts (.fieldLink RX4 9 "PaperRoom$Rights" "starts" "[I") (by decide +kernel)) (fun _ h9 => h9) rfl dX4_cover_10 ?_
    refine m_alen hx hb hB m_st 0 h_st rfl (v := nI 12) rfl dX4_cover_13 ?_
    refine m_callSNE (As := [.int (nI ((x * 4) + f)), .int (nI 12)]) (rest := []) (c_isBelow_t l D ty L ad g _ _ (by omega) (by omega)) ⟨hx, hb, hml, hown, hts⟩ ⟨va_cnB 2 hts gX4_cover_X8_isBelow_n18 rfl rfl rfl hB.2.1.2.2.2.2.2.1 (hts (.initialized RX8) (by decide +kernel)) (by decide +kernel) ⟨Nat.le_of_ble_eq_true rfl, Nat.le_of_ble_eq_true rfl⟩, hts (.static yX8_isBelow) (by decide +kernel), trivial⟩ hB rfl hl.1 rfl (Nat.le_of_ble_eq_true rfl) dX4_cover_14 ⟨Nat.le_of_ble_eq_true rfl, Nat.le_of_ble_eq_true rfl⟩ (fun H locs hB => ?_)
    refine b_if_eq_f 56 hx hb dX4_cover_17 (by decide) (by decide) ?_
    refine lv_iload hx hb dX4_cover_20 (lv_at hl 0 rfl) ?_
    refine lv_aload_n hx hb dX4_cover_22 rfl (lv_at hl 1 rfl) ?_
    refine m_get (C := RX4) (T := TX4) (N := 2) (ci := 4) hx hb hts in_X4_cover_X4 hown hB m_rg h_rg rfl 1 (by decide) (hts (.fieldLink RX4 15 "PaperRoom$Rights" "ends" "[I") (by decide +kernel)) (fun _ h9 => h9) rfl dX4_cover_23 ?_
    refine m_alen hx hb hB m_en 0 h_en rfl (v := nI 12) rfl dX4_cover_26 ?_
    refine b_icmp_ge_f 56 hx hb dX4_cover_27 (by decide) (by omega) ?_
    refine lv_iload_n hx hb dX4_cover_30 rfl (lv_at hl 4 rfl) ?_
    refine lv_aload_n hx hb dX4_cover_31 rfl (lv_at hl 1 rfl) ?_
    refine m_get (C := RX4) (T := TX4) (N := 2) (ci := 4) hx hb hts in_X4_cover_X4 hown hB m_rg h_rg rfl 0 (by decide) (hts (.fieldLink RX4 9 "PaperRoom$Rights" "starts" "[I") (by decide +kernel)) (fun _ h9 => h9) rfl dX4_cover_32 ?_
    refine lv_iload hx hb dX4_cover_35 (lv_at hl 0 rfl) ?_
    refine n_iald hx hb hB m_st h_st ((x * 4) + f) rfl (by omega) (by omega) dX4_cover_37 ?_
    refine b_icmp_lt_t 56 hx hb dX4_cover_38 (by decide) (by omega) ?_
    refine lv_iconst (v := 0) hx hb dX4_cover_56 (by decide) ?_
    exact m_zret hx hb hrt hlocks hB (Nat.le_refl _) (Nat.le_refl _) dX4_cover_57 rfl ⟨by rw [zb_f (b := cv fs fe (x * 4 + f) nw) (by rw [cv, df (by omega)]; rfl)], rfl, rfl, rfl⟩
  · skip
    refine lv_iload_n hx hb dX4_cover_0 rfl (lv_at hl 1 rfl) ?_
    refine lv_iconst (v := 4) hx hb dX4_cover_1 (by decide) ?_
    refine lv_imul hx hb dX4_cover_2 ?_
    refine b_topi (w := nI (x * 4)) (pk_mul x 4) ?_
    refine lv_iload_n hx hb dX4_cover_3 rfl (lv_at hl 2 rfl) ?_
    refine lv_iadd hx hb dX4_cover_4 ?_
    refine b_topi (w := nI ((x * 4) + f)) (nI_add (x * 4) f) ?_
    refine lv_istore (lv' := [(4, .int (nI ((x * 4) + f))), (0, .ref (ad rg)), (1, .int (nI x)), (2, .int (nI f)), (3, .int nw)]) hx hb dX4_cover_5 hl (by decide) rfl (fun ls hl => ?_)
    refine lv_iload hx hb dX4_cover_7 (lv_at hl 0 rfl) ?_
    refine lv_aload_n hx hb dX4_cover_9 rfl (lv_at hl 1 rfl) ?_
    refine m_get (C := RX4) (T := TX4) (N := 2) (ci := 4) hx hb hts in_X4_cover_X4 hown hB m_rg h_rg rfl 0 (by decide) (hts (.fieldLink RX4 9 "PaperRoom$Rights" "starts" "[I") (by decide +kernel)) (fun _ h9 => h9) rfl dX4_cover_10 ?_
    refine m_alen hx hb hB m_st 0 h_st rfl (v := nI 12) rfl dX4_cover_13 ?_
    refine m_callSNE (As := [.int (nI ((x * 4) + f)), .int (nI 12)]) (rest := []) (c_isBelow_t l D ty L ad g _ _ (by omega) (by omega)) ⟨hx, hb, hml, hown, hts⟩ ⟨va_cnB 2 hts gX4_cover_X8_isBelow_n18 rfl rfl rfl hB.2.1.2.2.2.2.2.1 (hts (.initialized RX8) (by decide +kernel)) (by decide +kernel) ⟨Nat.le_of_ble_eq_true rfl, Nat.le_of_ble_eq_true rfl⟩, hts (.static yX8_isBelow) (by decide +kernel), trivial⟩ hB rfl hl.1 rfl (Nat.le_of_ble_eq_true rfl) dX4_cover_14 ⟨Nat.le_of_ble_eq_true rfl, Nat.le_of_ble_eq_true rfl⟩ (fun H locs hB => ?_)
    refine b_if_eq_f 56 hx hb dX4_cover_17 (by decide) (by decide) ?_
    refine lv_iload hx hb dX4_cover_20 (lv_at hl 0 rfl) ?_
    refine lv_aload_n hx hb dX4_cover_22 rfl (lv_at hl 1 rfl) ?_
    refine m_get (C := RX4) (T := TX4) (N := 2) (ci := 4) hx hb hts in_X4_cover_X4 hown hB m_rg h_rg rfl 1 (by decide) (hts (.fieldLink RX4 15 "PaperRoom$Rights" "ends" "[I") (by decide +kernel)) (fun _ h9 => h9) rfl dX4_cover_23 ?_
    refine m_alen hx hb hB m_en 0 h_en rfl (v := nI 12) rfl dX4_cover_26 ?_
    refine b_icmp_ge_f 56 hx hb dX4_cover_27 (by decide) (by omega) ?_
    refine lv_iload_n hx hb dX4_cover_30 rfl (lv_at hl 4 rfl) ?_
    refine lv_aload_n hx hb dX4_cover_31 rfl (lv_at hl 1 rfl) ?_
    refine m_get (C := RX4) (T := TX4) (N := 2) (ci := 4) hx hb hts in_X4_cover_X4 hown hB m_rg h_rg rfl 0 (by decide) (hts (.fieldLink RX4 9 "PaperRoom$Rights" "starts" "[I") (by decide +kernel)) (fun _ h9 => h9) rfl dX4_cover_32 ?_
    refine lv_iload hx hb dX4_cover_35 (lv_at hl 0 rfl) ?_
    refine n_iald hx hb hB m_st h_st ((x * 4) + f) rfl (by omega) (by omega) dX4_cover_37 ?_
    refine b_icmp_lt_f 56 hx hb dX4_cover_38 (by decide) (by omega) ?_
    refine lv_iload_n hx hb dX4_cover_41 rfl (lv_at hl 4 rfl) ?_
    refine lv_aload_n hx hb dX4_cover_42 rfl (lv_at hl 1 rfl) ?_
    refine m_get (C := RX4) (T := TX4) (N := 2) (ci := 4) hx hb hts in_X4_cover_X4 hown hB m_rg h_rg rfl 1 (by decide) (hts (.fieldLink RX4 15 "PaperRoom$Rights" "ends" "[I") (by decide +kernel)) (fun _ h9 => h9) rfl dX4_cover_43 ?_
    refine lv_iload hx hb dX4_cover_46 (lv_at hl 0 rfl) ?_
    refine n_iald hx hb hB m_en h_en ((x * 4) + f) rfl (by omega) (by omega) dX4_cover_48 ?_
    refine b_icmp_ge_t 56 hx hb dX4_cover_49 (by decide) (by omega) ?_
    refine lv_iconst (v := 0) hx hb dX4_cover_56 (by decide) ?_
    exact m_zret hx hb hrt hlocks hB (Nat.le_refl _) (Nat.le_refl _) dX4_cover_57 rfl ⟨by rw [zb_f (b := cv fs fe (x * 4 + f) nw) (by rw [cv, df (P := nw.toInt < _) (by omega)]; simp)], rfl, rfl, rfl⟩
  · skip
    refine lv_iload_n hx hb dX4_cover_0 rfl (lv_at hl 1 rfl) ?_
    refine lv_iconst (v := 4) hx hb dX4_cover_1 (by decide) ?_
    refine lv_imul hx hb dX4_cover_2 ?_
    refine b_topi (w := nI (x * 4)) (pk_mul x 4) ?_
    refine lv_iload_n hx hb dX4_cover_3 rfl (lv_at hl 2 rfl) ?_
    refine lv_iadd hx hb dX4_cover_4 ?_
    refine b_topi (w := nI ((x * 4) + f)) (nI_add (x * 4) f) ?_
    refine lv_istore (lv' := [(4, .int (nI ((x * 4) + f))), (0, .ref (ad rg)), (1, .int (nI x)), (2, .int (nI f)), (3, .int nw)]) hx hb dX4_cover_5 hl (by decide) rfl (fun ls hl => ?_)
    refine lv_iload hx hb dX4_cover_7 (lv_at hl 0 rfl) ?_
    refine lv_aload_n hx hb dX4_cover_9 rfl (lv_at hl 1 rfl) ?_
    refine m_get (C := RX4) (T := TX4) (N := 2) (ci := 4) hx hb hts in_X4_cover_X4 hown hB m_rg h_rg rfl 0 (by decide) (hts (.fieldLink RX4 9 "PaperRoom$Rights" "starts" "[I") (by decide +kernel)) (fun _ h9 => h9) rfl dX4_cover_10 ?_
    refine m_alen hx hb hB m_st 0 h_st rfl (v := nI 12) rfl dX4_cover_13 ?_
    refine m_callSNE (As := [.int (nI ((x * 4) + f)), .int (nI 12)]) (rest := []) (c_isBelow_t l D ty L ad g _ _ (by omega) (by omega)) ⟨hx, hb, hml, hown, hts⟩ ⟨va_cnB 2 hts gX4_cover_X8_isBelow_n18 rfl rfl rfl hB.2.1.2.2.2.2.2.1 (hts (.initialized RX8) (by decide +kernel)) (by decide +kernel) ⟨Nat.le_of_ble_eq_true rfl, Nat.le_of_ble_eq_true rfl⟩, hts (.static yX8_isBelow) (by decide +kernel), trivial⟩ hB rfl hl.1 rfl (Nat.le_of_ble_eq_true rfl) dX4_cover_14 ⟨Nat.le_of_ble_eq_true rfl, Nat.le_of_ble_eq_true rfl⟩ (fun H locs hB => ?_)
    refine b_if_eq_f 56 hx hb dX4_cover_17 (by decide) (by decide) ?_
    refine lv_iload hx hb dX4_cover_20 (lv_at hl 0 rfl) ?_
    refine lv_aload_n hx hb dX4_cover_22 rfl (lv_at hl 1 rfl) ?_
    refine m_get (C := RX4) (T := TX4) (N := 2) (ci := 4) hx hb hts in_X4_cover_X4 hown hB m_rg h_rg rfl 1 (by decide) (hts (.fieldLink RX4 15 "PaperRoom$Rights" "ends" "[I") (by decide +kernel)) (fun _ h9 => h9) rfl dX4_cover_23 ?_
    refine m_alen hx hb hB m_en 0 h_en rfl (v := nI 12) rfl dX4_cover_26 ?_
    refine b_icmp_ge_f 56 hx hb dX4_cover_27 (by decide) (by omega) ?_
    refine lv_iload_n hx hb dX4_cover_30 rfl (lv_at hl 4 rfl) ?_
    refine lv_aload_n hx hb dX4_cover_31 rfl (lv_at hl 1 rfl) ?_
    refine m_get (C := RX4) (T := TX4) (N := 2) (ci := 4) hx hb hts in_X4_cover_X4 hown hB m_rg h_rg rfl 0 (by decide) (hts (.fieldLink RX4 9 "PaperRoom$Rights" "starts" "[I") (by decide +kernel)) (fun _ h9 => h9) rfl dX4_cover_32 ?_
    refine lv_iload hx hb dX4_cover_35 (lv_at hl 0 rfl) ?_
    refine n_iald hx hb hB m_st h_st ((x * 4) + f) rfl (by omega) (by omega) dX4_cover_37 ?_
    refine b_icmp_lt_f 56 hx hb dX4_cover_38 (by decide) (by omega) ?_
    refine lv_iload_n hx hb dX4_cover_41 rfl (lv_at hl 4 rfl) ?_
    refine lv_aload_n hx hb dX4_cover_42 rfl (lv_at hl 1 rfl) ?_
    refine m_get (C := RX4) (T := TX4) (N := 2) (ci := 4) hx hb hts in_X4_cover_X4 hown hB m_rg h_rg rfl 1 (by decide) (hts (.fieldLink RX4 15 "PaperRoom$Rights" "ends" "[I") (by decide +kernel)) (fun _ h9 => h9) rfl dX4_cover_43 ?_
    refine lv_iload hx hb dX4_cover_46 (lv_at hl 0 rfl) ?_
    refine n_iald hx hb hB m_en h_en ((x * 4) + f) rfl (by omega) (by omega) dX4_cover_48 ?_
    refine b_icmp_ge_f 56 hx hb dX4_cover_49 (by decide) (by omega) ?_
    refine lv_iconst (v := 1) hx hb dX4_cover_52 (by decide) ?_
    refine lv_goto (tgt := 57) hx hb dX4_cover_53 (by decide) ?_
    exact m_zret hx hb hrt hlocks hB (Nat.le_refl _) (Nat.le_refl _) dX4_cover_57 rfl ⟨by rw [zb_t (b := cv fs fe (x * 4 + f) nw) (by rw [cv, dt (by omega), dt (by omega)]; rfl)], rfl, rfl, rfl⟩
set_option maxRecDepth 20000 in
theorem in_X4_grant_X4 : ∀ w ∈ wsX40, w ∈ wsX4_grant := by decide +kernel
set_option maxHeartbeats 1000000 in
set_option maxRecDepth 100000 in
theorem c_Rights_grant (l : Launch) (D : va_G) (ty : Nat → ClassId) (L : List Nat) (ad : Nat → Nat) (g : Nat → va_E) (rg st en : Nat) (fs fe : Nat → Int32) (x f : Nat) (u v : Int32) (m_rg : rg ∈ L) (m_st : st ∈ L) (m_en : en ∈ L) (h_rg : g rg = .inr (4, [.ref (ad st), .ref (ad en)])) (h_st : g st = .inl (ty 0, 12, .inl fs)) (h_en : g en = .inl (ty 0, 12, .inl fe)) (hx3 : x < 3) (hf4 : f < 4) (ne1 : rg ≠ st) (ne2 : rg ≠ en) (ne3 : st ≠ en) : m_E l yX4_grant wsX4_grant 1 21 D ty [.ref (ad rg), .int (nI x), .int (nI f), .int u, .int v] L ad g none (va_up (va_up g st (.inl (ty 0, 12, .inl (upd fs (x * 4 + f) u)))) en (.inl (ty 0, 12, .inl (upd fe (x * 4 + f) v)))) := by
  intro sz
  refine Met.ofW (cc := cX4_grant) (maxL := 6) (ret := none) (by decide) rfl ?_
  intro p e s m args below meth c s₁ B hml hv
  have hx := B.exec
  have hb := B.bytes
  have hrt := B.returns
  have hts := atoms_spec (ws := wsX4_grant) B.pre
  have hown : s.vm.findClass RX4 = some m.cls := findClass_of_methodNamed B.named
  have hlocks := B.notSynchronized
  obtain ⟨rfl, hB⟩ := m_start hv
  generalize va_A (m_w L ad g) sz = A at hB ⊢
  generalize s.heap = H at hB ⊢
  generalize ([] : List Loc) = locs at hB ⊢
  have hl := lv_entry ([.ref (ad rg), .int (nI x), .int (nI f), .int u, .int v]) (n := 6) (Nat.le_of_ble_eq_true rfl)
  rw [lg_entry_eq]
  generalize (lg_sl ([.ref (ad rg), .int (nI x), .int (nI f), .int u, .int v]) ++ List.replicate (6 - (lg_sl ([.ref (ad rg), .int (nI x), .int (nI f), .int u, .int v])).length) Slot.unset).toArray = ls at hl ⊢
  have hl : lv_has ls 6 [(0, .ref (ad rg)), (1, .int (nI x)), (2, .int (nI f)), (3, .int u), (4, .int v)] := hl
  have tI_x : (nI (x * 4 + f)).toInt = ((x * 4 + f : Nat) : Int) := nI_toInt (by omega)
  have tI_12 : (nI 12).toInt = 12 := by decide
  refine lv_iload_n hx hb dX4_grant_0 rfl (lv_at hl 1 rfl) ?_
  refine lv_iconst (v := 4) hx hb dX4_grant_1 (by decide) ?_
  refine lv_imul hx hb dX4_grant_2 ?_
  refine b_topi (w := nI (x * 4)) (pk_mul x 4) ?_
  refine lv_iload_n hx hb dX4_grant_3 rfl (lv_at hl 2 rfl) ?_
  refine lv_iadd hx hb dX4_grant_4 ?_
  refine b_topi (w := nI ((x * 4) + f)) (nI_add (x * 4) f) ?_
  refine lv_istore (lv' := [(5, .int (nI ((x * 4) + f))), (0, .ref (ad rg)), (1, .int (nI x)), (2, .int (nI f)), (3, .int u), (4, .int v)]) hx hb dX4_grant_5 hl (by decide) rfl (fun ls hl => ?_)
  refine lv_iload hx hb dX4_grant_7 (lv_at hl 0 rfl) ?_
  refine lv_aload_n hx hb dX4_grant_9 rfl (lv_at hl 1 rfl) ?_
  refine m_get (C := RX4) (T := TX4) (N := 2) (ci := 4) hx hb hts in_X4_grant_X4 hown hB m_rg h_rg rfl 0 (by decide) (hts (.fieldLink RX4 9 "PaperRoom$Rights" "starts" "[I") (by decide +kernel)) (fun _ h9 => h9) rfl dX4_grant_10 ?_
  refine m_alen hx hb hB m_st 0 h_st rfl (v := nI 12) rfl dX4_grant_13 ?_
  refine m_callSNE (As := [.int (nI ((x * 4) + f)), .int (nI 12)]) (rest := []) (c_isBelow_t l D ty L ad g _ _ (by omega) (by omega)) ⟨hx, hb, hml, hown, hts⟩ ⟨va_cnB 2 hts gX4_grant_X8_isBelow_n18 rfl rfl rfl hB.2.1.2.2.2.2.2.1 (hts (.initialized RX8) (by decide +kernel)) (by decide +kernel) ⟨Nat.le_of_ble_eq_true rfl, Nat.le_of_ble_eq_true rfl⟩, hts (.static yX8_isBelow) (by decide +kernel), trivial⟩ hB rfl hl.1 rfl (Nat.le_of_ble_eq_true rfl) dX4_grant_14 ⟨Nat.le_of_ble_eq_true rfl, Nat.le_of_ble_eq_true rfl⟩ (fun H locs hB => ?_)
  refine b_if_eq_f 47 hx hb dX4_grant_17 (by decide) (by decide) ?_
  refine lv_iload hx hb dX4_grant_20 (lv_at hl 0 rfl) ?_
  refine lv_aload_n hx hb dX4_grant_22 rfl (lv_at hl 1 rfl) ?_
  refine m_get (C := RX4) (T := TX4) (N := 2) (ci := 4) hx hb hts in_X4_grant_X4 hown hB m_rg h_rg rfl 1 (by decide) (hts (.fieldLink RX4 15 "PaperRoom$Rights" "ends" "[I") (by decide +kernel)) (fun _ h9 => h9) rfl dX4_grant_23 ?_
  refine m_alen hx hb hB m_en 0 h_en rfl (v := nI 12) rfl dX4_grant_26 ?_
  refine b_icmp_ge_f 47 hx hb dX4_grant_27 (by decide) (by omega) ?_
  refine lv_aload_n hx hb dX4_grant_30 rfl (lv_at hl 1 rfl) ?_
  refine m_get (C := RX4) (T := TX4) (N := 2) (ci := 4) hx hb hts in_X4_grant_X4 hown hB m_rg h_rg rfl 0 (by decide) (hts (.fieldLink RX4 9 "PaperRoom$Rights" "starts" "[I") (by decide +kernel)) (fun _ h9 => h9) rfl dX4_grant_31 ?_
  refine lv_iload hx hb dX4_grant_34 (lv_at hl 0 rfl) ?_
  refine lv_iload_n hx hb dX4_grant_36 rfl (lv_at hl 4 rfl) ?_
  refine n_iast hx hb hB m_st h_st ((x * 4) + f) rfl (by omega) (by omega) dX4_grant_37 (fun H locs hB => ?_)
  replace hB : m_B D ty A s L ad (va_up g st (.inl (ty 0, 12, .inl (upd fs ((x * 4) + f) u)))) H locs := hB
  refine lv_aload_n hx hb dX4_grant_38 rfl (lv_at hl 1 rfl) ?_
  refine m_get (C := RX4) (T := TX4) (N := 2) (ci := 4) hx hb hts in_X4_grant_X4 hown hB m_rg ((va_up_ne _ _ ne1).trans h_rg) rfl 1 (by decide) (hts (.fieldLink RX4 15 "PaperRoom$Rights" "ends" "[I") (by decide +kernel)) (fun _ h9 => h9) rfl dX4_grant_39 ?_
  refine lv_iload hx hb dX4_grant_42 (lv_at hl 0 rfl) ?_
  refine lv_iload hx hb dX4_grant_44 (lv_at hl 5 rfl) ?_
  refine n_iast hx hb hB m_en ((va_up_ne _ _ (Ne.symm ne3)).trans h_en) ((x * 4) + f) rfl (by omega) (by omega) dX4_grant_46 (fun H locs hB => ?_)
  replace hB : m_B D ty A s L ad (va_up (va_up g st (.inl (ty 0, 12, .inl (upd fs ((x * 4) + f) u)))) en (.inl (ty 0, 12, .inl (upd fe ((x * 4) + f) v)))) H locs := hB
  exact m_vret hx hb hrt hlocks hB (Nat.le_refl _) (Nat.le_refl _) dX4_grant_47 ⟨rfl, rfl, rfl, rfl⟩
