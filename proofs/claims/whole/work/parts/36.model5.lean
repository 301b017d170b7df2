set_option maxRecDepth 20000 in
theorem in_X9_find_X9 : ∀ w ∈ wsX90, w ∈ wsX9_find := by decide +kernel
set_option maxHeartbeats 1000000 in
set_option maxRecDepth 100000 in
theorem c_M_find_t (l : Launch) (D : va_G) (ty : Nat → ClassId) (L : List Nat) (ad : Nat → Nat) (g : Nat → va_E) (a : Nat → Nat → Int32) (dn pn en qn mz : Nat) (nw lo : Int32) (tr : Int64) (pj tp : Int32) (q : Nat) (hM : RM ty L ad g a dn pn en qn mz nw lo tr) (hqn : qn ≤ 30) (hq : q < qn) (hyes : (a 23 q = pj ∧ a 24 q = tp)) (hno : ∀ i, i < q → ¬ (a 23 i = pj ∧ a 24 i = tp)) : m_E l yX9_find wsX9_find 0 0 D ty [.ref (ad 1000), .int pj, .int tp] L ad g (some (.int (nI q))) g := by
  intro sz
  refine Met.ofW (cc := cX9_find) (maxL := 4) (ret := (some .int)) (by decide) rfl ?_
  intro p e s m args below meth c s₁ B hml hv
  have hx := B.exec
  have hb := B.bytes
  have hrt := B.returns
  have hts := atoms_spec (ws := wsX9_find) B.pre
  have hown : s.vm.findClass RX9 = some m.cls := findClass_of_methodNamed B.named
  have hlocks := B.notSynchronized
  obtain ⟨rfl, hB⟩ := m_start hv
  generalize va_A (m_w L ad g) sz = A at hB ⊢
  generalize s.heap = H at hB ⊢
  generalize ([] : List Loc) = locs at hB ⊢
  have hl := lv_entry ([.ref (ad 1000), .int pj, .int tp]) (n := 4) (Nat.le_of_ble_eq_true rfl)
  rw [lg_entry_eq]
  generalize (lg_sl ([.ref (ad 1000), .int pj, .int tp]) ++ List.replicate (4 - (lg_sl ([.ref (ad 1000), .int pj, .int tp])).length) Slot.unset).toArray = ls at hl ⊢
  have hl : lv_has ls 4 [(0, .ref (ad 1000)), (1, .int pj), (2, .int tp)] := hl
  obtain ⟨hL, h_1000, h_1002, h_1004, h_1005, h_1007, h_1008, h_1009, h_1010, h_1011, h_1012, h_1013, h_1014, h_1015, h_1016, h_1019, h_1020, h_1021, h_1022, h_1024, h_1025, h_1026, h_1027, h_1028, h_1029, h_1030, h_1032⟩ := id hM
  refine lv_iconst (v := 0) hx hb dX9_find_0 (by decide) ?_
  refine lv_istore_n (lv' := [(3, .int 0), (0, .ref (ad 1000)), (1, .int pj), (2, .int tp)]) hx hb dX9_find_1 rfl hl (by decide) rfl (fun ls hl => ?_)
  have tI_qn : (nI qn).toInt = (qn : Int) := nI_toInt (by omega)
  replace hl : lv_has ls 4 [(0, .ref (ad 1000)), (1, .int pj), (2, .int tp), (3, .int 0)] := lv_sub hl [1, 2, 3, 0] rfl
  obtain ⟨k, hk0⟩ : ∃ k : Nat, k = 0 := ⟨0, rfl⟩
  replace hl : lv_has ls 4 [(0, .ref (ad 1000)), (1, .int pj), (2, .int tp), (3, .int (nI k))] := by rw [hk0]; exact hl
  obtain ⟨jz, hj⟩ : ∃ jz : Nat, k + jz = q := ⟨q - k, by omega⟩
  clear hk0
  induction jz generalizing k H locs ls with
  | zero =>
    have hje : k = q := by omega
    have tI_k : (nI k).toInt = (k : Int) := nI_toInt (by omega)
    subst hje
    refine lv_iload_n hx hb dX9_find_2 rfl (lv_at hl 3 rfl) ?_
    refine lv_aload_n hx hb dX9_find_3 rfl (lv_at hl 0 rfl) ?_
    refine m_get (C := RX9) (T := TX9) (N := 33) (ci := 9) hx hb hts in_X9_find_X9 hown hB (hL 1000 (by decide)) h_1000 rfl 22 (by decide) (hts (.fieldLink RX9 153 "PaperRoomModel" "questions" "I") (by decide +kernel)) (fun _ h9 => h9) rfl dX9_find_4 ?_
    refine b_icmp_ge_f 38 hx hb dX9_find_7 (by decide) (by omega) ?_
    refine lv_aload_n hx hb dX9_find_10 rfl (lv_at hl 0 rfl) ?_
    refine m_get (C := RX9) (T := TX9) (N := 33) (ci := 9) hx hb hts in_X9_find_X9 hown hB (hL 1000 (by decide)) h_1000 rfl 23 (by decide) (hts (.fieldLink RX9 62 "PaperRoomModel" "questionPaper" "[I") (by decide +kernel)) (fun _ h9 => h9) rfl dX9_find_11 ?_
    refine lv_iload_n hx hb dX9_find_14 rfl (lv_at hl 3 rfl) ?_
    refine n_iald hx hb hB (hL 1024 (by decide)) h_1024 k rfl (by omega) (by omega) dX9_find_15 ?_
    refine lv_iload_n hx hb dX9_find_16 rfl (lv_at hl 1 rfl) ?_
    refine b_icmp_ne_f 32 hx hb dX9_find_17 (by decide) (by rw [hyes.1]) ?_
    refine lv_aload_n hx hb dX9_find_20 rfl (lv_at hl 0 rfl) ?_
    refine m_get (C := RX9) (T := TX9) (N := 33) (ci := 9) hx hb hts in_X9_find_X9 hown hB (hL 1000 (by decide)) h_1000 rfl 24 (by decide) (hts (.fieldLink RX9 65 "PaperRoomModel" "questionTopic" "[I") (by decide +kernel)) (fun _ h9 => h9) rfl dX9_find_21 ?_
    refine lv_iload_n hx hb dX9_find_24 rfl (lv_at hl 3 rfl) ?_
    refine n_iald hx hb hB (hL 1025 (by decide)) h_1025 k rfl (by omega) (by omega) dX9_find_25 ?_
    refine lv_iload_n hx hb dX9_find_26 rfl (lv_at hl 2 rfl) ?_
    refine b_icmp_ne_f 32 hx hb dX9_find_27 (by decide) (by rw [hyes.2]) ?_
    refine lv_iload_n hx hb dX9_find_30 rfl (lv_at hl 3 rfl) ?_
    exact m_iret hx hb hrt hlocks hB (Nat.le_refl _) (Nat.le_refl _) dX9_find_31 ⟨rfl, rfl, rfl, rfl⟩
  | succ jz ihj =>
    have hjl : k < q := by omega
    have tI_k : (nI k).toInt = (k : Int) := nI_toInt (by omega)
    by_cases h1 : a 23 k = pj
    · skip
      have h2 : ¬ a 24 k = tp := fun h => hno k (by omega) ⟨h1, h⟩
      refine lv_iload_n hx hb dX9_find_2 rfl (lv_at hl 3 rfl) ?_
      refine lv_aload_n hx hb dX9_find_3 rfl (lv_at hl 0 rfl) ?_
      refine m_get (C := RX9) (T := TX9) (N := 33) (ci := 9) hx hb hts in_X9_find_X9 hown hB (hL 1000 (by decide)) h_1000 rfl 22 (by decide) (hts (.fieldLink RX9 153 "PaperRoomModel" "questions" "I") (by decide +kernel)) (fun _ h9 => h9) rfl dX9_find_4 ?_
      refine b_icmp_ge_f 38 hx hb dX9_find_7 (by decide) (by omega) ?_
      refine lv_aload_n hx hb dX9_find_10 rfl (lv_at hl 0 rfl) ?_
      refine m_get (C := RX9) (T := TX9) (N := 33) (ci := 9) hx hb hts in_X9_find_X9 hown hB (hL 1000 (by decide)) h_1000 rfl 23 (by decide) (hts (.fieldLink RX9 62 "PaperRoomModel" "questionPaper" "[I") (by decide +kernel)) (fun _ h9 => h9) rfl dX9_find_11 ?_
      refine lv_iload_n hx hb dX9_find_14 rfl (lv_at hl 3 rfl) ?_
      refine n_iald hx hb hB (hL 1024 (by decide)) h_1024 k rfl (by omega) (by omega) dX9_find_15 ?_
      refine lv_iload_n hx hb dX9_find_16 rfl (lv_at hl 1 rfl) ?_
      refine b_icmp_ne_f 32 hx hb dX9_find_17 (by decide) (by rw [h1]) ?_
      refine lv_aload_n hx hb dX9_find_20 rfl (lv_at hl 0 rfl) ?_
      refine m_get (C := RX9) (T := TX9) (N := 33) (ci := 9) hx hb hts in_X9_find_X9 hown hB (hL 1000 (by decide)) h_1000 rfl 24 (by decide) (hts (.fieldLink RX9 65 "PaperRoomModel" "questionTopic" "[I") (by decide +kernel)) (fun _ h9 => h9) rfl dX9_find_21 ?_
      refine lv_iload_n hx hb dX9_find_24 rfl (lv_at hl 3 rfl) ?_
      refine n_iald hx hb hB (hL 1025 (by decide)) h_1025 k rfl (by omega) (by omega) dX9_find_25 ?_
      refine lv_iload_n hx hb dX9_find_26 rfl (lv_at hl 2 rfl) ?_
      refine b_icmp_ne_t 32 hx hb dX9_find_27 (by decide) (fun h8 => h2 ((i_eq _ _).mpr h8)) ?_
      refine lv_iinc (v := nI (k + 1)) (lv' := [(3, .int (nI (k + 1))), (0, .ref (ad 1000)), (1, .int pj), (2, .int tp)]) hx hb dX9_find_32 hl (k := 3) rfl (nI_add k 1) (by decide) rfl (fun ls hl => ?_)
      refine lv_goto (tgt := 2) hx hb dX9_find_35 (by decide) ?_
      have hl : lv_has ls 4 [(0, .ref (ad 1000)), (1, .int pj), (2, .int tp), (3, .int (nI (k + 1)))] := lv_sub hl [1, 2, 3, 0] rfl
      apply ihj (k := (k + 1)) (H := H) (locs := locs) (ls := ls) <;> first | omega | exact hB | exact hl
    · skip
      refine lv_iload_n hx hb dX9_find_2 rfl (lv_at hl 3 rfl) ?_
      refine lv_aload_n hx hb dX9_find_3 rfl (lv_at hl 0 rfl) ?_
      refine m_get (C := RX9) (T := TX9) (N := 33) (ci := 9) hx hb hts in_X9_find_X9 hown hB (hL 1000 (by decide)) h_1000 rfl 22 (by decide) (hts (.fieldLink RX9 153 "PaperRoomModel" "questions" "I") (by decide +kernel)) (fun _ h9 => h9) rfl dX9_find_4 ?_
      refine b_icmp_ge_f 38 hx hb dX9_find_7 (by decide) (by omega) ?_
      refine lv_aload_n hx hb dX9_find_10 rfl (lv_at hl 0 rfl) ?_
      refine m_get (C := RX9) (T := TX9) (N := 33) (ci := 9) hx hb hts in_X9_find_X9 hown hB (hL 1000 (by decide)) h_1000 rfl 23 (by decide) (hts (.fieldLink RX9 62 "PaperRoomModel" "questionPaper" "[I") (by decide +kernel)) (fun _ h9 => h9) rfl dX9_find_11 ?_
      refine lv_iload_n hx hb dX9_find_14 rfl (lv_at hl 3 rfl) ?_
      refine n_iald hx hb hB (hL 1024 (by decide)) h_1024 k rfl (by omega) (by omega) dX9_find_15 ?_
      refine lv_iload_n hx hb dX9_find_16 rfl (lv_at hl 1 rfl) ?_
      refine b_icmp_ne_t 32 hx hb dX9_find_17 (by decide) (fun h8 => h1 ((i_eq _ _).mpr h8)) ?_
      refine lv_iinc (v := nI (k + 1)) (lv' := [(3, .int (nI (k + 1))), (0, .ref (ad 1000)), (1, .int pj), (2, .int tp)]) hx hb dX9_find_32 hl (k := 3) rfl (nI_add k 1) (by decide) rfl (fun ls hl => ?_)
      refine lv_goto (tgt := 2) hx hb dX9_find_35 (by decide) ?_
      have hl : lv_has ls 4 [(0, .ref (ad 1000)), (1, .int pj), (2, .int tp), (3, .int (nI (k + 1)))] := lv_sub hl [1, 2, 3, 0] rfl
      apply ihj (k := (k + 1)) (H := H) (locs := locs) (ls := ls) <;> first | omega | exact hB | exact hl
set_option maxHeartbeats 1000000 in
set_option maxRecDepth 100000 in
theorem c_M_find_f (l : Launch) (D : va_G) (ty : Nat → ClassId) (L : List Nat) (ad : Nat → Nat) (g : Nat → va_E) (a : Nat → Nat → Int32) (dn pn en qn mz : Nat) (nw lo : Int32) (tr : Int64) (pj tp : Int32) (hM : RM ty L ad g a dn pn en qn mz nw lo tr) (hqn : qn ≤ 30) (hno : ∀ i, i < qn → ¬ (a 23 i = pj ∧ a 24 i = tp)) : m_E l yX9_find wsX9_find 0 0 D ty [.ref (ad 1000), .int pj, .int tp] L ad g (some (.int (-1))) g := by
  intro sz
  refine Met.ofW (cc := cX9_find) (maxL := 4) (ret := (some .int)) (by decide) rfl ?_
  intro p e s m args below meth c s₁ B hml hv
  have hx := B.exec
  have hb := B.bytes
  have hrt := B.returns
  have hts := atoms_spec (ws := wsX9_find) B.pre
  have hown : s.vm.findClass RX9 = some m.cls := findClass_of_methodNamed B.named
  have hlocks := B.notSynchronized
  obtain ⟨rfl, hB⟩ := m_start hv
  generalize va_A (m_w L ad g) sz = A at hB ⊢
  generalize s.heap = H at hB ⊢
  generalize ([] : List Loc) = locs at hB ⊢
  have hl := lv_entry ([.ref (ad 1000), .int pj, .int tp]) (n := 4) (Nat.le_of_ble_eq_true rfl)
  rw [lg_entry_eq]
  generalize (lg_sl ([.ref (ad 1000), .int pj, .int tp]) ++ List.replicate (4 - (lg_sl ([.ref (ad 1000), .int pj, .int tp])).length) Slot.unset).toArray = ls at hl ⊢
  have hl : lv_has ls 4 [(0, .ref (ad 1000)), (1, .int pj), (2, .int tp)] := hl
  obtain ⟨hL, h_1000, h_1002, h_1004, h_1005, h_1007, h_1008, h_1009, h_1010, h_1011, h_1012, h_1013, h_1014, h_1015, h_1016, h_1019, h_1020, h_1021, h_1022, h_1024, h_1025, h_1026, h_1027, h_1028, h_1029, h_1030, h_1032⟩ := id hM
  refine lv_iconst (v := 0) hx hb dX9_find_0 (by decide) ?_
  refine lv_istore_n (lv' := [(3, .int 0), (0, .ref (ad 1000)), (1, .int pj), (2, .int tp)]) hx hb dX9_find_1 rfl hl (by decide) rfl (fun ls hl => ?_)
  have tI_qn : (nI qn).toInt = (qn : Int) := nI_toInt (by omega)
  replace hl : lv_has ls 4 [(0, .ref (ad 1000)), (1, .int pj), (2, .int tp), (3, .int 0)] := lv_sub hl [1, 2, 3, 0] rfl
  obtain ⟨k, hk0⟩ : ∃ k : Nat, k = 0 := ⟨0, rfl⟩
  replace hl : lv_has ls 4 [(0, .ref (ad 1000)), (1, .int pj), (2, .int tp), (3, .int (nI k))] := by rw [hk0]; exact hl
  obtain ⟨jz, hj⟩ : ∃ jz : Nat, k + jz = qn := ⟨qn - k, by omega⟩
  clear hk0
  induction jz generalizing k H locs ls with
  | zero =>
    have hje : k = qn := by omega
    have tI_k : (nI k).toInt = (k : Int) := nI_toInt (by omega)
    refine lv_iload_n hx hb dX9_find_2 rfl (lv_at hl 3 rfl) ?_
    refine lv_aload_n hx hb dX9_find_3 rfl (lv_at hl 0 rfl) ?_
    refine m_get (C := RX9) (T := TX9) (N := 33) (ci := 9) hx hb hts in_X9_find_X9 hown hB (hL 1000 (by decide)) h_1000 rfl 22 (by decide) (hts (.fieldLink RX9 153 "PaperRoomModel" "questions" "I") (by decide +kernel)) (fun _ h9 => h9) rfl dX9_find_4 ?_
    refine b_icmp_ge_t 38 hx hb dX9_find_7 (by decide) (by omega) ?_
    refine lv_iconst (v := (-1)) hx hb dX9_find_38 (by decide) ?_
    exact m_iret hx hb hrt hlocks hB (Nat.le_refl _) (Nat.le_refl _) dX9_find_39 ⟨rfl, rfl, rfl, rfl⟩
  | succ jz ihj =>
    have hjl : k < qn := by omega
    have tI_k : (nI k).toInt = (k : Int) := nI_toInt (by omega)
    by_cases h1 : a 23 k = pj
    · skip
      have h2 : ¬ a 24 k = tp := fun h => hno k (by omega) ⟨h1, h⟩
      refine lv_iload_n hx hb dX9_find_2 rfl (lv_at hl 3 rfl) ?_
      refine lv_aload_n hx hb dX9_find_3 rfl (lv_at hl 0 rfl) ?_
      refine m_get (C := RX9) (T := TX9) (N := 33) (ci := 9) hx hb hts in_X9_find_X9 hown hB (hL 1000 (by decide)) h_1000 rfl 22 (by decide) (hts (.fieldLink RX9 153 "PaperRoomModel" "questions" "I") (by decide +kernel)) (fun _ h9 => h9) rfl dX9_find_4 ?_
      refine b_icmp_ge_f 38 hx hb dX9_find_7 (by decide) (by omega) ?_
      refine lv_aload_n hx hb dX9_find_10 rfl (lv_at hl 0 rfl) ?_
      refine m_get (C := RX9) (T := TX9) (N := 33) (ci := 9) hx hb hts in_X9_find_X9 hown hB (hL 1000 (by decide)) h_1000 rfl 23 (by decide) (hts (.fieldLink RX9 62 "PaperRoomModel" "questionPaper" "[I") (by decide +kernel)) (fun _ h9 => h9) rfl dX9_find_11 ?_
      refine lv_iload_n hx hb dX9_find_14 rfl (lv_at hl 3 rfl) ?_
      refine n_iald hx hb hB (hL 1024 (by decide)) h_1024 k rfl (by omega) (by omega) dX9_find_15 ?_
      refine lv_iload_n hx hb dX9_find_16 rfl (lv_at hl 1 rfl) ?_
      refine b_icmp_ne_f 32 hx hb dX9_find_17 (by decide) (by rw [h1]) ?_
      refine lv_aload_n hx hb dX9_find_20 rfl (lv_at hl 0 rfl) ?_
      refine m_get (C := RX9) (T := TX9) (N := 33) (ci := 9) hx hb hts in_X9_find_X9 hown hB (hL 1000 (by decide)) h_1000 rfl 24 (by decide) (hts (.fieldLink RX9 65 "PaperRoomModel" "questionTopic" "[I") (by decide +kernel)) (fun _ h9 => h9) rfl dX9_find_21 ?_
      refine lv_iload_n hx hb dX9_find_24 rfl (lv_at hl 3 rfl) ?_
      refine n_iald hx hb hB (hL 1025 (by decide)) h_1025 k rfl (by omega) (by omega) dX9_find_25 ?_
      refine lv_iload_n hx hb dX9_find_26 rfl (lv_at hl 2 rfl) ?_
      refine b_icmp_ne_t 32 hx hb dX9_find_27 (by decide) (fun h8 => h2 ((i_eq _ _).mpr h8)) ?_
      refine lv_iinc (v := nI (k + 1)) (lv' := [(3, .int (nI (k + 1))), (0, .ref (ad 1000)), (1, .int pj), (2, .int tp)]) hx hb dX9_find_32 hl (k := 3) rfl (nI_add k 1) (by decide) rfl (fun ls hl => ?_)
      refine lv_goto (tgt := 2) hx hb dX9_find_35 (by decide) ?_
      have hl : lv_has ls 4 [(0, .ref (ad 1000)), (1, .int pj), (2, .int tp), (3, .int (nI (k + 1)))] := lv_sub hl [1, 2, 3, 0] rfl
      apply ihj (k := (k + 1)) (H := H) (locs := locs) (ls := ls) <;> first | omega | exact hB | exact hl
    · skip
      refine lv_iload_n hx hb dX9_find_2 rfl (lv_at hl 3 rfl) ?_
      refine lv_aload_n hx hb dX9_find_3 rfl (lv_at hl 0 rfl) ?_
      refine m_get (C := RX9) (T := TX9) (N := 33) (ci := 9) hx hb hts in_X9_find_X9 hown hB (hL 1000 (by decide)) h_1000 rfl 22 (by decide) (hts (.fieldLink RX9 153 "PaperRoomModel" "questions" "I") (by decide +kernel)) (fun _ h9 => h9) rfl dX9_find_4 ?_
      refine b_icmp_ge_f 38 hx hb dX9_find_7 (by decide) (by omega) ?_
      refine lv_aload_n hx hb dX9_find_10 rfl (lv_at hl 0 rfl) ?_
      refine m_get (C := RX9) (T := TX9) (N := 33) (ci := 9) hx hb hts in_X9_find_X9 hown hB (hL 1000 (by decide)) h_1000 rfl 23 (by decide) (hts (.fieldLink RX9 62 "PaperRoomModel" "questionPaper" "[I") (by decide +kernel)) (fun _ h9 => h9) rfl dX9_find_11 ?_
      refine lv_iload_n hx hb dX9_find_14 rfl (lv_at hl 3 rfl) ?_
      refine n_iald hx hb hB (hL 1024 (by decide)) h_1024 k rfl (by omega) (by omega) dX9_find_15 ?_
      refine lv_iload_n hx hb dX9_find_16 rfl (lv_at hl 1 rfl) ?_
      refine b_icmp_ne_t 32 hx hb dX9_find_17 (by decide) (fun h8 => h1 ((i_eq _ _).mpr h8)) ?_
      refine lv_iinc (v := nI (k + 1)) (lv' := [(3, .int (nI (k + 1))), (0, .ref (ad 1000)), (1, .int pj), (2, .int tp)]) hx hb dX9_find_32 hl (k := 3) rfl (nI_add k 1) (by decide) rfl (fun ls hl => ?_)
      refine lv_goto (tgt := 2) hx hb dX9_find_35 (by decide) ?_
      have hl : lv_has ls 4 [(0, .ref (ad 1000)), (1, .int pj), (2, .int tp), (3, .int (nI (k + 1)))] := lv_sub hl [1, 2, 3, 0] rfl
      apply ihj (k := (k + 1)) (H := H) (locs := locs) (ls := ls) <;> first | omega | exact hB | exact hl
set_option maxHeartbeats 1000000 in
set_option maxRecDepth 100000 in
theorem c_M_ask_b1 (l : Launch) (D : va_G) (ty : Nat → ClassId) (L : List Nat) (ad : Nat → Nat) (g : Nat → va_E) (a : Nat → Nat → Int32) (dn pn en qn mz : Nat) (nw lo : Int32) (tr : Int64) (i w v : Int32) (hM : RM ty L ad g a dn pn en qn mz nw lo tr) (hi : ¬ (0 ≤ i.toInt ∧ i.toInt < 6)) : m_E l yX9_ask wsX9_ask 2 43 D ty [.ref (ad 1000), .int i, .int w, .int v] L ad g (some (.int (-1))) g := by
  intro sz
  refine Met.ofW (cc := cX9_ask) (maxL := 6) (ret := (some .int)) (by decide) rfl ?_
  intro p e s m args below meth c s₁ B hml hv
  have hx := B.exec
  have hb := B.bytes
  have hrt := B.returns
  have hts := atoms_spec (ws := wsX9_ask) B.pre
  have hown : s.vm.findClass RX9 = some m.cls := findClass_of_methodNamed B.named
  have hlocks := B.notSynchronized
  obtain ⟨rfl, hB⟩ := m_start hv
  generalize va_A (m_w L ad g) sz = A at hB ⊢
  generalize s.heap = H at hB ⊢
  generalize ([] : List Loc) = locs at hB ⊢
  have hl := lv_entry ([.ref (ad 1000), .int i, .int w, .int v]) (n := 6) (Nat.le_of_ble_eq_true rfl)
  rw [lg_entry_eq]
  generalize (lg_sl ([.ref (ad 1000), .int i, .int w, .int v]) ++ List.replicate (6 - (lg_sl ([.ref (ad 1000), .int i, .int w, .int v])).length) Slot.unset).toArray = ls at hl ⊢
  have hl : lv_has ls 6 [(0, .ref (ad 1000)), (1, .int i), (2, .int w), (3, .int v)] := hl
  obtain ⟨hL, h_1000, h_1002, h_1004, h_1005, h_1007, h_1008, h_1009, h_1010, h_1011, h_1012, h_1013, h_1014, h_1015, h_1016, h_1019, h_1020, h_1021, h_1022, h_1024, h_1025, h_1026, h_1027, h_1028, h_1029, h_1030, h_1032⟩ := id hM
  refine lv_iload_n hx hb dX9_ask_0 rfl (lv_at hl 1 rfl) ?_
  refine m_callSE (As := [.int i]) (rest := []) (c_M_isBidder_f l D ty L ad _ _ hi) ⟨hx, hb, hml, hown, hts⟩ (va_cwS 1 hts gX9_ask_X9_isBidder rfl rfl rfl (by decide +kernel) ⟨Nat.le_of_ble_eq_true rfl, Nat.le_of_ble_eq_true rfl⟩) hB rfl hl.1 rfl (Nat.le_of_ble_eq_true rfl) dX9_ask_1 ⟨Nat.le_of_ble_eq_true rfl, Nat.le_of_ble_eq_true rfl⟩ (fun H locs hB => ?_)
  refine b_if_eq_t 25 hx hb dX9_ask_4 (by decide) (by decide) ?_
  refine lv_iconst (v := (-1)) hx hb dX9_ask_25 (by decide) ?_
  exact m_iret hx hb hrt hlocks hB (Nat.le_refl _) (Nat.le_refl _) dX9_ask_26 ⟨rfl, rfl, rfl, rfl⟩
set_option maxHeartbeats 1000000 in
set_option maxRecDepth 100000 in
theorem c_M_ask_b2 (l : Launch) (D : va_G) (ty : Nat → ClassId) (L : List Nat) (ad : Nat → Nat) (g : Nat → va_E) (a : Nat → Nat → Int32) (dn pn en qn mz : Nat) (nw lo : Int32) (tr : Int64) (b : Nat) (i v : Int32) (hM : RM ty L ad g a dn pn en qn mz nw lo tr) (hb6 : b < 6) (hi : ¬ (0 ≤ i.toInt ∧ i.toInt < pn)) (hpn : pn ≤ 8) : m_E l yX9_ask wsX9_ask 2 43 D ty [.ref (ad 1000), .int (nI b), .int i, .int v] L ad g (some (.int (-1))) g := by
  intro sz
  refine Met.ofW (cc := cX9_ask) (maxL := 6) (ret := (some .int)) (by decide) rfl ?_
  intro p e s m args below meth c s₁ B hml hv
  have hx := B.exec
  have hb := B.bytes
  have hrt := B.returns
  have hts := atoms_spec (ws := wsX9_ask) B.pre
  have hown : s.vm.findClass RX9 = some m.cls := findClass_of_methodNamed B.named
  have hlocks := B.notSynchronized
  obtain ⟨rfl, hB⟩ := m_start hv
  generalize va_A (m_w L ad g) sz = A at hB ⊢
  generalize s.heap = H at hB ⊢
  generalize ([] : List Loc) = locs at hB ⊢
  have hl := lv_entry ([.ref (ad 1000), .int (nI b), .int i, .int v]) (n := 6) (Nat.le_of_ble_eq_true rfl)
  rw [lg_entry_eq]
  generalize (lg_sl ([.ref (ad 1000), .int (nI b), .int i, .int v]) ++ List.replicate (6 - (lg_sl ([.ref (ad 1000), .int (nI b), .int i, .int v])).length) Slot.unset).toArray = ls at hl ⊢
  have hl : lv_has ls 6 [(0, .ref (ad 1000)), (1, .int (nI b)), (2, .int i), (3, .int v)] := hl
  obtain ⟨hL, h_1000, h_1002, h_1004, h_1005, h_1007, h_1008, h_1009, h_1010, h_1011, h_1012, h_1013, h_1014, h_1015, h_1016, h_1019, h_1020, h_1021, h_1022, h_1024, h_1025, h_1026, h_1027, h_1028, h_1029, h_1030, h_1032⟩ := id hM
  refine lv_iload_n hx hb dX9_ask_0 rfl (lv_at hl 1 rfl) ?_
  refine m_callSE (As := [.int (nI b)]) (rest := []) (c_M_isBidder_t l D ty L ad _ b hb6) ⟨hx, hb, hml, hown, hts⟩ (va_cwS 1 hts gX9_ask_X9_isBidder rfl rfl rfl (by decide +kernel) ⟨Nat.le_of_ble_eq_true rfl, Nat.le_of_ble_eq_true rfl⟩) hB rfl hl.1 rfl (Nat.le_of_ble_eq_true rfl) dX9_ask_1 ⟨Nat.le_of_ble_eq_true rfl, Nat.le_of_ble_eq_true rfl⟩ (fun H locs hB => ?_)
  refine b_if_eq_f 25 hx hb dX9_ask_4 (by decide) (by decide) ?_
  refine lv_aload_n hx hb dX9_ask_7 rfl (lv_at hl 0 rfl) ?_
  refine lv_iload_n hx hb dX9_ask_8 rfl (lv_at hl 2 rfl) ?_
  refine m_callVE (ci := 9) (As := [.int i]) (rest := []) (c_M_isPaper_f l D ty L ad _ a dn pn en qn mz nw lo tr _ hM hi hpn) ⟨hx, hb, hml, hown, hts⟩ (cwV 1 hts gX9_ask_X9_isPaper rfl rfl rfl (by decide +kernel) ⟨Nat.le_of_ble_eq_true rfl, Nat.le_of_ble_eq_true rfl⟩) hB (hL 1000 (by decide)) h_1000 rfl rfl hl.1 rfl (Nat.le_of_ble_eq_true rfl) dX9_ask_9 ⟨Nat.le_of_ble_eq_true rfl, Nat.le_of_ble_eq_true rfl⟩ (fun H locs hB => ?_)
  refine b_if_eq_t 25 hx hb dX9_ask_12 (by decide) (by decide) ?_
  refine lv_iconst (v := (-1)) hx hb dX9_ask_25 (by decide) ?_
  exact m_iret hx hb hrt hlocks hB (Nat.le_refl _) (Nat.le_refl _) dX9_ask_26 ⟨rfl, rfl, rfl, rfl⟩
set_option maxHeartbeats 1000000 in
set_option maxRecDepth 100000 in
theorem c_M_ask_b3 (l : Launch) (D : va_G) (ty : Nat → ClassId) (L : List Nat) (ad : Nat → Nat) (g : Nat → va_E) (a : Nat → Nat → Int32) (dn pn en qn mz : Nat) (nw lo : Int32) (tr : Int64) (b j : Nat) (tp : Int32) (hM : RM ty L ad g a dn pn en qn mz nw lo tr) (hb6 : b < 6) (hj9 : j < pn) (hpn : pn ≤ 8) (h : ¬ (0 ≤ tp.toInt ∧ tp.toInt < 10)) : m_E l yX9_ask wsX9_ask 2 43 D ty [.ref (ad 1000), .int (nI b), .int (nI j), .int tp] L ad g (some (.int (-1))) g := by
  intro sz
  refine Met.ofW (cc := cX9_ask) (maxL := 6) (ret := (some .int)) (by decide) rfl ?_
  intro p e s m args below meth c s₁ B hml hv
  have hx := B.exec
  have hb := B.bytes
  have hrt := B.returns
  have hts := atoms_spec (ws := wsX9_ask) B.pre
  have hown : s.vm.findClass RX9 = some m.cls := findClass_of_methodNamed B.named
  have hlocks := B.notSynchronized
  obtain ⟨rfl, hB⟩ := m_start hv
  generalize va_A (m_w L ad g) sz = A at hB ⊢
  generalize s.heap = H at hB ⊢
  generalize ([] : List Loc) = locs at hB ⊢
  have hl := lv_entry ([.ref (ad 1000), .int (nI b), .int (nI j), .int tp]) (n := 6) (Nat.le_of_ble_eq_true rfl)
  rw [lg_entry_eq]
  generalize (lg_sl ([.ref (ad 1000), .int (nI b), .int (nI j), .int tp]) ++ List.replicate (6 - (lg_sl ([.ref (ad 1000), .int (nI b), .int (nI j), .int tp])).length) Slot.unset).toArray = ls at hl ⊢
  have hl : lv_has ls 6 [(0, .ref (ad 1000)), (1, .int (nI b)), (2, .int (nI j)), (3, .int tp)] := hl
  obtain ⟨hL, h_1000, h_1002, h_1004, h_1005, h_1007, h_1008, h_1009, h_1010, h_1011, h_1012, h_1013, h_1014, h_1015, h_1016, h_1019, h_1020, h_1021, h_1022, h_1024, h_1025, h_1026, h_1027, h_1028, h_1029, h_1030, h_1032⟩ := id hM
  have l0 : (0 : Int32).toInt = 0 := by decide
  have l9 : (9 : Int32).toInt = 9 := by decide
  have l2 : (2 : Int32).toInt = 2 := by decide
  have l30 : (30 : Int32).toInt = 30 := by decide
  refine lv_iload_n hx hb dX9_ask_0 rfl (lv_at hl 1 rfl) ?_
  refine m_callSE (As := [.int (nI b)]) (rest := []) (c_M_isBidder_t l D ty L ad _ b hb6) ⟨hx, hb, hml, hown, hts⟩ (va_cwS 1 hts gX9_ask_X9_isBidder rfl rfl rfl (by decide +kernel) ⟨Nat.le_of_ble_eq_true rfl, Nat.le_of_ble_eq_true rfl⟩) hB rfl hl.1 rfl (Nat.le_of_ble_eq_true rfl) dX9_ask_1 ⟨Nat.le_of_ble_eq_true rfl, Nat.le_of_ble_eq_true rfl⟩ (fun H locs hB => ?_)
  refine b_if_eq_f 25 hx hb dX9_ask_4 (by decide) (by decide) ?_
  refine lv_aload_n hx hb dX9_ask_7 rfl (lv_at hl 0 rfl) ?_
  refine lv_iload_n hx hb dX9_ask_8 rfl (lv_at hl 2 rfl) ?_
  refine m_callVE (ci := 9) (As := [.int (nI j)]) (rest := []) (c_M_isPaper_t l D ty L ad _ a dn pn en qn mz nw lo tr j hM hj9 hpn) ⟨hx, hb, hml, hown, hts⟩ (cwV 1 hts gX9_ask_X9_isPaper rfl rfl rfl (by decide +kernel) ⟨Nat.le_of_ble_eq_true rfl, Nat.le_of_ble_eq_true rfl⟩) hB (hL 1000 (by decide)) h_1000 rfl rfl hl.1 rfl (Nat.le_of_ble_eq_true rfl) dX9_ask_9 ⟨Nat.le_of_ble_eq_true rfl, Nat.le_of_ble_eq_true rfl⟩ (fun H locs hB => ?_)
  refine b_if_eq_f 25 hx hb dX9_ask_12 (by decide) (by decide) ?_
  refine lv_iload_n hx hb dX9_ask_15 rfl (lv_at hl 3 rfl) ?_
  refine lv_iconst (v := 0) hx hb dX9_ask_16 (by decide) ?_
  refine lv_bipush (v := 9) hx hb dX9_ask_17 (by decide) ?_
  refine m_callSE (As := [.int tp, .int 0, .int 9]) (rest := []) (c_M_in_f l D ty L ad _ _ _ _ (by omega)) ⟨hx, hb, hml, hown, hts⟩ (va_cwS 3 hts gX9_ask_X9_in rfl rfl rfl (by decide +kernel) ⟨Nat.le_of_ble_eq_true rfl, Nat.le_of_ble_eq_true rfl⟩) hB rfl hl.1 rfl (Nat.le_of_ble_eq_true rfl) dX9_ask_19 ⟨Nat.le_of_ble_eq_true rfl, Nat.le_of_ble_eq_true rfl⟩ (fun H locs hB => ?_)
  refine b_if_ne_f 27 hx hb dX9_ask_22 (by decide) (by decide) ?_
  refine lv_iconst (v := (-1)) hx hb dX9_ask_25 (by decide) ?_
  exact m_iret hx hb hrt hlocks hB (Nat.le_refl _) (Nat.le_refl _) dX9_ask_26 ⟨rfl, rfl, rfl, rfl⟩
set_option maxHeartbeats 1000000 in
set_option maxRecDepth 100000 in
theorem c_M_ask_no (l : Launch) (D : va_G) (ty : Nat → ClassId) (L : List Nat) (ad : Nat → Nat) (g : Nat → va_E) (a : Nat → Nat → Int32) (dn pn en qn mz : Nat) (nw lo : Int32) (tr : Int64) (b j fo : Nat) (tp : Int32) (hM : RM ty L ad g a dn pn en qn mz nw lo tr) (hj9 : j < pn) (hpn : pn ≤ 8) (htp : 0 ≤ tp.toInt ∧ tp.toInt < 10) (hb6 : b < 6) (hfo : a 7 j = nI fo) (hfo4 : fo < 4) (hw : a 9 j = 0 ∨ a 9 j = 1) (hs : seeB (a 6 j) (a 9 j) (a 8 j) (a 3) (a 4) (b % 3 * 4 + fo) nw = false) : m_E l yX9_ask wsX9_ask 2 43 D ty [.ref (ad 1000), .int (nI b), .int (nI j), .int tp] L ad g (some (.int (-4))) g := by
  intro sz
  refine Met.ofW (cc := cX9_ask) (maxL := 6) (ret := (some .int)) (by decide) rfl ?_
  intro p e s m args below meth c s₁ B hml hv
  have hx := B.exec
  have hb := B.bytes
  have hrt := B.returns
  have hts := atoms_spec (ws := wsX9_ask) B.pre
  have hown : s.vm.findClass RX9 = some m.cls := findClass_of_methodNamed B.named
  have hlocks := B.notSynchronized
  obtain ⟨rfl, hB⟩ := m_start hv
  generalize va_A (m_w L ad g) sz = A at hB ⊢
  generalize s.heap = H at hB ⊢
  generalize ([] : List Loc) = locs at hB ⊢
  have hl := lv_entry ([.ref (ad 1000), .int (nI b), .int (nI j), .int tp]) (n := 6) (Nat.le_of_ble_eq_true rfl)
  rw [lg_entry_eq]
  generalize (lg_sl ([.ref (ad 1000), .int (nI b), .int (nI j), .int tp]) ++ List.replicate (6 - (lg_sl ([.ref (ad 1000), .int (nI b), .int (nI j), .int tp])).length) Slot.unset).toArray = ls at hl ⊢
  have hl : lv_has ls 6 [(0, .ref (ad 1000)), (1, .int (nI b)), (2, .int (nI j)), (3, .int tp)] := hl
  obtain ⟨hL, h_1000, h_1002, h_1004, h_1005, h_1007, h_1008, h_1009, h_1010, h_1011, h_1012, h_1013, h_1014, h_1015, h_1016, h_1019, h_1020, h_1021, h_1022, h_1024, h_1025, h_1026, h_1027, h_1028, h_1029, h_1030, h_1032⟩ := id hM
  have hj8 : j < 8 := by omega
  have l0 : (0 : Int32).toInt = 0 := by decide
  have l9 : (9 : Int32).toInt = 9 := by decide
  have l2 : (2 : Int32).toInt = 2 := by decide
  have l30 : (30 : Int32).toInt = 30 := by decide
  refine lv_iload_n hx hb dX9_ask_0 rfl (lv_at hl 1 rfl) ?_
  refine m_callSE (As := [.int (nI b)]) (rest := []) (c_M_isBidder_t l D ty L ad _ b hb6) ⟨hx, hb, hml, hown, hts⟩ (va_cwS 1 hts gX9_ask_X9_isBidder rfl rfl rfl (by decide +kernel) ⟨Nat.le_of_ble_eq_true rfl, Nat.le_of_ble_eq_true rfl⟩) hB rfl hl.1 rfl (Nat.le_of_ble_eq_true rfl) dX9_ask_1 ⟨Nat.le_of_ble_eq_true rfl, Nat.le_of_ble_eq_true rfl⟩ (fun H locs hB => ?_)
  refine b_if_eq_f 25 hx hb dX9_ask_4 (by decide) (by decide) ?_
  refine lv_aload_n hx hb dX9_ask_7 rfl (lv_at hl 0 rfl) ?_
  refine lv_iload_n hx hb dX9_ask_8 rfl (lv_at hl 2 rfl) ?_
  refine m_callVE (ci := 9) (As := [.int (nI j)]) (rest := []) (c_M_isPaper_t l D ty L ad _ a dn pn en qn mz nw lo tr j hM hj9 hpn) ⟨hx, hb, hml, hown, hts⟩ (cwV 1 hts gX9_ask_X9_isPaper rfl rfl rfl (by decide +kernel) ⟨Nat.le_of_ble_eq_true rfl, Nat.le_of_ble_eq_true rfl⟩) hB (hL 1000 (by decide)) h_1000 rfl rfl hl.1 rfl (Nat.le_of_ble_eq_true rfl) dX9_ask_9 ⟨Nat.le_of_ble_eq_true rfl, Nat.le_of_ble_eq_true rfl⟩ (fun H locs hB => ?_)
  refine b_if_eq_f 25 hx hb dX9_ask_12 (by decide) (by decide) ?_
  refine lv_iload_n hx hb dX9_ask_15 rfl (lv_at hl 3 rfl) ?_
  refine lv_iconst (v := 0) hx hb dX9_ask_16 (by decide) ?_
  refine lv_bipush (v := 9) hx hb dX9_ask_17 (by decide) ?_
  refine m_callSE (As := [.int tp, .int 0, .int 9]) (rest := []) (c_M_in_t l D ty L ad _ _ _ _ (by omega) (by omega)) ⟨hx, hb, hml, hown, hts⟩ (va_cwS 3 hts gX9_ask_X9_in rfl rfl rfl (by decide +kernel) ⟨Nat.le_of_ble_eq_true rfl, Nat.le_of_ble_eq_true rfl⟩) hB rfl hl.1 rfl (Nat.le_of_ble_eq_true rfl) dX9_ask_19 ⟨Nat.le_of_ble_eq_true rfl, Nat.le_of_ble_eq_true rfl⟩ (fun H locs hB => ?_)
  refine b_if_ne_t 27 hx hb dX9_ask_22 (by decide) (by decide) ?_
  refine lv_aload_n hx hb dX9_ask_27 rfl (lv_at hl 0 rfl) ?_
  refine lv_iload_n hx hb dX9_ask_28 rfl (lv_at hl 1 rfl) ?_
  refine lv_iload_n hx hb dX9_ask_29 rfl (lv_at hl 2 rfl) ?_
  refine m_callVE (ci := 9) (As := [.int (nI b), .int (nI j)]) (rest := []) (c_M_sees l D ty L ad _ a dn pn en qn mz nw lo tr b j fo hM hb6 hj8 hfo hfo4 hw) ⟨hx, hb, hml, hown, hts⟩ (cwV 2 hts gX9_ask_X9_sees rfl rfl rfl (by decide +kernel) ⟨Nat.le_of_ble_eq_true rfl, Nat.le_of_ble_eq_true rfl⟩) hB (hL 1000 (by decide)) h_1000 rfl rfl hl.1 rfl (Nat.le_of_ble_eq_true rfl) dX9_ask_30 ⟨Nat.le_of_ble_eq_true rfl, Nat.le_of_ble_eq_true rfl⟩ (fun H locs hB => ?_)
  refine b_if_ne_f 39 hx hb dX9_ask_33 (by decide) (by rw [hs]; decide) ?_
  refine lv_bipush (v := (-4)) hx hb dX9_ask_36 (by decide) ?_
  exact m_iret hx hb hrt hlocks hB (Nat.le_refl _) (Nat.le_refl _) dX9_ask_38 ⟨rfl, rfl, rfl, rfl⟩
set_option maxRecDepth 20000 in
theorem in_X9_ask_X9 : ∀ w ∈ wsX90, w ∈ wsX9_ask := by decide +kernel
set_option maxHeartbeats 1000000 in
set_option maxRecDepth 100000 in
theorem c_M_ask_state (l : Launch) (D : va_G) (ty : Nat → ClassId) (L : List Nat) (ad : Nat → Nat) (g : Nat → va_E) (a : Nat → Nat → Int32) (dn pn en qn mz : Nat) (nw lo : Int32) (tr : Int64) (b j fo : Nat) (tp t : Int32) (hM : RM ty L ad g a dn pn en qn mz nw lo tr) (hj9 : j < pn) (hpn : pn ≤ 8) (htp : 0 ≤ tp.toInt ∧ tp.toInt < 10) (hb6 : b < 6) (hfo : a 7 j = nI fo) (hfo4 : fo < 4) (hw : a 9 j = 0 ∨ a 9 j = 1) (hs : seeB (a 6 j) (a 9 j) (a 8 j) (a 3) (a 4) (b % 3 * 4 + fo) nw = true) (ht : t = if a 28 b = nw then a 29 b else 0) (ht2 : t = 2) : m_E l yX9_ask wsX9_ask 2 43 D ty [.ref (ad 1000), .int (nI b), .int (nI j), .int tp] L ad g (some (.int (-2))) g := by
  intro sz
  refine Met.ofW (cc := cX9_ask) (maxL := 6) (ret := (some .int)) (by decide) rfl ?_
  intro p e s m args below meth c s₁ B hml hv
  have hx := B.exec
  have hb := B.bytes
  have hrt := B.returns
  have hts := atoms_spec (ws := wsX9_ask) B.pre
  have hown : s.vm.findClass RX9 = some m.cls := findClass_of_methodNamed B.named
  have hlocks := B.notSynchronized
  obtain ⟨rfl, hB⟩ := m_start hv
  generalize va_A (m_w L ad g) sz = A at hB ⊢
  generalize s.heap = H at hB ⊢
  generalize ([] : List Loc) = locs at hB ⊢
  have hl := lv_entry ([.ref (ad 1000), .int (nI b), .int (nI j), .int tp]) (n := 6) (Nat.le_of_ble_eq_true rfl)
  rw [lg_entry_eq]
  generalize (lg_sl ([.ref (ad 1000), .int (nI b), .int (nI j), .int tp]) ++ List.replicate (6 - (lg_sl ([.ref (ad 1000), .int (nI b), .int (nI j), .int tp])).length) Slot.unset).toArray = ls at hl ⊢
  have hl : lv_has ls 6 [(0, .ref (ad 1000)), (1, .int (nI b)), (2, .int (nI j)), (3, .int tp)] := hl
  obtain ⟨hL, h_1000, h_1002, h_1004, h_1005, h_1007, h_1008, h_1009, h_1010, h_1011, h_1012, h_1013, h_1014, h_1015, h_1016, h_1019, h_1020, h_1021, h_1022, h_1024, h_1025, h_1026, h_1027, h_1028, h_1029, h_1030, h_1032⟩ := id hM
  have hj8 : j < 8 := by omega
  have l0 : (0 : Int32).toInt = 0 := by decide
  have l9 : (9 : Int32).toInt = 9 := by decide
  have l2 : (2 : Int32).toInt = 2 := by decide
  have l30 : (30 : Int32).toInt = 30 := by decide
  refine lv_iload_n hx hb dX9_ask_0 rfl (lv_at hl 1 rfl) ?_
  refine m_callSE (As := [.int (nI b)]) (rest := []) (c_M_isBidder_t l D ty L ad _ b hb6) ⟨hx, hb, hml, hown, hts⟩ (va_cwS 1 hts gX9_ask_X9_isBidder rfl rfl rfl (by decide +kernel) ⟨Nat.le_of_ble_eq_true rfl, Nat.le_of_ble_eq_true rfl⟩) hB rfl hl.1 rfl (Nat.le_of_ble_eq_true rfl) dX9_ask_1 ⟨Nat.le_of_ble_eq_true rfl, Nat.le_of_ble_eq_true rfl⟩ (fun H locs hB => ?_)
  refine b_if_eq_f 25 hx hb dX9_ask_4 (by decide) (by decide) ?_
  refine lv_aload_n hx hb dX9_ask_7 rfl (lv_at hl 0 rfl) ?_
  refine lv_iload_n hx hb dX9_ask_8 rfl (lv_at hl 2 rfl) ?_
  refine m_callVE (ci := 9) (As := [.int (nI j)]) (rest := []) (c_M_isPaper_t l D ty L ad _ a dn pn en qn mz nw lo tr j hM hj9 hpn) ⟨hx, hb, hml, hown, hts⟩ (cwV 1 hts gX9_ask_X9_isPaper rfl rfl rfl (by decide +kernel) ⟨Nat.le_of_ble_eq_true rfl, Nat.le_of_ble_eq_true rfl⟩) hB (hL 1000 (by decide)) h_1000 rfl rfl hl.1 rfl (Nat.le_of_ble_eq_true rfl) dX9_ask_9 ⟨Nat.le_of_ble_eq_true rfl, Nat.le_of_ble_eq_true rfl⟩ (fun H locs hB => ?_)
  refine b_if_eq_f 25 hx hb dX9_ask_12 (by decide) (by decide) ?_
  refine lv_iload_n hx hb dX9_ask_15 rfl (lv_at hl 3 rfl) ?_
  refine lv_iconst (v := 0) hx hb dX9_ask_16 (by decide) ?_
  refine lv_bipush (v := 9) hx hb dX9_ask_17 (by decide) ?_
  refine m_callSE (As := [.int tp, .int 0, .int 9]) (rest := []) (c_M_in_t l D ty L ad _ _ _ _ (by omega) (by omega)) ⟨hx, hb, hml, hown, hts⟩ (va_cwS 3 hts gX9_ask_X9_in rfl rfl rfl (by decide +kernel) ⟨Nat.le_of_ble_eq_true rfl, Nat.le_of_ble_eq_true rfl⟩) hB rfl hl.1 rfl (Nat.le_of_ble_eq_true rfl) dX9_ask_19 ⟨Nat.le_of_ble_eq_true rfl, Nat.le_of_ble_eq_true rfl⟩ (fun H locs hB => ?_)
  refine b_if_ne_t 27 hx hb dX9_ask_22 (by decide) (by decide) ?_
  refine lv_aload_n hx hb dX9_ask_27 rfl (lv_at hl 0 rfl) ?_
  refine lv_iload_n hx hb dX9_ask_28 rfl (lv_at hl 1 rfl) ?_
  refine lv_iload_n hx hb dX9_ask_29 rfl (lv_at hl 2 rfl) ?_
  refine m_callVE (ci := 9) (As := [.int (nI b), .int (nI j)]) (rest := []) (c_M_sees l D ty L ad _ a dn pn en qn mz nw lo tr b j fo hM hb6 hj8 hfo hfo4 hw) ⟨hx, hb, hml, hown, hts⟩ (cwV 2 hts gX9_ask_X9_sees rfl rfl rfl (by decide +kernel) ⟨Nat.le_of_ble_eq_true rfl, Nat.le_of_ble_eq_true rfl⟩) hB (hL 1000 (by decide)) h_1000 rfl rfl hl.1 rfl (Nat.le_of_ble_eq_true rfl) dX9_ask_30 ⟨Nat.le_of_ble_eq_true rfl, Nat.le_of_ble_eq_true rfl⟩ (fun H locs hB => ?_)
  refine b_if_ne_t 39 hx hb dX9_ask_33 (by decide) (by rw [hs]; decide) ?_
  refine lv_aload_n hx hb dX9_ask_39 rfl (lv_at hl 0 rfl) ?_
  refine m_get (C := RX9) (T := TX9) (N := 33) (ci := 9) hx hb hts in_X9_ask_X9 hown hB (hL 1000 (by decide)) h_1000 rfl 28 (by decide) (hts (.fieldLink RX9 77 "PaperRoomModel" "askedIn" "[I") (by decide +kernel)) (fun _ h9 => h9) rfl dX9_ask_40 ?_
  refine lv_iload_n hx hb dX9_ask_43 rfl (lv_at hl 1 rfl) ?_
  refine n_iald hx hb hB (hL 1029 (by decide)) h_1029 b rfl (by omega) (by omega) dX9_ask_44 ?_
  refine lv_aload_n hx hb dX9_ask_45 rfl (lv_at hl 0 rfl) ?_
  refine m_get (C := RX9) (T := TX9) (N := 33) (ci := 9) hx hb hts in_X9_ask_X9 hown hB (hL 1000 (by decide)) h_1000 rfl 2 (by decide) (hts (.fieldLink RX9 86 "PaperRoomModel" "now" "I") (by decide +kernel)) (fun _ h9 => h9) rfl dX9_ask_46 ?_
  by_cases hi : a 28 b = nw
  · skip
    refine b_icmp_ne_f 61 hx hb dX9_ask_49 (by decide) (by rw [hi]) ?_
    refine lv_aload_n hx hb dX9_ask_52 rfl (lv_at hl 0 rfl) ?_
    refine m_get (C := RX9) (T := TX9) (N := 33) (ci := 9) hx hb hts in_X9_ask_X9 hown hB (hL 1000 (by decide)) h_1000 rfl 29 (by decide) (hts (.fieldLink RX9 80 "PaperRoomModel" "askedTimes" "[I") (by decide +kernel)) (fun _ h9 => h9) rfl dX9_ask_53 ?_
    refine lv_iload_n hx hb dX9_ask_56 rfl (lv_at hl 1 rfl) ?_
    refine n_iald hx hb hB (hL 1030 (by decide)) h_1030 b rfl (by omega) (by omega) dX9_ask_57 ?_
    refine lv_goto (tgt := 62) hx hb dX9_ask_58 (by decide) ?_
    refine b_topi (w := t) (by rw [ht, if_pos hi]) ?_
    refine lv_istore (lv' := [(4, .int t), (0, .ref (ad 1000)), (1, .int (nI b)), (2, .int (nI j)), (3, .int tp)]) hx hb dX9_ask_62 hl (by decide) rfl (fun ls hl => ?_)
    refine lv_iload hx hb dX9_ask_64 (lv_at hl 0 rfl) ?_
    refine lv_iconst (v := 2) hx hb dX9_ask_66 (by decide) ?_
    refine b_icmp_ne_f 73 hx hb dX9_ask_67 (by decide) (by rw [ht2]) ?_
    refine lv_bipush (v := (-2)) hx hb dX9_ask_70 (by decide) ?_
    exact m_iret hx hb hrt hlocks hB (Nat.le_refl _) (Nat.le_refl _) dX9_ask_72 ⟨rfl, rfl, rfl, rfl⟩
  · skip
    refine b_icmp_ne_t 61 hx hb dX9_ask_49 (by decide) (fun h8 => hi ((i_eq _ _).mpr h8)) ?_
    refine lv_iconst (v := 0) hx hb dX9_ask_61 (by decide) ?_
    refine b_topi (w := t) (by rw [ht, if_neg hi]) ?_
    refine lv_istore (lv' := [(4, .int t), (0, .ref (ad 1000)), (1, .int (nI b)), (2, .int (nI j)), (3, .int tp)]) hx hb dX9_ask_62 hl (by decide) rfl (fun ls hl => ?_)
    refine lv_iload hx hb dX9_ask_64 (lv_at hl 0 rfl) ?_
    refine lv_iconst (v := 2) hx hb dX9_ask_66 (by decide) ?_
    refine b_icmp_ne_f 73 hx hb dX9_ask_67 (by decide) (by rw [ht2]) ?_
    refine lv_bipush (v := (-2)) hx hb dX9_ask_70 (by decide) ?_
    exact m_iret hx hb hrt hlocks hB (Nat.le_refl _) (Nat.le_refl _) dX9_ask_72 ⟨rfl, rfl, rfl, rfl⟩
set_option maxHeartbeats 1000000 in
set_option maxRecDepth 100000 in
theorem c_M_ask_full (l : Launch) (D : va_G) (ty : Nat → ClassId) (L : List Nat) (ad : Nat → Nat) (g : Nat → va_E) (a : Nat → Nat → Int32) (dn pn en qn mz : Nat) (nw lo : Int32) (tr : Int64) (b j fo : Nat) (tp t : Int32) (hM : RM ty L ad g a dn pn en qn mz nw lo tr) (hj9 : j < pn) (hpn : pn ≤ 8) (htp : 0 ≤ tp.toInt ∧ tp.toInt < 10) (hb6 : b < 6) (hfo : a 7 j = nI fo) (hfo4 : fo < 4) (hw : a 9 j = 0 ∨ a 9 j = 1) (hs : seeB (a 6 j) (a 9 j) (a 8 j) (a 3) (a 4) (b % 3 * 4 + fo) nw = true) (ht : t = if a 28 b = nw then a 29 b else 0) (ht2 : ¬ t = 2) (hq30 : qn = 30) (hno : ∀ i, i < qn → ¬ (a 23 i = nI j ∧ a 24 i = tp)) : m_E l yX9_ask wsX9_ask 2 43 D ty [.ref (ad 1000), .int (nI b), .int (nI j), .int tp] L ad g (some (.int (-3))) g := by
  intro sz
  refine Met.ofW (cc := cX9_ask) (maxL := 6) (ret := (some .int)) (by decide) rfl ?_
  intro p e s m args below meth c s₁ B hml hv
  have hx := B.exec
  have hb := B.bytes
  have hrt := B.returns
  have hts := atoms_spec (ws := wsX9_ask) B.pre
  have hown : s.vm.findClass RX9 = some m.cls := findClass_of_methodNamed B.named
  have hlocks := B.notSynchronized
  obtain ⟨rfl, hB⟩ := m_start hv
  generalize va_A (m_w L ad g) sz = A at hB ⊢
  generalize s.heap = H at hB ⊢
  generalize ([] : List Loc) = locs at hB ⊢
  have hl := lv_entry ([.ref (ad 1000), .int (nI b), .int (nI j), .int tp]) (n := 6) (Nat.le_of_ble_eq_true rfl)
  rw [lg_entry_eq]
  generalize (lg_sl ([.ref (ad 1000), .int (nI b), .int (nI j), .int tp]) ++ List.replicate (6 - (lg_sl ([.ref (ad 1000), .int (nI b), .int (nI j), .int tp])).length) Slot.unset).toArray = ls at hl ⊢
  have hl : lv_has ls 6 [(0, .ref (ad 1000)), (1, .int (nI b)), (2, .int (nI j)), (3, .int tp)] := hl
  obtain ⟨hL, h_1000, h_1002, h_1004, h_1005, h_1007, h_1008, h_1009, h_1010, h_1011, h_1012, h_1013, h_1014, h_1015, h_1016, h_1019, h_1020, h_1021, h_1022, h_1024, h_1025, h_1026, h_1027, h_1028, h_1029, h_1030, h_1032⟩ := id hM
  have hj8 : j < 8 := by omega
  have l0 : (0 : Int32).toInt = 0 := by decide
  have l9 : (9 : Int32).toInt = 9 := by decide
  have l2 : (2 : Int32).toInt = 2 := by decide
  have l30 : (30 : Int32).toInt = 30 := by decide
  refine lv_iload_n hx hb dX9_ask_0 rfl (lv_at hl 1 rfl) ?_
  refine m_callSE (As := [.int (nI b)]) (rest := []) (c_M_isBidder_t l D ty L ad _ b hb6) ⟨hx, hb, hml, hown, hts⟩ (va_cwS 1 hts gX9_ask_X9_isBidder rfl rfl rfl (by decide +kernel) ⟨Nat.le_of_ble_eq_true rfl, Nat.le_of_ble_eq_true rfl⟩) hB rfl hl.1 rfl (Nat.le_of_ble_eq_true rfl) dX9_ask_1 ⟨Nat.le_of_ble_eq_true rfl, Nat.le_of_ble_eq_true rfl⟩ (fun H locs hB => ?_)
  refine b_if_eq_f 25 hx hb dX9_ask_4 (by decide) (by decide) ?_
  refine lv_aload_n hx hb dX9_ask_7 rfl (lv_at hl 0 rfl) ?_
  refine lv_iload_n hx hb dX9_ask_8 rfl (lv_at hl 2 rfl) ?_
  refine m_callVE (ci := 9) (As := [.int (nI j)]) (rest := []) (c_M_isPaper_t l D ty L ad _ a dn pn en qn mz nw lo tr j hM hj9 hpn) ⟨hx, hb, hml, hown, hts⟩ (cwV 1 hts gX9_ask_X9_isPaper rfl rfl rfl (by decide +kernel) ⟨Nat.le_of_ble_eq_true rfl, Nat.le_of_ble_eq_true rfl⟩) hB (hL 1000 (by decide)) h_1000 rfl rfl hl.1 rfl (Nat.le_of_ble_eq_true rfl) dX9_ask_9 ⟨Nat.le_of_ble_eq_true rfl, Nat.le_of_ble_eq_true rfl⟩ (fun H locs hB => ?_)
  refine b_if_eq_f 25 hx hb dX9_ask_12 (by decide) (by decide) ?_
  refine lv_iload_n hx hb dX9_ask_15 rfl (lv_at hl 3 rfl) ?_
  refine lv_iconst (v := 0) hx hb dX9_ask_16 (by decide) ?_
  refine lv_bipush (v := 9) hx hb dX9_ask_17 (by decide) ?_
  refine m_callSE (As := [.int tp, .int 0, .int 9]) (rest := []) (c_M_in_t l D ty L ad _ _ _ _ (by omega) (by omega)) ⟨hx, hb, hml, hown, hts⟩ (va_cwS 3 hts gX9_ask_X9_in rfl rfl rfl (by decide +kernel) ⟨Nat.le_of_ble_eq_true rfl, Nat.le_of_ble_eq_true rfl⟩) hB rfl hl.1 rfl (Nat.le_of_ble_eq_true rfl) dX9_ask_19 ⟨Nat.le_of_ble_eq_true rfl, Nat.le_of_ble_eq_true rfl⟩ (fun H locs hB => ?_)
  refine b_if_ne_t 27 hx hb dX9_ask_22 (by decide) (by decide) ?_
  refine lv_aload_n hx hb dX9_ask_27 rfl (lv_at hl 0 rfl) ?_
  refine lv_iload_n hx hb dX9_ask_28 rfl (lv_at hl 1 rfl) ?_
  refine lv_iload_n hx hb dX9_ask_29 rfl (lv_at hl 2 rfl) ?_
  refine m_callVE (ci := 9) (As := [.int (nI b), .int (nI j)]) (rest := []) (c_M_sees l D ty L ad _ a dn pn en qn mz nw lo tr b j fo hM hb6 hj8 hfo hfo4 hw) ⟨hx, hb, hml, hown, hts⟩ (cwV 2 hts gX9_ask_X9_sees rfl rfl rfl (by decide +kernel) ⟨Nat.le_of_ble_eq_true rfl, Nat.le_of_ble_eq_true rfl⟩) hB (hL 1000 (by decide)) h_1000 rfl rfl hl.1 rfl (Nat.le_of_ble_eq_true rfl) dX9_ask_30 ⟨Nat.le_of_ble_eq_true rfl, Nat.le_of_ble_eq_true rfl⟩ (fun H locs hB => ?_)
  refine b_if_ne_t 39 hx hb dX9_ask_33 (by decide) (by rw [hs]; decide) ?_
  refine lv_aload_n hx hb dX9_ask_39 rfl (lv_at hl 0 rfl) ?_
  refine m_get (C := RX9) (T := TX9) (N := 33) (ci := 9) hx hb hts in_X9_ask_X9 hown hB (hL 1000 (by decide)) h_1000 rfl 28 (by decide) (hts (.fieldLink RX9 77 "PaperRoomModel" "askedIn" "[I") (by decide +kernel)) (fun _ h9 => h9) rfl dX9_ask_40 ?_
  refine lv_iload_n hx hb dX9_ask_43 rfl (lv_at hl 1 rfl) ?_
  refine n_iald hx hb hB (hL 1029 (by decide)) h_1029 b rfl (by omega) (by omega) dX9_ask_44 ?_
  refine lv_aload_n hx hb dX9_ask_45 rfl (lv_at hl 0 rfl) ?_
  refine m_get (C := RX9) (T := TX9) (N := 33) (ci := 9) hx hb hts in_X9_ask_X9 hown hB (hL 1000 (by decide)) h_1000 rfl 2 (by decide) (hts (.fieldLink RX9 86 "PaperRoomModel" "now" "I") (by decide +kernel)) (fun _ h9 => h9) rfl dX9_ask_46 ?_
  by_cases hi : a 28 b = nw
  · skip
    refine b_icmp_ne_f 61 hx hb dX9_ask_49 (by decide) (by rw [hi]) ?_
    refine lv_aload_n hx hb dX9_ask_52 rfl (lv_at hl 0 rfl) ?_
    refine m_get (C := RX9) (T := TX9) (N := 33) (ci := 9) hx hb hts in_X9_ask_X9 hown hB (hL 1000 (by decide)) h_1000 rfl 29 (by decide) (hts (.fieldLink RX9 80 "PaperRoomModel" "askedTimes" "[I") (by decide +kernel)) (fun _ h9 => h9) rfl dX9_ask_53 ?_
    refine lv_iload_n hx hb dX9_ask_56 rfl (lv_at hl 1 rfl) ?_
    refine n_iald hx hb hB (hL 1030 (by decide)) h_1030 b rfl (by omega) (by omega) dX9_ask_57 ?_
    refine lv_goto (tgt := 62) hx hb dX9_ask_58 (by decide) ?_
    refine b_topi (w := t) (by rw [ht, if_pos hi]) ?_
    refine lv_istore (lv' := [(4, .int t), (0, .ref (ad 1000)), (1, .int (nI b)), (2, .int (nI j)), (3, .int tp)]) hx hb dX9_ask_62 hl (by decide) rfl (fun ls hl => ?_)
    refine lv_iload hx hb dX9_ask_64 (lv_at hl 0 rfl) ?_
    refine lv_iconst (v := 2) hx hb dX9_ask_66 (by decide) ?_
    refine b_icmp_ne_t 73 hx hb dX9_ask_67 (by decide) (fun h8 => ht2 ((i_eq _ _).mpr h8)) ?_
    refine lv_aload_n hx hb dX9_ask_73 rfl (lv_at hl 1 rfl) ?_
    refine lv_iload_n hx hb dX9_ask_74 rfl (lv_at hl 3 rfl) ?_
    refine lv_iload_n hx hb dX9_ask_75 rfl (lv_at hl 4 rfl) ?_
    refine m_callVE (ci := 9) (As := [.int (nI j), .int tp]) (rest := []) (c_M_find_f l D ty L ad _ a dn pn en qn mz nw lo tr (nI j) tp hM (by omega) hno) ⟨hx, hb, hml, hown, hts⟩ (cwV 2 hts gX9_ask_X9_find rfl rfl rfl (by decide +kernel) ⟨Nat.le_of_ble_eq_true rfl, Nat.le_of_ble_eq_true rfl⟩) hB (hL 1000 (by decide)) h_1000 rfl rfl hl.1 rfl (Nat.le_of_ble_eq_true rfl) dX9_ask_76 ⟨Nat.le_of_ble_eq_true rfl, Nat.le_of_ble_eq_true rfl⟩ (fun H locs hB => ?_)
    refine lv_istore (lv' := [(5, .int (-1)), (4, .int t), (0, .ref (ad 1000)), (1, .int (nI b)), (2, .int (nI j)), (3, .int tp)]) hx hb dX9_ask_79 hl (by decide) rfl (fun ls hl => ?_)
    refine lv_iload hx hb dX9_ask_81 (lv_at hl 0 rfl) ?_
    refine b_if_ge_f 98 hx hb dX9_ask_83 (by decide) (by decide) ?_
    refine lv_aload_n hx hb dX9_ask_86 rfl (lv_at hl 2 rfl) ?_
    refine m_get (C := RX9) (T := TX9) (N := 33) (ci := 9) hx hb hts in_X9_ask_X9 hown hB (hL 1000 (by decide)) h_1000 rfl 22 (by decide) (hts (.fieldLink RX9 153 "PaperRoomModel" "questions" "I") (by decide +kernel)) (fun _ h9 => h9) rfl dX9_ask_87 ?_
    refine lv_bipush (v := 30) hx hb dX9_ask_90 (by decide) ?_
    refine b_icmp_ne_f 98 hx hb dX9_ask_92 (by decide) (by rw [hq30]; decide) ?_
    refine lv_bipush (v := (-3)) hx hb dX9_ask_95 (by decide) ?_
    exact m_iret hx hb hrt hlocks hB (Nat.le_refl _) (Nat.le_refl _) dX9_ask_97 ⟨rfl, rfl, rfl, rfl⟩
  · skip
    refine b_icmp_ne_t 61 hx hb dX9_ask_49 (by decide) (fun h8 => hi ((i_eq _ _).mpr h8)) ?_
    refine lv_iconst (v := 0) hx hb dX9_ask_61 (by decide) ?_
    refine b_topi (w := t) (by rw [ht, if_neg hi]) ?_
    refine lv_istore (lv' := [(4, .int t), (0, .ref (ad 1000)), (1, .int (nI b)), (2, .int (nI j)), (3, .int tp)]) hx hb dX9_ask_62 hl (by decide) rfl (fun ls hl => ?_)
    refine lv_iload hx hb dX9_ask_64 (lv_at hl 0 rfl) ?_
    refine lv_iconst (v := 2) hx hb dX9_ask_66 (by decide) ?_
    refine b_icmp_ne_t 73 hx hb dX9_ask_67 (by decide) (fun h8 => ht2 ((i_eq _ _).mpr h8)) ?_
    refine lv_aload_n hx hb dX9_ask_73 rfl (lv_at hl 1 rfl) ?_
    refine lv_iload_n hx hb dX9_ask_74 rfl (lv_at hl 3 rfl) ?_
    refine lv_iload_n hx hb dX9_ask_75 rfl (lv_at hl 4 rfl) ?_
    refine m_callVE (ci := 9) (As := [.int (nI j), .int tp]) (rest := []) (c_M_find_f l D ty L ad _ a dn pn en qn mz nw lo tr (nI j) tp hM (by omega) hno) ⟨hx, hb, hml, hown, hts⟩ (cwV 2 hts gX9_ask_X9_find rfl rfl rfl (by decide +kernel) ⟨Nat.le_of_ble_eq_true rfl, Nat.le_of_ble_eq_true rfl⟩) hB (hL 1000 (by decide)) h_1000 rfl rfl hl.1 rfl (Nat.le_of_ble_eq_true rfl) dX9_ask_76 ⟨Nat.le_of_ble_eq_true rfl, Nat.le_of_ble_eq_true rfl⟩ (fun H locs hB => ?_)
    refine lv_istore (lv' := [(5, .int (-1)), (4, .int t), (0, .ref (ad 1000)), (1, .int (nI b)), (2, .int (nI j)), (3, .int tp)]) hx hb dX9_ask_79 hl (by decide) rfl (fun ls hl => ?_)
    refine lv_iload hx hb dX9_ask_81 (lv_at hl 0 rfl) ?_
    refine b_if_ge_f 98 hx hb dX9_ask_83 (by decide) (by decide) ?_
    refine lv_aload_n hx hb dX9_ask_86 rfl (lv_at hl 2 rfl) ?_
    refine m_get (C := RX9) (T := TX9) (N := 33) (ci := 9) hx hb hts in_X9_ask_X9 hown hB (hL 1000 (by decide)) h_1000 rfl 22 (by decide) (hts (.fieldLink RX9 153 "PaperRoomModel" "questions" "I") (by decide +kernel)) (fun _ h9 => h9) rfl dX9_ask_87 ?_
    refine lv_bipush (v := 30) hx hb dX9_ask_90 (by decide) ?_
    refine b_icmp_ne_f 98 hx hb dX9_ask_92 (by decide) (by rw [hq30]; decide) ?_
    refine lv_bipush (v := (-3)) hx hb dX9_ask_95 (by decide) ?_
    exact m_iret hx hb hrt hlocks hB (Nat.le_refl _) (Nat.le_refl _) dX9_ask_97 ⟨rfl, rfl, rfl, rfl⟩
set_option maxHeartbeats 1000000 in
set_option maxRecDepth 100000 in
theorem c_M_ask_join (l : Launch) (D : va_G) (ty : Nat → ClassId) (L : List Nat) (ad : Nat → Nat) (g : Nat → va_E) (a : Nat → Nat → Int32) (dn pn en qn mz : Nat) (nw lo : Int32) (tr : Int64) (b j fo q : Nat) (tp t : Int32) (hM : RM ty L ad g a dn pn en qn mz nw lo tr) (hj9 : j < pn) (hpn : pn ≤ 8) (htp : 0 ≤ tp.toInt ∧ tp.toInt < 10) (hb6 : b < 6) (hfo : a 7 j = nI fo) (hfo4 : fo < 4) (hw : a 9 j = 0 ∨ a 9 j = 1) (hs : seeB (a 6 j) (a 9 j) (a 8 j) (a 3) (a 4) (b % 3 * 4 + fo) nw = true) (ht : t = if a 28 b = nw then a 29 b else 0) (ht2 : ¬ t = 2) (hqn : qn ≤ 30) (hq9 : q < qn) (hyes : (a 23 q = nI j ∧ a 24 q = tp)) (hno : ∀ i, i < q → ¬ (a 23 i = nI j ∧ a 24 i = tp)) : m_C l yX9_ask wsX9_ask 2 43 0 0 D ty [.ref (ad 1000), .int (nI b), .int (nI j), .int tp] L ad g (fun v1 L1 ad1 g1 => v1 = (some (.int (nI q))) ∧ L1 = L ∧ ad1 = ad ∧ (∀ x, x < 1000 → g1 x = g x) ∧ RM ty L ad g1 (askA a b q nw t) dn pn en qn mz nw lo tr) := by
  intro sz
  refine Met.ofW (cc := cX9_ask) (maxL := 6) (ret := (some .int)) (by decide) rfl ?_
  intro p e s m args below meth c s₁ B hml hv
  have hx := B.exec
  have hb := B.bytes
  have hrt := B.returns
  have hts := atoms_spec (ws := wsX9_ask) B.pre
  have hown : s.vm.findClass RX9 = some m.cls := findClass_of_methodNamed B.named
  have hlocks := B.notSynchronized
  obtain ⟨rfl, hB⟩ := m_start hv
  generalize va_A (m_w L ad g) sz = A at hB ⊢
  generalize s.heap = H at hB ⊢
  generalize ([] : List Loc) = locs at hB ⊢
  have hl := lv_entry ([.ref (ad 1000), .int (nI b), .int (nI j), .int tp]) (n := 6) (Nat.le_of_ble_eq_true rfl)
  rw [lg_entry_eq]
  generalize (lg_sl ([.ref (ad 1000), .int (nI b), .int (nI j), .int tp]) ++ List.replicate (6 - (lg_sl ([.ref (ad 1000), .int (nI b), .int (nI j), .int tp])).length) Slot.unset).toArray = ls at hl ⊢
  have hl : lv_has ls 6 [(0, .ref (ad 1000)), (1, .int (nI b)), (2, .int (nI j)), (3, .int tp)] := hl
  obtain ⟨hL, h_1000, h_1002, h_1004, h_1005, h_1007, h_1008, h_1009, h_1010, h_1011, h_1012, h_1013, h_1014, h_1015, h_1016, h_1019, h_1020, h_1021, h_1022, h_1024, h_1025, h_1026, h_1027, h_1028, h_1029, h_1030, h_1032⟩ := id hM
  have hj8 : j < 8 := by omega
  have l0 : (0 : Int32).toInt = 0 := by decide
  have l9 : (9 : Int32).toInt = 9 := by decide
  have l2 : (2 : Int32).toInt = 2 := by decide
  have l30 : (30 : Int32).toInt = 30 := by decide
  refine lv_iload_n hx hb dX9_ask_0 rfl (lv_at hl 1 rfl) ?_
  refine m_callSE (As := [.int (nI b)]) (rest := []) (c_M_isBidder_t l D ty L ad _ b hb6) ⟨hx, hb, hml, hown, hts⟩ (va_cwS 1 hts gX9_ask_X9_isBidder rfl rfl rfl (by decide +kernel) ⟨Nat.le_of_ble_eq_true rfl, Nat.le_of_ble_eq_true rfl⟩) hB rfl hl.1 rfl (Nat.le_of_ble_eq_true rfl) dX9_ask_1 ⟨Nat.le_of_ble_eq_true rfl, Nat.le_of_ble_eq_true rfl⟩ (fun H locs hB => ?_)
  refine b_if_eq_f 25 hx hb dX9_ask_4 (by decide) (by decide) ?_
  refine lv_aload_n hx hb dX9_ask_7 rfl (lv_at hl 0 rfl) ?_
  refine lv_iload_n hx hb dX9_ask_8 rfl (lv_at hl 2 rfl) ?_
  refine m_callVE (ci := 9) (As := [.int (nI j)]) (rest := []) (c_M_isPaper_t l D ty L ad _ a dn pn en qn mz nw lo tr j hM hj9 hpn) ⟨hx, hb, hml, hown, hts⟩ (cwV 1 hts gX9_ask_X9_isPaper rfl rfl rfl (by decide +kernel) ⟨Nat.le_of_ble_eq_true rfl, Nat.le_of_ble_eq_true rfl⟩) hB (hL 1000 (by decide)) h_1000 rfl rfl hl.1 rfl (Nat.le_of_ble_eq_true rfl) dX9_ask_9 ⟨Nat.le_of_ble_eq_true rfl, Nat.le_of_ble_eq_true rfl⟩ (fun H locs hB => ?_)
  refine b_if_eq_f 25 hx hb dX9_ask_12 (by decide) (by decide) ?_
  refine lv_iload_n hx hb dX9_ask_15 rfl (lv_at hl 3 rfl) ?_
  refine lv_iconst (v := 0) hx hb dX9_ask_16 (by decide) ?_
  refine lv_bipush (v := 9) hx hb dX9_ask_17 (by decide) ?_
  refine m_callSE (As := [.int tp, .int 0, .int 9]) (rest := []) (c_M_in_t l D ty L ad _ _ _ _ (by omega) (by omega)) ⟨hx, hb, hml, hown, hts⟩ (va_cwS 3 hts gX9_ask_X9_in rfl rfl rfl (by decide +kernel) ⟨Nat.le_of_ble_eq_true rfl, Nat.le_of_ble_eq_true rfl⟩) hB rfl hl.1 rfl (Nat.le_of_ble_eq_true rfl) dX9_ask_19 ⟨Nat.le_of_ble_eq_true rfl, Nat.le_of_ble_eq_true rfl⟩ (fun H locs hB => ?_)
  refine b_if_ne_t 27 hx hb dX9_ask_22 (by decide) (by decide) ?_
  refine lv_aload_n hx hb dX9_ask_27 rfl (lv_at hl 0 rfl) ?_
  refine lv_iload_n hx hb dX9_ask_28 rfl (lv_at hl 1 rfl) ?_
  refine lv_iload_n hx hb dX9_ask_29 rfl (lv_at hl 2 rfl) ?_
  refine m_callVE (ci := 9) (As := [.int (nI b), .int (nI j)]) (rest := []) (c_M_sees l D ty L ad _ a dn pn en qn mz nw lo tr b j fo hM hb6 hj8 hfo hfo4 hw) ⟨hx, hb, hml, hown, hts⟩ (cwV 2 hts gX9_ask_X9_sees rfl rfl rfl (by decide +kernel) ⟨Nat.le_of_ble_eq_true rfl, Nat.le_of_ble_eq_true rfl⟩) hB (hL 1000 (by decide)) h_1000 rfl rfl hl.1 rfl (Nat.le_of_ble_eq_true rfl) dX9_ask_30 ⟨Nat.le_of_ble_eq_true rfl, Nat.le_of_ble_eq_true rfl⟩ (fun H locs hB => ?_)
  refine b_if_ne_t 39 hx hb dX9_ask_33 (by decide) (by rw [hs]; decide) ?_
  refine lv_aload_n hx hb dX9_ask_39 rfl (lv_at hl 0 rfl) ?_
  refine m_get (C := RX9) (T := TX9) (N := 33) (ci := 9) hx hb hts in_X9_ask_X9 hown hB (hL 1000 (by decide)) h_1000 rfl 28 (by decide) (hts (.fieldLink RX9 77 "PaperRoomModel" "askedIn" "[I") (by decide +kernel)) (fun _ h9 => h9) rfl dX9_ask_40 ?_
  refine lv_iload_n hx hb dX9_ask_43 rfl (lv_at hl 1 rfl) ?_
  refine n_iald hx hb hB (hL 1029 (by decide)) h_1029 b rfl (by omega) (by omega) dX9_ask_44 ?_
  refine lv_aload_n hx hb dX9_ask_45 rfl (lv_at hl 0 rfl) ?_
  refine m_get (C := RX9) (T := TX9) (N := 33) (ci := 9) hx hb hts in_X9_ask_X9 hown hB (hL 1000 (by decide)) h_1000 rfl 2 (by decide) (hts (.fieldLink RX9 86 "PaperRoomModel" "now" "I") (by decide +kernel)) (fun _ h9 => h9) rfl dX9_ask_46 ?_
  by_cases hi : a 28 b = nw
  · skip
    refine b_icmp_ne_f 61 hx hb dX9_ask_49 (by decide) (by rw [hi]) ?_
    refine lv_aload_n hx hb dX9_ask_52 rfl (lv_at hl 0 rfl) ?_
    refine m_get (C := RX9) (T := TX9) (N := 33) (ci := 9) hx hb hts in_X9_ask_X9 hown hB (hL 1000 (by decide)) h_1000 rfl 29 (by decide) (hts (.fieldLink RX9 80 "PaperRoomModel" "askedTimes" "[I") (by decide +kernel)) (fun _ h9 => h9) rfl dX9_ask_53 ?_
    refine lv_iload_n hx hb dX9_ask_56 rfl (lv_at hl 1 rfl) ?_
    refine n_iald hx hb hB (hL 1030 (by decide)) h_1030 b rfl (by omega) (by omega) dX9_ask_57 ?_
    refine lv_goto (tgt := 62) hx hb dX9_ask_58 (by decide) ?_
    refine b_topi (w := t) (by rw [ht, if_pos hi]) ?_
    have tI_q : (nI q).toInt = (q : Int) := nI_toInt (by omega)
    refine lv_istore (lv' := [(4, .int t), (0, .ref (ad 1000)), (1, .int (nI b)), (2, .int (nI j)), (3, .int tp)]) hx hb dX9_ask_62 hl (by decide) rfl (fun ls hl => ?_)
    refine lv_iload hx hb dX9_ask_64 (lv_at hl 0 rfl) ?_
    refine lv_iconst (v := 2) hx hb dX9_ask_66 (by decide) ?_
    refine b_icmp_ne_t 73 hx hb dX9_ask_67 (by decide) (fun h8 => ht2 ((i_eq _ _).mpr h8)) ?_
    refine lv_aload_n hx hb dX9_ask_73 rfl (lv_at hl 1 rfl) ?_
    refine lv_iload_n hx hb dX9_ask_74 rfl (lv_at hl 3 rfl) ?_
    refine lv_iload_n hx hb dX9_ask_75 rfl (lv_at hl 4 rfl) ?_
    refine m_callVE (ci := 9) (As := [.int (nI j), .int tp]) (rest := []) (c_M_find_t l D ty L ad _ a dn pn en qn mz nw lo tr (nI j) tp q hM hqn hq9 hyes hno) ⟨hx, hb, hml, hown, hts⟩ (cwV 2 hts gX9_ask_X9_find rfl rfl rfl (by decide +kernel) ⟨Nat.le_of_ble_eq_true rfl, Nat.le_of_ble_eq_true rfl⟩) hB (hL 1000 (by decide)) h_1000 rfl rfl hl.1 rfl (Nat.le_of_ble_eq_true rfl) dX9_ask_76 ⟨Nat.le_of_ble_eq_true rfl, Nat.le_of_ble_eq_true rfl⟩ (fun H locs hB => ?_)
    refine lv_istore (lv' := [(5, .int (nI q)), (4, .int t), (0, .ref (ad 1000)), (1, .int (nI b)), (2, .int (nI j)), (3, .int tp)]) hx hb dX9_ask_79 hl (by decide) rfl (fun ls hl => ?_)
    refine lv_iload hx hb dX9_ask_81 (lv_at hl 0 rfl) ?_
    refine b_if_ge_t 98 hx hb dX9_ask_83 (by decide) (by have := (by decide : (0 : Int32).toInt = 0); omega) ?_
    refine lv_iload hx hb dX9_ask_98 (lv_at hl 0 rfl) ?_
    refine b_if_ge_t 151 hx hb dX9_ask_100 (by decide) (by have := (by decide : (0 : Int32).toInt = 0); omega) ?_
    refine lv_aload_n hx hb dX9_ask_151 rfl (lv_at hl 2 rfl) ?_
    refine m_get (C := RX9) (T := TX9) (N := 33) (ci := 9) hx hb hts in_X9_ask_X9 hown hB (hL 1000 (by decide)) h_1000 rfl 25 (by decide) (hts (.fieldLink RX9 68 "PaperRoomModel" "askers" "[I") (by decide +kernel)) (fun _ h9 => h9) rfl dX9_ask_152 ?_
    refine lv_iload hx hb dX9_ask_155 (lv_at hl 0 rfl) ?_
    refine lv_dup2_11 hx hb dX9_ask_157 rfl rfl ?_
    refine n_iald hx hb hB (hL 1026 (by decide)) h_1026 q rfl (by omega) (by omega) dX9_ask_158 ?_
    refine lv_iconst (v := 1) hx hb dX9_ask_159 (by decide) ?_
    refine lv_iload_n hx hb dX9_ask_160 rfl (lv_at hl 3 rfl) ?_
    refine lv_ishl hx hb dX9_ask_161 ?_
    refine lv_ior hx hb dX9_ask_162 ?_
    refine n_iast hx hb hB (hL 1026 (by decide)) h_1026 q rfl (by omega) (by omega) dX9_ask_163 (fun H locs hB => ?_)
    replace hB : m_B D ty A s L ad (va_up g 1026 (.inl (ty 0, 30, .inl (upd (a 25) q (((a 25) q) ||| (1 <<< ((nI b) &&& 31))))))) H locs := hB
    refine lv_aload_n hx hb dX9_ask_164 rfl (lv_at hl 2 rfl) ?_
    refine m_get (C := RX9) (T := TX9) (N := 33) (ci := 9) hx hb hts in_X9_ask_X9 hown hB (hL 1000 (by decide)) ((va_up_ne _ _ (by decide)).trans h_1000) rfl 28 (by decide) (hts (.fieldLink RX9 77 "PaperRoomModel" "askedIn" "[I") (by decide +kernel)) (fun _ h9 => h9) rfl dX9_ask_165 ?_
    refine lv_iload_n hx hb dX9_ask_168 rfl (lv_at hl 3 rfl) ?_
    refine lv_aload_n hx hb dX9_ask_169 rfl (lv_at hl 2 rfl) ?_
    refine m_get (C := RX9) (T := TX9) (N := 33) (ci := 9) hx hb hts in_X9_ask_X9 hown hB (hL 1000 (by decide)) ((va_up_ne _ _ (by decide)).trans h_1000) rfl 2 (by decide) (hts (.fieldLink RX9 86 "PaperRoomModel" "now" "I") (by decide +kernel)) (fun _ h9 => h9) rfl dX9_ask_170 ?_
    refine n_iast hx hb hB (hL 1029 (by decide)) ((va_up_ne _ _ (by decide)).trans h_1029) b rfl (by omega) (by omega) dX9_ask_173 (fun H locs hB => ?_)
    replace hB : m_B D ty A s L ad (va_up (va_up g 1026 (.inl (ty 0, 30, .inl (upd (a 25) q (((a 25) q) ||| (1 <<< ((nI b) &&& 31))))))) 1029 (.inl (ty 0, 6, .inl (upd (a 28) b nw)))) H locs := hB
    refine lv_aload_n hx hb dX9_ask_174 rfl (lv_at hl 2 rfl) ?_
    refine m_get (C := RX9) (T := TX9) (N := 33) (ci := 9) hx hb hts in_X9_ask_X9 hown hB (hL 1000 (by decide)) ((va_up_ne _ _ (by decide)).trans ((va_up_ne _ _ (by decide)).trans h_1000)) rfl 29 (by decide) (hts (.fieldLink RX9 80 "PaperRoomModel" "askedTimes" "[I") (by decide +kernel)) (fun _ h9 => h9) rfl dX9_ask_175 ?_
    refine lv_iload_n hx hb dX9_ask_178 rfl (lv_at hl 3 rfl) ?_
    refine lv_iload hx hb dX9_ask_179 (lv_at hl 1 rfl) ?_
    refine lv_iconst (v := 1) hx hb dX9_ask_181 (by decide) ?_
    refine lv_iadd hx hb dX9_ask_182 ?_
    refine n_iast hx hb hB (hL 1030 (by decide)) ((va_up_ne _ _ (by decide)).trans ((va_up_ne _ _ (by decide)).trans h_1030)) b rfl (by omega) (by omega) dX9_ask_183 (fun H locs hB => ?_)
    replace hB : m_B D ty A s L ad (va_up (va_up (va_up g 1026 (.inl (ty 0, 30, .inl (upd (a 25) q (((a 25) q) ||| (1 <<< ((nI b) &&& 31))))))) 1029 (.inl (ty 0, 6, .inl (upd (a 28) b nw)))) 1030 (.inl (ty 0, 6, .inl (upd (a 29) b (t + 1))))) H locs := hB
    refine lv_iload hx hb dX9_ask_184 (lv_at hl 0 rfl) ?_
    exact m_iret hx hb hrt hlocks hB (Nat.le_refl _) (Nat.le_refl _) dX9_ask_186 ⟨rfl, rfl, rfl, (fun x hx => ((va_up_ne _ _ (by omega)).trans ((va_up_ne _ _ (by omega)).trans ((va_up_ne _ _ (by omega)).trans rfl)))), ⟨hL, ((va_up_ne _ _ (by decide)).trans ((va_up_ne _ _ (by decide)).trans ((va_up_ne _ _ (by decide)).trans h_1000))), ((va_up_ne _ _ (by decide)).trans ((va_up_ne _ _ (by decide)).trans ((va_up_ne _ _ (by decide)).trans h_1002))), ((va_up_ne _ _ (by decide)).trans ((va_up_ne _ _ (by decide)).trans ((va_up_ne _ _ (by decide)).trans h_1004))), ((va_up_ne _ _ (by decide)).trans ((va_up_ne _ _ (by decide)).trans ((va_up_ne _ _ (by decide)).trans h_1005))), ((va_up_ne _ _ (by decide)).trans ((va_up_ne _ _ (by decide)).trans ((va_up_ne _ _ (by decide)).trans h_1007))), ((va_up_ne _ _ (by decide)).trans ((va_up_ne _ _ (by decide)).trans ((va_up_ne _ _ (by decide)).trans h_1008))), ((va_up_ne _ _ (by decide)).trans ((va_up_ne _ _ (by decide)).trans ((va_up_ne _ _ (by decide)).trans h_1009))), ((va_up_ne _ _ (by decide)).trans ((va_up_ne _ _ (by decide)).trans ((va_up_ne _ _ (by decide)).trans h_1010))), ((va_up_ne _ _ (by decide)).trans ((va_up_ne _ _ (by decide)).trans ((va_up_ne _ _ (by decide)).trans h_1011))), ((va_up_ne _ _ (by decide)).trans ((va_up_ne _ _ (by decide)).trans ((va_up_ne _ _ (by decide)).trans h_1012))), ((va_up_ne _ _ (by decide)).trans ((va_up_ne _ _ (by decide)).trans ((va_up_ne _ _ (by decide)).trans h_1013))), ((va_up_ne _ _ (by decide)).trans ((va_up_ne _ _ (by decide)).trans ((va_up_ne _ _ (by decide)).trans h_1014))), ((va_up_ne _ _ (by decide)).trans ((va_up_ne _ _ (by decide)).trans ((va_up_ne _ _ (by decide)).trans h_1015))), ((va_up_ne _ _ (by decide)).trans ((va_up_ne _ _ (by decide)).trans ((va_up_ne _ _ (by decide)).trans h_1016))), ((va_up_ne _ _ (by decide)).trans ((va_up_ne _ _ (by decide)).trans ((va_up_ne _ _ (by decide)).trans h_1019))), ((va_up_ne _ _ (by decide)).trans ((va_up_ne _ _ (by decide)).trans ((va_up_ne _ _ (by decide)).trans h_1020))), ((va_up_ne _ _ (by decide)).trans ((va_up_ne _ _ (by decide)).trans ((va_up_ne _ _ (by decide)).trans h_1021))), ((va_up_ne _ _ (by decide)).trans ((va_up_ne _ _ (by decide)).trans ((va_up_ne _ _ (by decide)).trans h_1022))), ((va_up_ne _ _ (by decide)).trans ((va_up_ne _ _ (by decide)).trans ((va_up_ne _ _ (by decide)).trans h_1024))), ((va_up_ne _ _ (by decide)).trans ((va_up_ne _ _ (by decide)).trans ((va_up_ne _ _ (by decide)).trans h_1025))), ((va_up_ne _ _ (by decide)).trans ((va_up_ne _ _ (by decide)).trans (va_up_self _ _ _))), ((va_up_ne _ _ (by decide)).trans ((va_up_ne _ _ (by decide)).trans ((va_up_ne _ _ (by decide)).trans h_1027))), ((va_up_ne _ _ (by decide)).trans ((va_up_ne _ _ (by decide)).trans ((va_up_ne _ _ (by decide)).trans h_1028))), ((va_up_ne _ _ (by decide)).trans (va_up_self _ _ _)), (va_up_self _ _ _), ((va_up_ne _ _ (by decide)).trans ((va_up_ne _ _ (by decide)).trans ((va_up_ne _ _ (by decide)).trans h_1032)))⟩⟩
  · skip
    refine b_icmp_ne_t 61 hx hb dX9_ask_49 (by decide) (fun h8 => hi ((i_eq _ _).mpr h8)) ?_
    refine lv_iconst (v := 0) hx hb dX9_ask_61 (by decide) ?_
    refine b_topi (w := t) (by rw [ht, if_neg hi]) ?_
    have tI_q : (nI q).toInt = (q : Int) := nI_toInt (by omega)
    refine lv_istore (lv' := [(4, .int t), (0, .ref (ad 1000)), (1, .int (nI b)), (2, .int (nI j)), (3, .int tp)]) hx hb dX9_ask_62 hl (by decide) rfl (fun ls hl => ?_)
    refine lv_iload hx hb dX9_ask_64 (lv_at hl 0 rfl) ?_
    refine lv_iconst (v := 2) hx hb dX9_ask_66 (by decide) ?_
    refine b_icmp_ne_t 73 hx hb dX9_ask_67 (by decide) (fun h8 => ht2 ((i_eq _ _).mpr h8)) ?_
    refine lv_aload_n hx hb dX9_ask_73 rfl (lv_at hl 1 rfl) ?_
    refine lv_iload_n hx hb dX9_ask_74 rfl (lv_at hl 3 rfl) ?_
    refine lv_iload_n hx hb dX9_ask_75 rfl (lv_at hl 4 rfl) ?_
    refine m_callVE (ci := 9) (As := [.int (nI j), .int tp]) (rest := []) (c_M_find_t l D ty L ad _ a dn pn en qn mz nw lo tr (nI j) tp q hM hqn hq9 hyes hno) ⟨hx, hb, hml, hown, hts⟩ (cwV 2 hts gX9_ask_X9_find rfl rfl rfl (by decide +kernel) ⟨Nat.le_of_ble_eq_true rfl, Nat.le_of_ble_eq_true rfl⟩) hB (hL 1000 (by decide)) h_1000 rfl rfl hl.1 rfl (Nat.le_of_ble_eq_true rfl) dX9_ask_76 ⟨Nat.le_of_ble_eq_true rfl, Nat.le_of_ble_eq_true rfl⟩ (fun H locs hB => ?_)
    refine lv_istore (lv' := [(5, .int (nI q)), (4, .int t), (0, .ref (ad 1000)), (1, .int (nI b)), (2, .int (nI j)), (3, .int tp)]) hx hb dX9_ask_79 hl (by decide) rfl (fun ls hl => ?_)
    refine lv_iload hx hb dX9_ask_81 (lv_at hl 0 rfl) ?_
    refine b_if_ge_t 98 hx hb dX9_ask_83 (by decide) (by have := (by decide : (0 : Int32).toInt = 0); omega) ?_
    refine lv_iload hx hb dX9_ask_98 (lv_at hl 0 rfl) ?_
    refine b_if_ge_t 151 hx hb dX9_ask_100 (by decide) (by have := (by decide : (0 : Int32).toInt = 0); omega) ?_
    refine lv_aload_n hx hb dX9_ask_151 rfl (lv_at hl 2 rfl) ?_
    refine m_get (C := RX9) (T := TX9) (N := 33) (ci := 9) hx hb hts in_X9_ask_X9 hown hB (hL 1000 (by decide)) h_1000 rfl 25 (by decide) (hts (.fieldLink RX9 68 "PaperRoomModel" "askers" "[I") (by decide +kernel)) (fun _ h9 => h9) rfl dX9_ask_152 ?_
    refine lv_iload hx hb dX9_ask_155 (lv_at hl 0 rfl) ?_
    refine lv_dup2_11 hx hb dX9_ask_157 rfl rfl ?_
    refine n_iald hx hb hB (hL 1026 (by decide)) h_1026 q rfl (by omega) (by omega) dX9_ask_158 ?_
    refine lv_iconst (v := 1) hx hb dX9_ask_159 (by decide) ?_
    refine lv_iload_n hx hb dX9_ask_160 rfl (lv_at hl 3 rfl) ?_
    refine lv_ishl hx hb dX9_ask_161 ?_
    refine lv_ior hx hb dX9_ask_162 ?_
    refine n_iast hx hb hB (hL 1026 (by decide)) h_1026 q rfl (by omega) (by omega) dX9_ask_163 (fun H locs hB => ?_)
    replace hB : m_B D ty A s L ad (va_up g 1026 (.inl (ty 0, 30, .inl (upd (a 25) q (((a 25) q) ||| (1 <<< ((nI b) &&& 31))))))) H locs := hB
    refine lv_aload_n hx hb dX9_ask_164 rfl (lv_at hl 2 rfl) ?_
    refine m_get (C := RX9) (T := TX9) (N := 33) (ci := 9) hx hb hts in_X9_ask_X9 hown hB (hL 1000 (by decide)) ((va_up_ne _ _ (by decide)).trans h_1000) rfl 28 (by decide) (hts (.fieldLink RX9 77 "PaperRoomModel" "askedIn" "[I") (by decide +kernel)) (fun _ h9 => h9) rfl dX9_ask_165 ?_
    refine lv_iload_n hx hb dX9_ask_168 rfl (lv_at hl 3 rfl) ?_
    refine lv_aload_n hx hb dX9_ask_169 rfl (lv_at hl 2 rfl) ?_
    refine m_get (C := RX9) (T := TX9) (N := 33) (ci := 9) hx hb hts in_X9_ask_X9 hown hB (hL 1000 (by decide)) ((va_up_ne _ _ (by decide)).trans h_1000) rfl 2 (by decide) (hts (.fieldLink RX9 86 "PaperRoomModel" "now" "I") (by decide +kernel)) (fun _ h9 => h9) rfl dX9_ask_170 ?_
    refine n_iast hx hb hB (hL 1029 (by decide)) ((va_up_ne _ _ (by decide)).trans h_1029) b rfl (by omega) (by omega) dX9_ask_173 (fun H locs hB => ?_)
    replace hB : m_B D ty A s L ad (va_up (va_up g 1026 (.inl (ty 0, 30, .inl (upd (a 25) q (((a 25) q) ||| (1 <<< ((nI b) &&& 31))))))) 1029 (.inl (ty 0, 6, .inl (upd (a 28) b nw)))) H locs := hB
    refine lv_aload_n hx hb dX9_ask_174 rfl (lv_at hl 2 rfl) ?_
    refine m_get (C := RX9) (T := TX9) (N := 33) (ci := 9) hx hb hts in_X9_ask_X9 hown hB (hL 1000 (by decide)) ((va_up_ne _ _ (by decide)).trans ((va_up_ne _ _ (by decide)).trans h_1000)) rfl 29 (by decide) (hts (.fieldLink RX9 80 "PaperRoomModel" "askedTimes" "[I") (by decide +kernel)) (fun _ h9 => h9) rfl dX9_ask_175 ?_
    refine lv_iload_n hx hb dX9_ask_178 rfl (lv_at hl 3 rfl) ?_
    refine lv_iload hx hb dX9_ask_179 (lv_at hl 1 rfl) ?_
    refine lv_iconst (v := 1) hx hb dX9_ask_181 (by decide) ?_
    refine lv_iadd hx hb dX9_ask_182 ?_
    refine n_iast hx hb hB (hL 1030 (by decide)) ((va_up_ne _ _ (by decide)).trans ((va_up_ne _ _ (by decide)).trans h_1030)) b rfl (by omega) (by omega) dX9_ask_183 (fun H locs hB => ?_)
    replace hB : m_B D ty A s L ad (va_up (va_up (va_up g 1026 (.inl (ty 0, 30, .inl (upd (a 25) q (((a 25) q) ||| (1 <<< ((nI b) &&& 31))))))) 1029 (.inl (ty 0, 6, .inl (upd (a 28) b nw)))) 1030 (.inl (ty 0, 6, .inl (upd (a 29) b (t + 1))))) H locs := hB
    refine lv_iload hx hb dX9_ask_184 (lv_at hl 0 rfl) ?_
    exact m_iret hx hb hrt hlocks hB (Nat.le_refl _) (Nat.le_refl _) dX9_ask_186 ⟨rfl, rfl, rfl, (fun x hx => ((va_up_ne _ _ (by omega)).trans ((va_up_ne _ _ (by omega)).trans ((va_up_ne _ _ (by omega)).trans rfl)))), ⟨hL, ((va_up_ne _ _ (by decide)).trans ((va_up_ne _ _ (by decide)).trans ((va_up_ne _ _ (by decide)).trans h_1000))), ((va_up_ne _ _ (by decide)).trans ((va_up_ne _ _ (by decide)).trans ((va_up_ne _ _ (by decide)).trans h_1002))), ((va_up_ne _ _ (by decide)).trans ((va_up_ne _ _ (by decide)).trans ((va_up_ne _ _ (by decide)).trans h_1004))), ((va_up_ne _ _ (by decide)).trans ((va_up_ne _ _ (by decide)).trans ((va_up_ne _ _ (by decide)).trans h_1005))), ((va_up_ne _ _ (by decide)).trans ((va_up_ne _ _ (by decide)).trans ((va_up_ne _ _ (by decide)).trans h_1007))), ((va_up_ne _ _ (by decide)).trans ((va_up_ne _ _ (by decide)).trans ((va_up_ne _ _ (by decide)).trans h_1008))), ((va_up_ne _ _ (by decide)).trans ((va_up_ne _ _ (by decide)).trans ((va_up_ne _ _ (by decide)).trans h_1009))), ((va_up_ne _ _ (by decide)).trans ((va_up_ne _ _ (by decide)).trans ((va_up_ne _ _ (by decide)).trans h_1010))), ((va_up_ne _ _ (by decide)).trans ((va_up_ne _ _ (by decide)).trans ((va_up_ne _ _ (by decide)).trans h_1011))), ((va_up_ne _ _ (by decide)).trans ((va_up_ne _ _ (by decide)).trans ((va_up_ne _ _ (by decide)).trans h_1012))), ((va_up_ne _ _ (by decide)).trans ((va_up_ne _ _ (by decide)).trans ((va_up_ne _ _ (by decide)).trans h_1013))), ((va_up_ne _ _ (by decide)).trans ((va_up_ne _ _ (by decide)).trans ((va_up_ne _ _ (by decide)).trans h_1014))), ((va_up_ne _ _ (by decide)).trans ((va_up_ne _ _ (by decide)).trans ((va_up_ne _ _ (by decide)).trans h_1015))), ((va_up_ne _ _ (by decide)).trans ((va_up_ne _ _ (by decide)).trans ((va_up_ne _ _ (by decide)).trans h_1016))), ((va_up_ne _ _ (by decide)).trans ((va_up_ne _ _ (by decide)).trans ((va_up_ne _ _ (by decide)).trans h_1019))), ((va_up_ne _ _ (by decide)).trans ((va_up_ne _ _ (by decide)).trans ((va_up_ne _ _ (by decide)).trans h_1020))), ((va_up_ne _ _ (by decide)).trans ((va_up_ne _ _ (by decide)).trans ((va_up_ne _ _ (by decide)).trans h_1021))), ((va_up_ne _ _ (by decide)).trans ((va_up_ne _ _ (by decide)).trans ((va_up_ne _ _ (by decide)).trans h_1022))), ((va_up_ne _ _ (by decide)).trans ((va_up_ne _ _ (by decide)).trans ((va_up_ne _ _ (by decide)).trans h_1024))), ((va_up_ne _ _ (by decide)).trans ((va_up_ne _ _ (by decide)).trans ((va_up_ne _ _ (by decide)).trans h_1025))), ((va_up_ne _ _ (by decide)).trans ((va_up_ne _ _ (by decide)).trans (va_up_self _ _ _))), ((va_up_ne _ _ (by decide)).trans ((va_up_ne _ _ (by decide)).trans ((va_up_ne _ _ (by decide)).trans h_1027))), ((va_up_ne _ _ (by decide)).trans ((va_up_ne _ _ (by decide)).trans ((va_up_ne _ _ (by decide)).trans h_1028))), ((va_up_ne _ _ (by decide)).trans (va_up_self _ _ _)), (va_up_self _ _ _), ((va_up_ne _ _ (by decide)).trans ((va_up_ne _ _ (by decide)).trans ((va_up_ne _ _ (by decide)).trans h_1032)))⟩⟩
set_option maxHeartbeats 1000000 in
set_option maxRecDepth 100000 in
theorem c_M_ask_new (l : Launch) (D : va_G) (ty : Nat → ClassId) (L : List Nat) (ad : Nat → Nat) (g : Nat → va_E) (a : Nat → Nat → Int32) (dn pn en qn mz : Nat) (nw lo : Int32) (tr : Int64) (b j fo : Nat) (tp t : Int32) (hM : RM ty L ad g a dn pn en qn mz nw lo tr) (hj9 : j < pn) (hpn : pn ≤ 8) (htp : 0 ≤ tp.toInt ∧ tp.toInt < 10) (hb6 : b < 6) (hfo : a 7 j = nI fo) (hfo4 : fo < 4) (hw : a 9 j = 0 ∨ a 9 j = 1) (hs : seeB (a 6 j) (a 9 j) (a 8 j) (a 3) (a 4) (b % 3 * 4 + fo) nw = true) (ht : t = if a 28 b = nw then a 29 b else 0) (ht2 : ¬ t = 2) (hqn : qn < 30) (hno : ∀ i, i < qn → ¬ (a 23 i = nI j ∧ a 24 i = tp)) : m_C l yX9_ask wsX9_ask 2 43 0 0 D ty [.ref (ad 1000), .int (nI b), .int (nI j), .int tp] L ad g (fun v1 L1 ad1 g1 => v1 = (some (.int (nI qn))) ∧ L1 = L ∧ ad1 = ad ∧ (∀ x, x < 1000 → g1 x = g x) ∧ RM ty L ad g1 (askA (qsA a qn (nI j) tp) b qn nw t) dn pn en (qn + 1) mz nw lo tr) := by
  intro sz
  refine Met.ofW (cc := cX9_ask) (maxL := 6) (ret := (some .int)) (by decide) rfl ?_
  intro p e s m args below meth c s₁ B hml hv
  have hx := B.exec
  have hb := B.bytes
  have hrt := B.returns
  have hts := atoms_spec (ws := wsX9_ask) B.pre
  have hown : s.vm.findClass RX9 = some m.cls := findClass_of_methodNamed B.named
  have hlocks := B.notSynchronized
  obtain ⟨rfl, hB⟩ := m_start hv
  generalize va_A (m_w L ad g) sz = A at hB ⊢
  generalize s.heap = H at hB ⊢
  generalize ([] : List Loc) = locs at hB ⊢
  have hl := lv_entry ([.ref (ad 1000), .int (nI b), .int (nI j), .int tp]) (n := 6) (Nat.le_of_ble_eq_true rfl)
  rw [lg_entry_eq]
  generalize (lg_sl ([.ref (ad 1000), .int (nI b), .int (nI j), .int tp]) ++ List.replicate (6 - (lg_sl ([.ref (ad 1000), .int (nI b), .int (nI j), .int tp])).length) Slot.unset).toArray = ls at hl ⊢
  have hl : lv_has ls 6 [(0, .ref (ad 1000)), (1, .int (nI b)), (2, .int (nI j)), (3, .int tp)] := hl
  obtain ⟨hL, h_1000, h_1002, h_1004, h_1005, h_1007, h_1008, h_1009, h_1010, h_1011, h_1012, h_1013, h_1014, h_1015, h_1016, h_1019, h_1020, h_1021, h_1022, h_1024, h_1025, h_1026, h_1027, h_1028, h_1029, h_1030, h_1032⟩ := id hM
  have hj8 : j < 8 := by omega
  have l0 : (0 : Int32).toInt = 0 := by decide
  have l9 : (9 : Int32).toInt = 9 := by decide
  have l2 : (2 : Int32).toInt = 2 := by decide
  have l30 : (30 : Int32).toInt = 30 := by decide
  refine lv_iload_n hx hb dX9_ask_0 rfl (lv_at hl 1 rfl) ?_
  refine m_callSE (As := [.int (nI b)]) (rest := []) (c_M_isBidder_t l D ty L ad _ b hb6) ⟨hx, hb, hml, hown, hts⟩ (va_cwS 1 hts gX9_ask_X9_isBidder rfl rfl rfl (by decide +kernel) ⟨Nat.le_of_ble_eq_true rfl, Nat.le_of_ble_eq_true rfl⟩) hB rfl hl.1 rfl (Nat.le_of_ble_eq_true rfl) dX9_ask_1 ⟨Nat.le_of_ble_eq_true rfl, Nat.le_of_ble_eq_true rfl⟩ (fun H locs hB => ?_)
  refine b_if_eq_f 25 hx hb dX9_ask_4 (by decide) (by decide) ?_
  refine lv_aload_n hx hb dX9_ask_7 rfl (lv_at hl 0 rfl) ?_
  refine lv_iload_n hx hb dX9_ask_8 rfl (lv_at hl 2 rfl) ?_
  refine m_callVE (ci := 9) (As := [.int (nI j)]) (rest := []) (c_M_isPaper_t l D ty L ad _ a dn pn en qn mz nw lo tr j hM hj9 hpn) ⟨hx, hb, hml, hown, hts⟩ (cwV 1 hts gX9_ask_X9_isPaper rfl rfl rfl (by decide +kernel) ⟨Nat.le_of_ble_eq_true rfl, Nat.le_of_ble_eq_true rfl⟩) hB (hL 1000 (by decide)) h_1000 rfl rfl hl.1 rfl (Nat.le_of_ble_eq_true rfl) dX9_ask_9 ⟨Nat.le_of_ble_eq_true rfl, Nat.le_of_ble_eq_true rfl⟩ (fun H locs hB => ?_)
  refine b_if_eq_f 25 hx hb dX9_ask_12 (by decide) (by decide) ?_
  refine lv_iload_n hx hb dX9_ask_15 rfl (lv_at hl 3 rfl) ?_
  refine lv_iconst (v := 0) hx hb dX9_ask_16 (by decide) ?_
  refine lv_bipush (v := 9) hx hb dX9_ask_17 (by decide) ?_
  refine m_callSE (As := [.int tp, .int 0, .int 9]) (rest := []) (c_M_in_t l D ty L ad _ _ _ _ (by omega) (by omega)) ⟨hx, hb, hml, hown, hts⟩ (va_cwS 3 hts gX9_ask_X9_in rfl rfl rfl (by decide +kernel) ⟨Nat.le_of_ble_eq_true rfl, Nat.le_of_ble_eq_true rfl⟩) hB rfl hl.1 rfl (Nat.le_of_ble_eq_true rfl) dX9_ask_19 ⟨Nat.le_of_ble_eq_true rfl, Nat.le_of_ble_eq_true rfl⟩ (fun H locs hB => ?_)
  refine b_if_ne_t 27 hx hb dX9_ask_22 (by decide) (by decide) ?_
  refine lv_aload_n hx hb dX9_ask_27 rfl (lv_at hl 0 rfl) ?_
  refine lv_iload_n hx hb dX9_ask_28 rfl (lv_at hl 1 rfl) ?_
  refine lv_iload_n hx hb dX9_ask_29 rfl (lv_at hl 2 rfl) ?_
  refine m_callVE (ci := 9) (As := [.int (nI b), .int (nI j)]) (rest := []) (c_M_sees l D ty L ad _ a dn pn en qn mz nw lo tr b j fo hM hb6 hj8 hfo hfo4 hw) ⟨hx, hb, hml, hown, hts⟩ (cwV 2 hts gX9_ask_X9_sees rfl rfl rfl (by decide +kernel) ⟨Nat.le_of_ble_eq_true rfl, Nat.le_of_ble_eq_true rfl⟩) hB (hL 1000 (by decide)) h_1000 rfl rfl hl.1 rfl (Nat.le_of_ble_eq_true rfl) dX9_ask_30 ⟨Nat.le_of_ble_eq_true rfl, Nat.le_of_ble_eq_true rfl⟩ (fun H locs hB => ?_)
  refine b_if_ne_t 39 hx hb dX9_ask_33 (by decide) (by rw [hs]; decide) ?_
  refine lv_aload_n hx hb dX9_ask_39 rfl (lv_at hl 0 rfl) ?_
  refine m_get (C := RX9) (T := TX9) (N := 33) (ci := 9) hx hb hts in_X9_ask_X9 hown hB (hL 1000 (by decide)) h_1000 rfl 28 (by decide) (hts (.fieldLink RX9 77 "PaperRoomModel" "askedIn" "[I") (by decide +kernel)) (fun _ h9 => h9) rfl dX9_ask_40 ?_
  refine lv_iload_n hx hb dX9_ask_43 rfl (lv_at hl 1 rfl) ?_
  refine n_iald hx hb hB (hL 1029 (by decide)) h_1029 b rfl (by omega) (by omega) dX9_ask_44 ?_
  refine lv_aload_n hx hb dX9_ask_45 rfl (lv_at hl 0 rfl) ?_
  refine m_get (C := RX9) (T := TX9) (N := 33) (ci := 9) hx hb hts in_X9_ask_X9 hown hB (hL 1000 (by decide)) h_1000 rfl 2 (by decide) (hts (.fieldLink RX9 86 "PaperRoomModel" "now" "I") (by decide +kernel)) (fun _ h9 => h9) rfl dX9_ask_46 ?_
  by_cases hi : a 28 b = nw
  · skip
    refine b_icmp_ne_f 61 hx hb dX9_ask_49 (by decide) (by rw [hi]) ?_
    refine lv_aload_n hx hb dX9_ask_52 rfl (lv_at hl 0 rfl) ?_
    refine m_get (C := RX9) (T := TX9) (N := 33) (ci := 9) hx hb hts in_X9_ask_X9 hown hB (hL 1000 (by decide)) h_1000 rfl 29 (by decide) (hts (.fieldLink RX9 80 "PaperRoomModel" "askedTimes" "[I") (by decide +kernel)) (fun _ h9 => h9) rfl dX9_ask_53 ?_
    refine lv_iload_n hx hb dX9_ask_56 rfl (lv_at hl 1 rfl) ?_
    refine n_iald hx hb hB (hL 1030 (by decide)) h_1030 b rfl (by omega) (by omega) dX9_ask_57 ?_
    refine lv_goto (tgt := 62) hx hb dX9_ask_58 (by decide) ?_
    refine b_topi (w := t) (by rw [ht, if_pos hi]) ?_
    refine lv_istore (lv' := [(4, .int t), (0, .ref (ad 1000)), (1, .int (nI b)), (2, .int (nI j)), (3, .int tp)]) hx hb dX9_ask_62 hl (by decide) rfl (fun ls hl => ?_)
    refine lv_iload hx hb dX9_ask_64 (lv_at hl 0 rfl) ?_
    refine lv_iconst (v := 2) hx hb dX9_ask_66 (by decide) ?_
    refine b_icmp_ne_t 73 hx hb dX9_ask_67 (by decide) (fun h8 => ht2 ((i_eq _ _).mpr h8)) ?_
    refine lv_aload_n hx hb dX9_ask_73 rfl (lv_at hl 1 rfl) ?_
    refine lv_iload_n hx hb dX9_ask_74 rfl (lv_at hl 3 rfl) ?_
    refine lv_iload_n hx hb dX9_ask_75 rfl (lv_at hl 4 rfl) ?_
    refine m_callVE (ci := 9) (As := [.int (nI j), .int tp]) (rest := []) (c_M_find_f l D ty L ad _ a dn pn en qn mz nw lo tr (nI j) tp hM (by omega) hno) ⟨hx, hb, hml, hown, hts⟩ (cwV 2 hts gX9_ask_X9_find rfl rfl rfl (by decide +kernel) ⟨Nat.le_of_ble_eq_true rfl, Nat.le_of_ble_eq_true rfl⟩) hB (hL 1000 (by decide)) h_1000 rfl rfl hl.1 rfl (Nat.le_of_ble_eq_true rfl) dX9_ask_76 ⟨Nat.le_of_ble_eq_true rfl, Nat.le_of_ble_eq_true rfl⟩ (fun H locs hB => ?_)
    refine lv_istore (lv' := [(5, .int (-1)), (4, .int t), (0, .ref (ad 1000)), (1, .int (nI b)), (2, .int (nI j)), (3, .int tp)]) hx hb dX9_ask_79 hl (by decide) rfl (fun ls hl => ?_)
    refine lv_iload hx hb dX9_ask_81 (lv_at hl 0 rfl) ?_
    refine b_if_ge_f 98 hx hb dX9_ask_83 (by decide) (by decide) ?_
    refine lv_aload_n hx hb dX9_ask_86 rfl (lv_at hl 2 rfl) ?_
    refine m_get (C := RX9) (T := TX9) (N := 33) (ci := 9) hx hb hts in_X9_ask_X9 hown hB (hL 1000 (by decide)) h_1000 rfl 22 (by decide) (hts (.fieldLink RX9 153 "PaperRoomModel" "questions" "I") (by decide +kernel)) (fun _ h9 => h9) rfl dX9_ask_87 ?_
    refine lv_bipush (v := 30) hx hb dX9_ask_90 (by decide) ?_
    refine b_icmp_ne_t 98 hx hb dX9_ask_92 (by decide) (by rw [nI_toInt (by omega), l30]; omega) ?_
    refine lv_iload hx hb dX9_ask_98 (lv_at hl 0 rfl) ?_
    refine b_if_ge_f 151 hx hb dX9_ask_100 (by decide) (by decide) ?_
    refine lv_aload_n hx hb dX9_ask_103 rfl (lv_at hl 2 rfl) ?_
    refine m_get (C := RX9) (T := TX9) (N := 33) (ci := 9) hx hb hts in_X9_ask_X9 hown hB (hL 1000 (by decide)) h_1000 rfl 22 (by decide) (hts (.fieldLink RX9 153 "PaperRoomModel" "questions" "I") (by decide +kernel)) (fun _ h9 => h9) rfl dX9_ask_104 ?_
    refine lv_istore (lv' := [(5, .int (nI qn)), (4, .int t), (0, .ref (ad 1000)), (1, .int (nI b)), (2, .int (nI j)), (3, .int tp)]) hx hb dX9_ask_107 hl (by decide) rfl (fun ls hl => ?_)
    refine lv_aload_n hx hb dX9_ask_109 rfl (lv_at hl 2 rfl) ?_
    refine lv_dup hx hb dX9_ask_110 rfl ?_
    refine m_get (C := RX9) (T := TX9) (N := 33) (ci := 9) hx hb hts in_X9_ask_X9 hown hB (hL 1000 (by decide)) h_1000 rfl 22 (by decide) (hts (.fieldLink RX9 153 "PaperRoomModel" "questions" "I") (by decide +kernel)) (fun _ h9 => h9) rfl dX9_ask_111 ?_
    refine lv_iconst (v := 1) hx hb dX9_ask_114 (by decide) ?_
    refine lv_iadd hx hb dX9_ask_115 ?_
    refine b_topi (w := nI (qn + 1)) (nI_add qn 1) ?_
    refine m_put (C := RX9) (T := TX9) (N := 33) (ci := 9) (v := .int (nI (qn + 1))) (ft := .int) hx hb hts in_X9_ask_X9 tyX9 tyX9_ok nmX9 hown hB (hL 1000 (by decide)) h_1000 rfl 22 (by decide) (hts (.fieldLink RX9 153 "PaperRoomModel" "questions" "I") (by decide +kernel)) (fun _ h9 => h9) rfl (by decide +kernel) rfl rfl (Nat.le_of_ble_eq_true rfl) dX9_ask_116 (fun H locs hB => ?_)
    replace hB : m_B D ty A s L ad (va_up g 1000 (.inr (9, [.int (nI dn), .ref (ad 1002), .int nw, .ref (ad 1004), .ref (ad 1005), .int (nI pn), .ref (ad 1007), .ref (ad 1008), .ref (ad 1009), .ref (ad 1010), .ref (ad 1011), .ref (ad 1012), .ref (ad 1013), .ref (ad 1014), .ref (ad 1015), .ref (ad 1016), .int (nI en), .int lo, .ref (ad 1019), .ref (ad 1020), .ref (ad 1021), .ref (ad 1022), .int (nI (qn + 1)), .ref (ad 1024), .ref (ad 1025), .ref (ad 1026), .ref (ad 1027), .ref (ad 1028), .ref (ad 1029), .ref (ad 1030), .long tr, .ref (ad 1032), .int (nI mz)]))) H locs := hB
    refine lv_aload_n hx hb dX9_ask_119 rfl (lv_at hl 2 rfl) ?_
    refine m_get (C := RX9) (T := TX9) (N := 33) (ci := 9) hx hb hts in_X9_ask_X9 hown hB (hL 1000 (by decide)) (va_up_self _ _ _) rfl 23 (by decide) (hts (.fieldLink RX9 62 "PaperRoomModel" "questionPaper" "[I") (by decide +kernel)) (fun _ h9 => h9) rfl dX9_ask_120 ?_
    refine lv_iload hx hb dX9_ask_123 (lv_at hl 0 rfl) ?_
    refine lv_iload_n hx hb dX9_ask_125 rfl (lv_at hl 4 rfl) ?_
    refine n_iast hx hb hB (hL 1024 (by decide)) ((va_up_ne _ _ (by decide)).trans h_1024) qn rfl (by omega) (by omega) dX9_ask_126 (fun H locs hB => ?_)
    replace hB : m_B D ty A s L ad (va_up (va_up g 1000 (.inr (9, [.int (nI dn), .ref (ad 1002), .int nw, .ref (ad 1004), .ref (ad 1005), .int (nI pn), .ref (ad 1007), .ref (ad 1008), .ref (ad 1009), .ref (ad 1010), .ref (ad 1011), .ref (ad 1012), .ref (ad 1013), .ref (ad 1014), .ref (ad 1015), .ref (ad 1016), .int (nI en), .int lo, .ref (ad 1019), .ref (ad 1020), .ref (ad 1021), .ref (ad 1022), .int (nI (qn + 1)), .ref (ad 1024), .ref (ad 1025), .ref (ad 1026), .ref (ad 1027), .ref (ad 1028), .ref (ad 1029), .ref (ad 1030), .long tr, .ref (ad 1032), .int (nI mz)]))) 1024 (.inl (ty 0, 30, .inl (upd (a 23) qn (nI j))))) H locs := hB
    refine lv_aload_n hx hb dX9_ask_127 rfl (lv_at hl 2 rfl) ?_
    refine m_get (C := RX9) (T := TX9) (N := 33) (ci := 9) hx hb hts in_X9_ask_X9 hown hB (hL 1000 (by decide)) ((va_up_ne _ _ (by decide)).trans (va_up_self _ _ _)) rfl 24 (by decide) (hts (.fieldLink RX9 65 "PaperRoomModel" "questionTopic" "[I") (by decide +kernel)) (fun _ h9 => h9) rfl dX9_ask_128 ?_
    refine lv_iload hx hb dX9_ask_131 (lv_at hl 0 rfl) ?_
    refine lv_iload_n hx hb dX9_ask_133 rfl (lv_at hl 5 rfl) ?_
    refine n_iast hx hb hB (hL 1025 (by decide)) ((va_up_ne _ _ (by decide)).trans ((va_up_ne _ _ (by decide)).trans h_1025)) qn rfl (by omega) (by omega) dX9_ask_134 (fun H locs hB => ?_)
    replace hB : m_B D ty A s L ad (va_up (va_up (va_up g 1000 (.inr (9, [.int (nI dn), .ref (ad 1002), .int nw, .ref (ad 1004), .ref (ad 1005), .int (nI pn), .ref (ad 1007), .ref (ad 1008), .ref (ad 1009), .ref (ad 1010), .ref (ad 1011), .ref (ad 1012), .ref (ad 1013), .ref (ad 1014), .ref (ad 1015), .ref (ad 1016), .int (nI en), .int lo, .ref (ad 1019), .ref (ad 1020), .ref (ad 1021), .ref (ad 1022), .int (nI (qn + 1)), .ref (ad 1024), .ref (ad 1025), .ref (ad 1026), .ref (ad 1027), .ref (ad 1028), .ref (ad 1029), .ref (ad 1030), .long tr, .ref (ad 1032), .int (nI mz)]))) 1024 (.inl (ty 0, 30, .inl (upd (a 23) qn (nI j))))) 1025 (.inl (ty 0, 30, .inl (upd (a 24) qn tp)))) H locs := hB
    refine lv_aload_n hx hb dX9_ask_135 rfl (lv_at hl 2 rfl) ?_
    refine m_get (C := RX9) (T := TX9) (N := 33) (ci := 9) hx hb hts in_X9_ask_X9 hown hB (hL 1000 (by decide)) ((va_up_ne _ _ (by decide)).trans ((va_up_ne _ _ (by decide)).trans (va_up_self _ _ _))) rfl 25 (by decide) (hts (.fieldLink RX9 68 "PaperRoomModel" "askers" "[I") (by decide +kernel)) (fun _ h9 => h9) rfl dX9_ask_136 ?_
    refine lv_iload hx hb dX9_ask_139 (lv_at hl 0 rfl) ?_
    refine lv_iconst (v := 0) hx hb dX9_ask_141 (by decide) ?_
    refine n_iast hx hb hB (hL 1026 (by decide)) ((va_up_ne _ _ (by decide)).trans ((va_up_ne _ _ (by decide)).trans ((va_up_ne _ _ (by decide)).trans h_1026))) qn rfl (by omega) (by omega) dX9_ask_142 (fun H locs hB => ?_)
    replace hB : m_B D ty A s L ad (va_up (va_up (va_up (va_up g 1000 (.inr (9, [.int (nI dn), .ref (ad 1002), .int nw, .ref (ad 1004), .ref (ad 1005), .int (nI pn), .ref (ad 1007), .ref (ad 1008), .ref (ad 1009), .ref (ad 1010), .ref (ad 1011), .ref (ad 1012), .ref (ad 1013), .ref (ad 1014), .ref (ad 1015), .ref (ad 1016), .int (nI en), .int lo, .ref (ad 1019), .ref (ad 1020), .ref (ad 1021), .ref (ad 1022), .int (nI (qn + 1)), .ref (ad 1024), .ref (ad 1025), .ref (ad 1026), .ref (ad 1027), .ref (ad 1028), .ref (ad 1029), .ref (ad 1030), .long tr, .ref (ad 1032), .int (nI mz)]))) 1024 (.inl (ty 0, 30, .inl (upd (a 23) qn (nI j))))) 1025 (.inl (ty 0, 30, .inl (upd (a 24) qn tp)))) 1026 (.inl (ty 0, 30, .inl (upd (a 25) qn 0)))) H locs := hB
    refine lv_aload_n hx hb dX9_ask_143 rfl (lv_at hl 2 rfl) ?_
    refine m_get (C := RX9) (T := TX9) (N := 33) (ci := 9) hx hb hts in_X9_ask_X9 hown hB (hL 1000 (by decide)) ((va_up_ne _ _ (by decide)).trans ((va_up_ne _ _ (by decide)).trans ((va_up_ne _ _ (by decide)).trans (va_up_self _ _ _)))) rfl 26 (by decide) (hts (.fieldLink RX9 71 "PaperRoomModel" "isAnswered" "[I") (by decide +kernel)) (fun _ h9 => h9) rfl dX9_ask_144 ?_
    refine lv_iload hx hb dX9_ask_147 (lv_at hl 0 rfl) ?_
    refine lv_iconst (v := 0) hx hb dX9_ask_149 (by decide) ?_
    refine n_iast hx hb hB (hL 1027 (by decide)) ((va_up_ne _ _ (by decide)).trans ((va_up_ne _ _ (by decide)).trans ((va_up_ne _ _ (by decide)).trans ((va_up_ne _ _ (by decide)).trans h_1027)))) qn rfl (by omega) (by omega) dX9_ask_150 (fun H locs hB => ?_)
    replace hB : m_B D ty A s L ad (va_up (va_up (va_up (va_up (va_up g 1000 (.inr (9, [.int (nI dn), .ref (ad 1002), .int nw, .ref (ad 1004), .ref (ad 1005), .int (nI pn), .ref (ad 1007), .ref (ad 1008), .ref (ad 1009), .ref (ad 1010), .ref (ad 1011), .ref (ad 1012), .ref (ad 1013), .ref (ad 1014), .ref (ad 1015), .ref (ad 1016), .int (nI en), .int lo, .ref (ad 1019), .ref (ad 1020), .ref (ad 1021), .ref (ad 1022), .int (nI (qn + 1)), .ref (ad 1024), .ref (ad 1025), .ref (ad 1026), .ref (ad 1027), .ref (ad 1028), .ref (ad 1029), .ref (ad 1030), .long tr, .ref (ad 1032), .int (nI mz)]))) 1024 (.inl (ty 0, 30, .inl (upd (a 23) qn (nI j))))) 1025 (.inl (ty 0, 30, .inl (upd (a 24) qn tp)))) 1026 (.inl (ty 0, 30, .inl (upd (a 25) qn 0)))) 1027 (.inl (ty 0, 30, .inl (upd (a 26) qn 0)))) H locs := hB
    refine lv_aload_n hx hb dX9_ask_151 rfl (lv_at hl 2 rfl) ?_
    refine m_get (C := RX9) (T := TX9) (N := 33) (ci := 9) hx hb hts in_X9_ask_X9 hown hB (hL 1000 (by decide)) ((va_up_ne _ _ (by decide)).trans ((va_up_ne _ _ (by decide)).trans ((va_up_ne _ _ (by decide)).trans ((va_up_ne _ _ (by decide)).trans (va_up_self _ _ _))))) rfl 25 (by decide) (hts (.fieldLink RX9 68 "PaperRoomModel" "askers" "[I") (by decide +kernel)) (fun _ h9 => h9) rfl dX9_ask_152 ?_
    refine lv_iload hx hb dX9_ask_155 (lv_at hl 0 rfl) ?_
    refine lv_dup2_11 hx hb dX9_ask_157 rfl rfl ?_
    refine n_iald hx hb hB (hL 1026 (by decide)) ((va_up_ne _ _ (by decide)).trans (va_up_self _ _ _)) qn rfl (by omega) (by omega) dX9_ask_158 ?_
    refine lv_iconst (v := 1) hx hb dX9_ask_159 (by decide) ?_
    refine lv_iload_n hx hb dX9_ask_160 rfl (lv_at hl 3 rfl) ?_
    refine lv_ishl hx hb dX9_ask_161 ?_
    refine lv_ior hx hb dX9_ask_162 ?_
    refine n_iast hx hb hB (hL 1026 (by decide)) ((va_up_ne _ _ (by decide)).trans (va_up_self _ _ _)) qn rfl (by omega) (by omega) dX9_ask_163 (fun H locs hB => ?_)
    replace hB : m_B D ty A s L ad (va_up (va_up (va_up (va_up (va_up (va_up g 1000 (.inr (9, [.int (nI dn), .ref (ad 1002), .int nw, .ref (ad 1004), .ref (ad 1005), .int (nI pn), .ref (ad 1007), .ref (ad 1008), .ref (ad 1009), .ref (ad 1010), .ref (ad 1011), .ref (ad 1012), .ref (ad 1013), .ref (ad 1014), .ref (ad 1015), .ref (ad 1016), .int (nI en), .int lo, .ref (ad 1019), .ref (ad 1020), .ref (ad 1021), .ref (ad 1022), .int (nI (qn + 1)), .ref (ad 1024), .ref (ad 1025), .ref (ad 1026), .ref (ad 1027), .ref (ad 1028), .ref (ad 1029), .ref (ad 1030), .long tr, .ref (ad 1032), .int (nI mz)]))) 1024 (.inl (ty 0, 30, .inl (upd (a 23) qn (nI j))))) 1025 (.inl (ty 0, 30, .inl (upd (a 24) qn tp)))) 1026 (.inl (ty 0, 30, .inl (upd (a 25) qn 0)))) 1027 (.inl (ty 0, 30, .inl (upd (a 26) qn 0)))) 1026 (.inl (ty 0, 30, .inl (upd (upd (a 25) qn 0) qn (((upd (a 25) qn 0) qn) ||| (1 <<< ((nI b) &&& 31))))))) H locs := hB
    refine lv_aload_n hx hb dX9_ask_164 rfl (lv_at hl 2 rfl) ?_
    refine m_get (C := RX9) (T := TX9) (N := 33) (ci := 9) hx hb hts in_X9_ask_X9 hown hB (hL 1000 (by decide)) ((va_up_ne _ _ (by decide)).trans ((va_up_ne _ _ (by decide)).trans ((va_up_ne _ _ (by decide)).trans ((va_up_ne _ _ (by decide)).trans ((va_up_ne _ _ (by decide)).trans (va_up_self _ _ _)))))) rfl 28 (by decide) (hts (.fieldLink RX9 77 "PaperRoomModel" "askedIn" "[I") (by decide +kernel)) (fun _ h9 => h9) rfl dX9_ask_165 ?_
    refine lv_iload_n hx hb dX9_ask_168 rfl (lv_at hl 3 rfl) ?_
    refine lv_aload_n hx hb dX9_ask_169 rfl (lv_at hl 2 rfl) ?_
    refine m_get (C := RX9) (T := TX9) (N := 33) (ci := 9) hx hb hts in_X9_ask_X9 hown hB (hL 1000 (by decide)) ((va_up_ne _ _ (by decide)).trans ((va_up_ne _ _ (by decide)).trans ((va_up_ne _ _ (by decide)).trans ((va_up_ne _ _ (by decide)).trans ((va_up_ne _ _ (by decide)).trans (va_up_self _ _ _)))))) rfl 2 (by decide) (hts (.fieldLink RX9 86 "PaperRoomModel" "now" "I") (by decide +kernel)) (fun _ h9 => h9) rfl dX9_ask_170 ?_
    refine n_iast hx hb hB (hL 1029 (by decide)) ((va_up_ne _ _ (by decide)).trans ((va_up_ne _ _ (by decide)).trans ((va_up_ne _ _ (by decide)).trans ((va_up_ne _ _ (by decide)).trans ((va_up_ne _ _ (by decide)).trans ((va_up_ne _ _ (by decide)).trans h_1029)))))) b rfl (by omega) (by omega) dX9_ask_173 (fun H locs hB => ?_)
    replace hB : m_B D ty A s L ad (va_up (va_up (va_up (va_up (va_up (va_up (va_up g 1000 (.inr (9, [.int (nI dn), .ref (ad 1002), .int nw, .ref (ad 1004), .ref (ad 1005), .int (nI pn), .ref (ad 1007), .ref (ad 1008), .ref (ad 1009), .ref (ad 1010), .ref (ad 1011), .ref (ad 1012), .ref (ad 1013), .ref (ad 1014), .ref (ad 1015), .ref (ad 1016), .int (nI en), .int lo, .ref (ad 1019), .ref (ad 1020), .ref (ad 1021), .ref (ad 1022), .int (nI (qn + 1)), .ref (ad 1024), .ref (ad 1025), .ref (ad 1026), .ref (ad 1027), .ref (ad 1028), .ref (ad 1029), .ref (ad 1030), .long tr, .ref (ad 1032), .int (nI mz)]))) 1024 (.inl (ty 0, 30, .inl (upd (a 23) qn (nI j))))) 1025 (.inl (ty 0, 30, .inl (upd (a 24) qn tp)))) 1026 (.inl (ty 0, 30, .inl (upd (a 25) qn 0)))) 1027 (.inl (ty 0, 30, .inl (upd (a 26) qn 0)))) 1026 (.inl (ty 0, 30, .inl (upd (upd (a 25) qn 0) qn (((upd (a 25) qn 0) qn) ||| (1 <<< ((nI b) &&& 31))))))) 1029 (.inl (ty 0, 6, .inl (upd (a 28) b nw)))) H locs := hB
    refine lv_aload_n hx hb dX9_ask_174 rfl (lv_at hl 2 rfl) ?_
    refine m_get (C := RX9) (T := TX9) (N := 33) (ci := 9) hx hb hts in_X9_ask_X9 hown hB (hL 1000 (by decide)) ((va_up_ne _ _ (by decide)).trans ((va_up_ne _ _ (by decide)).trans ((va_up_ne _ _ (by decide)).trans ((va_up_ne _ _ (by decide)).trans ((va_up_ne _ _ (by decide)).trans ((va_up_ne _ _ (by decide)).trans (va_up_self _ _ _))))))) rfl 29 (by decide) (hts (.fieldLink RX9 80 "PaperRoomModel" "askedTimes" "[I") (by decide +kernel)) (fun _ h9 => h9) rfl dX9_ask_175 ?_
    refine lv_iload_n hx hb dX9_ask_178 rfl (lv_at hl 3 rfl) ?_
    refine lv_iload hx hb dX9_ask_179 (lv_at hl 1 rfl) ?_
    refine lv_iconst (v := 1) hx hb dX9_ask_181 (by decide) ?_
    refine lv_iadd hx hb dX9_ask_182 ?_
    refine n_iast hx hb hB (hL 1030 (by decide)) ((va_up_ne _ _ (by decide)).trans ((va_up_ne _ _ (by decide)).trans ((va_up_ne _ _ (by decide)).trans ((va_up_ne _ _ (by decide)).trans ((va_up_ne _ _ (by decide)).trans ((va_up_ne _ _ (by decide)).trans ((va_up_ne _ _ (by decide)).trans h_1030))))))) b rfl (by omega) (by omega) dX9_ask_183 (fun H locs hB => ?_)
    replace hB : m_B D ty A s L ad (va_up (va_up (va_up (va_up (va_up (va_up (va_up (va_up g 1000 (.inr (9, [.int (nI dn), .ref (ad 1002), .int nw, .ref (ad 1004), .ref (ad 1005), .int (nI pn), .ref (ad 1007), .ref (ad 1008), .ref (ad 1009), .ref (ad 1010), .ref (ad 1011), .ref (ad 1012), .ref (ad 1013), .ref (ad 1014), .ref (ad 1015), .ref (ad 1016), .int (nI en), .int lo, .ref (ad 1019), .ref (ad 1020), .ref (ad 1021), .ref (ad 1022), .int (nI (qn + 1)), .ref (ad 1024), .ref (ad 1025), .ref (ad 1026), .ref (ad 1027), .ref (ad 1028), .ref (ad 1029), .ref (ad 1030), .long tr, .ref (ad 1032), .int (nI mz)]))) 1024 (.inl (ty 0, 30, .inl (upd (a 23) qn (nI j))))) 1025 (.inl (ty 0, 30, .inl (upd (a 24) qn tp)))) 1026 (.inl (ty 0, 30, .inl (upd (a 25) qn 0)))) 1027 (.inl (ty 0, 30, .inl (upd (a 26) qn 0)))) 1026 (.inl (ty 0, 30, .inl (upd (upd (a 25) qn 0) qn (((upd (a 25) qn 0) qn) ||| (1 <<< ((nI b) &&& 31))))))) 1029 (.inl (ty 0, 6, .inl (upd (a 28) b nw)))) 1030 (.inl (ty 0, 6, .inl (upd (a 29) b (t + 1))))) H locs := hB
    refine lv_iload hx hb dX9_ask_184 (lv_at hl 0 rfl) ?_
    exact m_iret hx hb hrt hlocks hB (Nat.le_refl _) (Nat.le_refl _) dX9_ask_186 ⟨rfl, rfl, rfl, (fun x hx => ((va_up_ne _ _ (by omega)).trans ((va_up_ne _ _ (by omega)).trans ((va_up_ne _ _ (by omega)).trans ((va_up_ne _ _ (by omega)).trans ((va_up_ne _ _ (by omega)).trans ((va_up_ne _ _ (by omega)).trans ((va_up_ne _ _ (by omega)).trans ((va_up_ne _ _ (by omega)).trans rfl))))))))), ⟨hL, ((va_up_ne _ _ (by decide)).trans ((va_up_ne _ _ (by decide)).trans ((va_up_ne _ _ (by decide)).trans ((va_up_ne _ _ (by decide)).trans ((va_up_ne _ _ (by decide)).trans ((va_up_ne _ _ (by decide)).trans ((va_up_ne _ _ (by decide)).trans (va_up_self _ _ _)))))))), ((va_up_ne _ _ (by decide)).trans ((va_up_ne _ _ (by decide)).trans ((va_up_ne _ _ (by decide)).trans ((va_up_ne _ _ (by decide)).trans ((va_up_ne _ _ (by decide)).trans ((va_up_ne _ _ (by decide)).trans ((va_up_ne _ _ (by decide)).trans ((va_up_ne _ _ (by decide)).trans h_1002)))))))), ((va_up_ne _ _ (by decide)).trans ((va_up_ne _ _ (by decide)).trans ((va_up_ne _ _ (by decide)).trans ((va_up_ne _ _ (by decide)).trans ((va_up_ne _ _ (by decide)).trans ((va_up_ne _ _ (by decide)).trans ((va_up_ne _ _ (by decide)).trans ((va_up_ne _ _ (by decide)).trans h_1004)))))))), ((va_up_ne _ _ (by decide)).trans ((va_up_ne _ _ (by decide)).trans ((va_up_ne _ _ (by decide)).trans ((va_up_ne _ _ (by decide)).trans ((va_up_ne _ _ (by decide)).trans ((va_up_ne _ _ (by decide)).trans ((va_up_ne _ _ (by decide)).trans ((va_up_ne _ _ (by decide)).trans h_1005)))))))), ((va_up_ne _ _ (by decide)).trans ((va_up_ne _ _ (by decide)).trans ((va_up_ne _ _ (by decide)).trans ((va_up_ne _ _ (by decide)).trans ((va_up_ne _ _ (by decide)).trans ((va_up_ne _ _ (by decide)).trans ((va_up_ne _ _ (by decide)).trans ((va_up_ne _ _ (by decide)).trans h_1007)))))))), ((va_up_ne _ _ (by decide)).trans ((va_up_ne _ _ (by decide)).trans ((va_up_ne _ _ (by decide)).trans ((va_up_ne _ _ (by decide)).trans ((va_up_ne _ _ (by decide)).trans ((va_up_ne _ _ (by decide)).trans ((va_up_ne _ _ (by decide)).trans ((va_up_ne _ _ (by decide)).trans h_1008)))))))), ((va_up_ne _ _ (by decide)).trans ((va_up_ne _ _ (by decide)).trans ((va_up_ne _ _ (by decide)).trans ((va_up_ne _ _ (by decide)).trans ((va_up_ne _ _ (by decide)).trans ((va_up_ne _ _ (by decide)).trans ((va_up_ne _ _ (by decide)).trans ((va_up_ne _ _ (by decide)).trans h_1009)))))))), ((va_up_ne _ _ (by decide)).trans ((va_up_ne _ _ (by decide)).trans ((va_up_ne _ _ (by decide)).trans ((va_up_ne _ _ (by decide)).trans ((va_up_ne _ _ (by decide)).trans ((va_up_ne _ _ (by decide)).trans ((va_up_ne _ _ (by decide)).trans ((va_up_ne _ _ (by decide)).trans h_1010)))))))), ((va_up_ne _ _ (by decide)).trans ((va_up_ne _ _ (by decide)).trans ((va_up_ne _ _ (by decide)).trans ((va_up_ne _ _ (by decide)).trans ((va_up_ne _ _ (by decide)).trans ((va_up_ne _ _ (by decide)).trans ((va_up_ne _ _ (by decide)).trans ((va_up_ne _ _ (by decide)).trans h_1011)))))))), ((va_up_ne _ _ (by decide)).trans ((va_up_ne _ _ (by decide)).trans ((va_up_ne _ _ (by decide)).trans ((va_up_ne _ _ (by decide)).trans ((va_up_ne _ _ (by decide)).trans ((va_up_ne _ _ (by decide)).trans ((va_up_ne _ _ (by decide)).trans ((va_up_ne _ _ (by decide)).trans h_1012)))))))), ((va_up_ne _ _ (by decide)).trans ((va_up_ne _ _ (by decide)).trans ((va_up_ne _ _ (by decide)).trans ((va_up_ne _ _ (by decide)).trans ((va_up_ne _ _ (by decide)).trans ((va_up_ne _ _ (by decide)).trans ((va_up_ne _ _ (by decide)).trans ((va_up_ne _ _ (by decide)).trans h_1013)))))))), ((va_up_ne _ _ (by decide)).trans ((va_up_ne _ _ (by decide)).trans ((va_up_ne _ _ (by decide)).trans ((va_up_ne _ _ (by decide)).trans ((va_up_ne _ _ (by decide)).trans ((va_up_ne _ _ (by decide)).trans ((va_up_ne _ _ (by decide)).trans ((va_up_ne _ _ (by decide)).trans h_1014)))))))), ((va_up_ne _ _ (by decide)).trans ((va_up_ne _ _ (by decide)).trans ((va_up_ne _ _ (by decide)).trans ((va_up_ne _ _ (by decide)).trans ((va_up_ne _ _ (by decide)).trans ((va_up_ne _ _ (by decide)).trans ((va_up_ne _ _ (by decide)).trans ((va_up_ne _ _ (by decide)).trans h_1015)))))))), ((va_up_ne _ _ (by decide)).trans ((va_up_ne _ _ (by decide)).trans ((va_up_ne _ _ (by decide)).trans ((va_up_ne _ _ (by decide)).trans ((va_up_ne _ _ (by decide)).trans ((va_up_ne _ _ (by decide)).trans ((va_up_ne _ _ (by decide)).trans ((va_up_ne _ _ (by decide)).trans h_1016)))))))), ((va_up_ne _ _ (by decide)).trans ((va_up_ne _ _ (by decide)).trans ((va_up_ne _ _ (by decide)).trans ((va_up_ne _ _ (by decide)).trans ((va_up_ne _ _ (by decide)).trans ((va_up_ne _ _ (by decide)).trans ((va_up_ne _ _ (by decide)).trans ((va_up_ne _ _ (by decide)).trans h_1019)))))))), ((va_up_ne _ _ (by decide)).trans ((va_up_ne _ _ (by decide)).trans ((va_up_ne _ _ (by decide)).trans ((va_up_ne _ _ (by decide)).trans ((va_up_ne _ _ (by decide)).trans ((va_up_ne _ _ (by decide)).trans ((va_up_ne _ _ (by decide)).trans ((va_up_ne _ _ (by decide)).trans h_1020)))))))), ((va_up_ne _ _ (by decide)).trans ((va_up_ne _ _ (by decide)).trans ((va_up_ne _ _ (by decide)).trans ((va_up_ne _ _ (by decide)).trans ((va_up_ne _ _ (by decide)).trans ((va_up_ne _ _ (by decide)).trans ((va_up_ne _ _ (by decide)).trans ((va_up_ne _ _ (by decide)).trans h_1021)))))))), ((va_up_ne _ _ (by decide)).trans ((va_up_ne _ _ (by decide)).trans ((va_up_ne _ _ (by decide)).trans ((va_up_ne _ _ (by decide)).trans ((va_up_ne _ _ (by decide)).trans ((va_up_ne _ _ (by decide)).trans ((va_up_ne _ _ (by decide)).trans ((va_up_ne _ _ (by decide)).trans h_1022)))))))), ((va_up_ne _ _ (by decide)).trans ((va_up_ne _ _ (by decide)).trans ((va_up_ne _ _ (by decide)).trans ((va_up_ne _ _ (by decide)).trans ((va_up_ne _ _ (by decide)).trans ((va_up_ne _ _ (by decide)).trans (va_up_self _ _ _))))))), ((va_up_ne _ _ (by decide)).trans ((va_up_ne _ _ (by decide)).trans ((va_up_ne _ _ (by decide)).trans ((va_up_ne _ _ (by decide)).trans ((va_up_ne _ _ (by decide)).trans (va_up_self _ _ _)))))), ((va_up_ne _ _ (by decide)).trans ((va_up_ne _ _ (by decide)).trans (va_up_self _ _ _))), ((va_up_ne _ _ (by decide)).trans ((va_up_ne _ _ (by decide)).trans ((va_up_ne _ _ (by decide)).trans (va_up_self _ _ _)))), ((va_up_ne _ _ (by decide)).trans ((va_up_ne _ _ (by decide)).trans ((va_up_ne _ _ (by decide)).trans ((va_up_ne _ _ (by decide)).trans ((va_up_ne _ _ (by decide)).trans ((va_up_ne _ _ (by decide)).trans ((va_up_ne _ _ (by decide)).trans ((va_up_ne _ _ (by decide)).trans h_1028)))))))), ((va_up_ne _ _ (by decide)).trans (va_up_self _ _ _)), (va_up_self _ _ _), ((va_up_ne _ _ (by decide)).trans ((va_up_ne _ _ (by decide)).trans ((va_up_ne _ _ (by decide)).trans ((va_up_ne _ _ (by decide)).trans ((va_up_ne _ _ (by decide)).trans ((va_up_ne _ _ (by decide)).trans ((va_up_ne _ _ (by decide)).trans ((va_up_ne _ _ (by decide)).trans h_1032))))))))⟩⟩
  · skip
    refine b_icmp_ne_t 61 hx hb dX9_ask_49 (by decide) (fun h8 => hi ((i_eq _ _).mpr h8)) ?_
    refine lv_iconst (v := 0) hx hb dX9_ask_61 (by decide) ?_
    refine b_topi (w := t) (by rw [ht, if_neg hi]) ?_
    refine lv_istore (lv' := [(4, .int t), (0, .ref (ad 1000)), (1, .int (nI b)), (2, .int (nI j)), (3, .int tp)]) hx hb dX9_ask_62 hl (by decide) rfl (fun ls hl => ?_)
    refine lv_iload hx hb dX9_ask_64 (lv_at hl 0 rfl) ?_
    refine lv_iconst (v := 2) hx hb dX9_ask_66 (by decide) ?_
    refine b_icmp_ne_t 73 hx hb dX9_ask_67 (by decide) (fun h8 => ht2 ((i_eq _ _).mpr h8)) ?_
    refine lv_aload_n hx hb dX9_ask_73 rfl (lv_at hl 1 rfl) ?_
    refine lv_iload_n hx hb dX9_ask_74 rfl (lv_at hl 3 rfl) ?_
    refine lv_iload_n hx hb dX9_ask_75 rfl (lv_at hl 4 rfl) ?_
    refine m_callVE (ci := 9) (As := [.int (nI j), .int tp]) (rest := []) (c_M_find_f l D ty L ad _ a dn pn en qn mz nw lo tr (nI j) tp hM (by omega) hno) ⟨hx, hb, hml, hown, hts⟩ (cwV 2 hts gX9_ask_X9_find rfl rfl rfl (by decide +kernel) ⟨Nat.le_of_ble_eq_true rfl, Nat.le_of_ble_eq_true rfl⟩) hB (hL 1000 (by decide)) h_1000 rfl rfl hl.1 rfl (Nat.le_of_ble_eq_true rfl) dX9_ask_76 ⟨Nat.le_of_ble_eq_true rfl, Nat.le_of_ble_eq_true rfl⟩ (fun H locs hB => ?_)
    refine lv_istore (lv' := [(5, .int (-1)), (4, .int t), (0, .ref (ad 1000)), (1, .int (nI b)), (2, .int (nI j)), (3, .int tp)]) hx hb dX9_ask_79 hl (by decide) rfl (fun ls hl => ?_)
    refine lv_iload hx hb dX9_ask_81 (lv_at hl 0 rfl) ?_
    refine b_if_ge_f 98 hx hb dX9_ask_83 (by decide) (by decide) ?_
    refine lv_aload_n hx hb dX9_ask_86 rfl (lv_at hl 2 rfl) ?_
    refine m_get (C := RX9) (T := TX9) (N := 33) (ci := 9) hx hb hts in_X9_ask_X9 hown hB (hL 1000 (by decide)) h_1000 rfl 22 (by decide) (hts (.fieldLink RX9 153 "PaperRoomModel" "questions" "I") (by decide +kernel)) (fun _ h9 => h9) rfl dX9_ask_87 ?_
    refine lv_bipush (v := 30) hx hb dX9_ask_90 (by decide) ?_
    refine b_icmp_ne_t 98 hx hb dX9_ask_92 (by decide) (by rw [nI_toInt (by omega), l30]; omega) ?_
    refine lv_iload hx hb dX9_ask_98 (lv_at hl 0 rfl) ?_
    refine b_if_ge_f 151 hx hb dX9_ask_100 (by decide) (by decide) ?_
    refine lv_aload_n hx hb dX9_ask_103 rfl (lv_at hl 2 rfl) ?_
    refine m_get (C := RX9) (T := TX9) (N := 33) (ci := 9) hx hb hts in_X9_ask_X9 hown hB (hL 1000 (by decide)) h_1000 rfl 22 (by decide) (hts (.fieldLink RX9 153 "PaperRoomModel" "questions" "I") (by decide +kernel)) (fun _ h9 => h9) rfl dX9_ask_104 ?_
    refine lv_istore (lv' := [(5, .int (nI qn)), (4, .int t), (0, .ref (ad 1000)), (1, .int (nI b)), (2, .int (nI j)), (3, .int tp)]) hx hb dX9_ask_107 hl (by decide) rfl (fun ls hl => ?_)
    refine lv_aload_n hx hb dX9_ask_109 rfl (lv_at hl 2 rfl) ?_
    refine lv_dup hx hb dX9_ask_110 rfl ?_
    refine m_get (C := RX9) (T := TX9) (N := 33) (ci := 9) hx hb hts in_X9_ask_X9 hown hB (hL 1000 (by decide)) h_1000 rfl 22 (by decide) (hts (.fieldLink RX9 153 "PaperRoomModel" "questions" "I") (by decide +kernel)) (fun _ h9 => h9) rfl dX9_ask_111 ?_
    refine lv_iconst (v := 1) hx hb dX9_ask_114 (by decide) ?_
    refine lv_iadd hx hb dX9_ask_115 ?_
    refine b_topi (w := nI (qn + 1)) (nI_add qn 1) ?_
    refine m_put (C := RX9) (T := TX9) (N := 33) (ci := 9) (v := .int (nI (qn + 1))) (ft := .int) hx hb hts in_X9_ask_X9 tyX9 tyX9_ok nmX9 hown hB (hL 1000 (by decide)) h_1000 rfl 22 (by decide) (hts (.fieldLink RX9 153 "PaperRoomModel" "questions" "I") (by decide +kernel)) (fun _ h9 => h9) rfl (by decide +kernel) rfl rfl (Nat.le_of_ble_eq_true rfl) dX9_ask_116 (fun H locs hB => ?_)
    replace hB : m_B D ty A s L ad (va_up g 1000 (.inr (9, [.int (nI dn), .ref (ad 1002), .int nw, .ref (ad 1004), .ref (ad 1005), .int (nI pn), .ref (ad 1007), .ref (ad 1008), .ref (ad 1009), .ref (ad 1010), .ref (ad 1011), .ref (ad 1012), .ref (ad 1013), .ref (ad 1014), .ref (ad 1015), .ref (ad 1016), .int (nI en), .int lo, .ref (ad 1019), .ref (ad 1020), .ref (ad 1021), .ref (ad 1022), .int (nI (qn + 1)), .ref (ad 1024), .ref (ad 1025), .ref (ad 1026), .ref (ad 1027), .ref (ad 1028), .ref (ad 1029), .ref (ad 1030), .long tr, .ref (ad 1032), .int (nI mz)]))) H locs := hB
    refine lv_aload_n hx hb dX9_ask_119 rfl (lv_at hl 2 rfl) ?_
    refine m_get (C := RX9) (T := TX9) (N := 33) (ci := 9) hx hb hts in_X9_ask_X9 hown hB (hL 1000 (by decide)) (va_up_self _ _ _) rfl 23 (by decide) (hts (.fieldLink RX9 62 "PaperRoomModel" "questionPaper" "[I") (by decide +kernel)) (fun _ h9 => h9) rfl dX9_ask_120 ?_
    refine lv_iload hx hb dX9_ask_123 (lv_at hl 0 rfl) ?_
    refine lv_iload_n hx hb dX9_ask_125 rfl (lv_at hl 4 rfl) ?_
    refine n_iast hx hb hB (hL 1024 (by decide)) ((va_up_ne _ _ (by decide)).trans h_1024) qn rfl (by omega) (by omega) dX9_ask_126 (fun H locs hB => ?_)
    replace hB : m_B D ty A s L ad (va_up (va_up g 1000 (.inr (9, [.int (nI dn), .ref (ad 1002), .int nw, .ref (ad 1004), .ref (ad 1005), .int (nI pn), .ref (ad 1007), .ref (ad 1008), .ref (ad 1009), .ref (ad 1010), .ref (ad 1011), .ref (ad 1012), .ref (ad 1013), .ref (ad 1014), .ref (ad 1015), .ref (ad 1016), .int (nI en), .int lo, .ref (ad 1019), .ref (ad 1020), .ref (ad 1021), .ref (ad 1022), .int (nI (qn + 1)), .ref (ad 1024), .ref (ad 1025), .ref (ad 1026), .ref (ad 1027), .ref (ad 1028), .ref (ad 1029), .ref (ad 1030), .long tr, .ref (ad 1032), .int (nI mz)]))) 1024 (.inl (ty 0, 30, .inl (upd (a 23) qn (nI j))))) H locs := hB
    refine lv_aload_n hx hb dX9_ask_127 rfl (lv_at hl 2 rfl) ?_
    refine m_get (C := RX9) (T := TX9) (N := 33) (ci := 9) hx hb hts in_X9_ask_X9 hown hB (hL 1000 (by decide)) ((va_up_ne _ _ (by decide)).trans (va_up_self _ _ _)) rfl 24 (by decide) (hts (.fieldLink RX9 65 "PaperRoomModel" "questionTopic" "[I") (by decide +kernel)) (fun _ h9 => h9) rfl dX9_ask_128 ?_
    refine lv_iload hx hb dX9_ask_131 (lv_at hl 0 rfl) ?_
    refine lv_iload_n hx hb dX9_ask_133 rfl (lv_at hl 5 rfl) ?_
    refine n_iast hx hb hB (hL 1025 (by decide)) ((va_up_ne _ _ (by decide)).trans ((va_up_ne _ _ (by decide)).trans h_1025)) qn rfl (by omega) (by omega) dX9_ask_134 (fun H locs hB => ?_)
    replace hB : m_B D ty A s L ad (va_up (va_up (va_up g 1000 (.inr (9, [.int (nI dn), .ref (ad 1002), .int nw, .ref (ad 1004), .ref (ad 1005), .int (nI pn), .ref (ad 1007), .ref (ad 1008), .ref (ad 1009), .ref (ad 1010), .ref (ad 1011), .ref (ad 1012), .ref (ad 1013), .ref (ad 1014), .ref (ad 1015), .ref (ad 1016), .int (nI en), .int lo, .ref (ad 1019), .ref (ad 1020), .ref (ad 1021), .ref (ad 1022), .int (nI (qn + 1)), .ref (ad 1024), .ref (ad 1025), .ref (ad 1026), .ref (ad 1027), .ref (ad 1028), .ref (ad 1029), .ref (ad 1030), .long tr, .ref (ad 1032), .int (nI mz)]))) 1024 (.inl (ty 0, 30, .inl (upd (a 23) qn (nI j))))) 1025 (.inl (ty 0, 30, .inl (upd (a 24) qn tp)))) H locs := hB
    refine lv_aload_n hx hb dX9_ask_135 rfl (lv_at hl 2 rfl) ?_
    refine m_get (C := RX9) (T := TX9) (N := 33) (ci := 9) hx hb hts in_X9_ask_X9 hown hB (hL 1000 (by decide)) ((va_up_ne _ _ (by decide)).trans ((va_up_ne _ _ (by decide)).trans (va_up_self _ _ _))) rfl 25 (by decide) (hts (.fieldLink RX9 68 "PaperRoomModel" "askers" "[I") (by decide +kernel)) (fun _ h9 => h9) rfl dX9_ask_136 ?_
    refine lv_iload hx hb dX9_ask_139 (lv_at hl 0 rfl) ?_
    refine lv_iconst (v := 0) hx hb dX9_ask_141 (by decide) ?_
    refine n_iast hx hb hB (hL 1026 (by decide)) ((va_up_ne _ _ (by decide)).trans ((va_up_ne _ _ (by decide)).trans ((va_up_ne _ _ (by decide)).trans h_1026))) qn rfl (by omega) (by omega) dX9_ask_142 (fun H locs hB => ?_)
    replace hB : m_B D ty A s L ad (va_up (va_up (va_up (va_up g 1000 (.inr (9, [.int (nI dn), .ref (ad 1002), .int nw, .ref (ad 1004), .ref (ad 1005), .int (nI pn), .ref (ad 1007), .ref (ad 1008), .ref (ad 1009), .ref (ad 1010), .ref (ad 1011), .ref (ad 1012), .ref (ad 1013), .ref (ad 1014), .ref (ad 1015), .ref (ad 1016), .int (nI en), .int lo, .ref (ad 1019), .ref (ad 1020), .ref (ad 1021), .ref (ad 1022), .int (nI (qn + 1)), .ref (ad 1024), .ref (ad 1025), .ref (ad 1026), .ref (ad 1027), .ref (ad 1028), .ref (ad 1029), .ref (ad 1030), .long tr, .ref (ad 1032), .int (nI mz)]))) 1024 (.inl (ty 0, 30, .inl (upd (a 23) qn (nI j))))) 1025 (.inl (ty 0, 30, .inl (upd (a 24) qn tp)))) 1026 (.inl (ty 0, 30, .inl (upd (a 25) qn 0)))) H locs := hB
    refine lv_aload_n hx hb dX9_ask_143 rfl (lv_at hl 2 rfl) ?_
    refine m_get (C := RX9) (T := TX9) (N := 33) (ci := 9) hx hb hts in_X9_ask_X9 hown hB (hL 1000 (by decide)) ((va_up_ne _ _ (by decide)).trans ((va_up_ne _ _ (by decide)).trans ((va_up_ne _ _ (by decide)).trans (va_up_self _ _ _)))) rfl 26 (by decide) (hts (.fieldLink RX9 71 "PaperRoomModel" "isAnswered" "[I") (by decide +kernel)) (fun _ h9 => h9) rfl dX9_ask_144 ?_
    refine lv_iload hx hb dX9_ask_147 (lv_at hl 0 rfl) ?_
    refine lv_iconst (v := 0) hx hb dX9_ask_149 (by decide) ?_
    refine n_iast hx hb hB (hL 1027 (by decide)) ((va_up_ne _ _ (by decide)).trans ((va_up_ne _ _ (by decide)).trans ((va_up_ne _ _ (by decide)).trans ((va_up_ne _ _ (by decide)).trans h_1027)))) qn rfl (by omega) (by omega) dX9_ask_150 (fun H locs hB => ?_)
    replace hB : m_B D ty A s L ad (va_up (va_up (va_up (va_up (va_up g 1000 (.inr (9, [.int (nI dn), .ref (ad 1002), .int nw, .ref (ad 1004), .ref (ad 1005), .int (nI pn), .ref (ad 1007), .ref (ad 1008), .ref (ad 1009), .ref (ad 1010), .ref (ad 1011), .ref (ad 1012), .ref (ad 1013), .ref (ad 1014), .ref (ad 1015), .ref (ad 1016), .int (nI en), .int lo, .ref (ad 1019), .ref (ad 1020), .ref (ad 1021), .ref (ad 1022), .int (nI (qn + 1)), .ref (ad 1024), .ref (ad 1025), .ref (ad 1026), .ref (ad 1027), .ref (ad 1028), .ref (ad 1029), .ref (ad 1030), .long tr, .ref (ad 1032), .int (nI mz)]))) 1024 (.inl (ty 0, 30, .inl (upd (a 23) qn (nI j))))) 1025 (.inl (ty 0, 30, .inl (upd (a 24) qn tp)))) 1026 (.inl (ty 0, 30, .inl (upd (a 25) qn 0)))) 1027 (.inl (ty 0, 30, .inl (upd (a 26) qn 0)))) H locs := hB
    refine lv_aload_n hx hb dX9_ask_151 rfl (lv_at hl 2 rfl) ?_
    refine m_get (C := RX9) (T := TX9) (N := 33) (ci := 9) hx hb hts in_X9_ask_X9 hown hB (hL 1000 (by decide)) ((va_up_ne _ _ (by decide)).trans ((va_up_ne _ _ (by decide)).trans ((va_up_ne _ _ (by decide)).trans ((va_up_ne _ _ (by decide)).trans (va_up_self _ _ _))))) rfl 25 (by decide) (hts (.fieldLink RX9 68 "PaperRoomModel" "askers" "[I") (by decide +kernel)) (fun _ h9 => h9) rfl dX9_ask_152 ?_
    refine lv_iload hx hb dX9_ask_155 (lv_at hl 0 rfl) ?_
    refine lv_dup2_11 hx hb dX9_ask_157 rfl rfl ?_
    refine n_iald hx hb hB (hL 1026 (by decide)) ((va_up_ne _ _ (by decide)).trans (va_up_self _ _ _)) qn rfl (by omega) (by omega) dX9_ask_158 ?_
    refine lv_iconst (v := 1) hx hb dX9_ask_159 (by decide) ?_
    refine lv_iload_n hx hb dX9_ask_160 rfl (lv_at hl 3 rfl) ?_
    refine lv_ishl hx hb dX9_ask_161 ?_
    refine lv_ior hx hb dX9_ask_162 ?_
    refine n_iast hx hb hB (hL 1026 (by decide)) ((va_up_ne _ _ (by decide)).trans (va_up_self _ _ _)) qn rfl (by omega) (by omega) dX9_ask_163 (fun H locs hB => ?_)
    replace hB : m_B D ty A s L ad (va_up (va_up (va_up (va_up (va_up (va_up g 1000 (.inr (9, [.int (nI dn), .ref (ad 1002), .int nw, .ref (ad 1004), .ref (ad 1005), .int (nI pn), .ref (ad 1007), .ref (ad 1008), .ref (ad 1009), .ref (ad 1010), .ref (ad 1011), .ref (ad 1012), .ref (ad 1013), .ref (ad 1014), .ref (ad 1015), .ref (ad 1016), .int (nI en), .int lo, .ref (ad 1019), .ref (ad 1020), .ref (ad 1021), .ref (ad 1022), .int (nI (qn + 1)), .ref (ad 1024), .ref (ad 1025), .ref (ad 1026), .ref (ad 1027), .ref (ad 1028), .ref (ad 1029), .ref (ad 1030), .long tr, .ref (ad 1032), .int (nI mz)]))) 1024 (.inl (ty 0, 30, .inl (upd (a 23) qn (nI j))))) 1025 (.inl (ty 0, 30, .inl (upd (a 24) qn tp)))) 1026 (.inl (ty 0, 30, .inl (upd (a 25) qn 0)))) 1027 (.inl (ty 0, 30, .inl (upd (a 26) qn 0)))) 1026 (.inl (ty 0, 30, .inl (upd (upd (a 25) qn 0) qn (((upd (a 25) qn 0) qn) ||| (1 <<< ((nI b) &&& 31))))))) H locs := hB
    refine lv_aload_n hx hb dX9_ask_164 rfl (lv_at hl 2 rfl) ?_
    refine m_get (C := RX9) (T := TX9) (N := 33) (ci := 9) hx hb hts in_X9_ask_X9 hown hB (hL 1000 (by decide)) ((va_up_ne _ _ (by decide)).trans ((va_up_ne _ _ (by decide)).trans ((va_up_ne _ _ (by decide)).trans ((va_up_ne _ _ (by decide)).trans ((va_up_ne _ _ (by decide)).trans (va_up_self _ _ _)))))) rfl 28 (by decide) (hts (.fieldLink RX9 77 "PaperRoomModel" "askedIn" "[I") (by decide +kernel)) (fun _ h9 => h9) rfl dX9_ask_165 ?_
    refine lv_iload_n hx hb dX9_ask_168 rfl (lv_at hl 3 rfl) ?_
    refine lv_aload_n hx hb dX9_ask_169 rfl (lv_at hl 2 rfl) ?_
    refine m_get (C := RX9) (T := TX9) (N := 33) (ci := 9) hx hb hts in_X9_ask_X9 hown hB (hL 1000 (by decide)) ((va_up_ne _ _ (by decide)).trans ((va_up_ne _ _ (by decide)).trans ((va_up_ne _ _ (by decide)).trans ((va_up_ne _ _ (by decide)).trans ((va_up_ne _ _ (by decide)).trans (va_up_self _ _ _)))))) rfl 2 (by decide) (hts (.fieldLink RX9 86 "PaperRoomModel" "now" "I") (by decide +kernel)) (fun _ h9 => h9) rfl dX9_ask_170 ?_
    refine n_iast hx hb hB (hL 1029 (by decide)) ((va_up_ne _ _ (by decide)).trans ((va_up_ne _ _ (by decide)).trans ((va_up_ne _ _ (by decide)).trans ((va_up_ne _ _ (by decide)).trans ((va_up_ne _ _ (by decide)).trans ((va_up_ne _ _ (by decide)).trans h_1029)))))) b rfl (by omega) (by omega) dX9_ask_173 (fun H locs hB => ?_)
    replace hB : m_B D ty A s L ad (va_up (va_up (va_up (va_up (va_up (va_up (va_up g 1000 (.inr (9, [.int (nI dn), .ref (ad 1002), .int nw, .ref (ad 1004), .ref (ad 1005), .int (nI pn), .ref (ad 1007), .ref (ad 1008), .ref (ad 1009), .ref (ad 1010), .ref (ad 1011), .ref (ad 1012), .ref (ad 1013), .ref (ad 1014), .ref (ad 1015), .ref (ad 1016), .int (nI en), .int lo, .ref (ad 1019), .ref (ad 1020), .ref (ad 1021), .ref (ad 1022), .int (nI (qn + 1)), .ref (ad 1024), .ref (ad 1025), .ref (ad 1026), .ref (ad 1027), .ref (ad 1028), .ref (ad 1029), .ref (ad 1030), .long tr, .ref (ad 1032), .int (nI mz)]))) 1024 (.inl (ty 0, 30, .inl (upd (a 23) qn (nI j))))) 1025 (.inl (ty 0, 30, .inl (upd (a 24) qn tp)))) 1026 (.inl (ty 0, 30, .inl (upd (a 25) qn 0)))) 1027 (.inl (ty 0, 30, .inl (upd (a 26) qn 0)))) 1026 (.inl (ty 0, 30, .inl (upd (upd (a 25) qn 0) qn (((upd (a 25) qn 0) qn) ||| (1 <<< ((nI b) &&& 31))))))) 1029 (.inl (ty 0, 6, .inl (upd (a 28) b nw)))) H locs := hB
    refine lv_aload_n hx hb dX9_ask_174 rfl (lv_at hl 2 rfl) ?_
    refine m_get (C := RX9) (T := TX9) (N := 33) (ci := 9) hx hb hts in_X9_ask_X9 hown hB (hL 1000 (by decide)) ((va_up_ne _ _ (by decide)).trans ((va_up_ne _ _ (by decide)).trans ((va_up_ne _ _ (by decide)).trans ((va_up_ne _ _ (by decide)).trans ((va_up_ne _ _ (by decide)).trans ((va_up_ne _ _ (by decide)).trans (va_up_self _ _ _))))))) rfl 29 (by decide) (hts (.fieldLink RX9 80 "PaperRoomModel" "askedTimes" "[I") (by decide +kernel)) (fun _ h9 => h9) rfl dX9_ask_175 ?_
    refine lv_iload_n hx hb dX9_ask_178 rfl (lv_at hl 3 rfl) ?_
    refine lv_iload hx hb dX9_ask_179 (lv_at hl 1 rfl) ?_
    refine lv_iconst (v := 1) hx hb dX9_ask_181 (by decide) ?_
    refine lv_iadd hx hb dX9_ask_182 ?_
    refine n_iast hx hb hB (hL 1030 (by decide)) ((va_up_ne _ _ (by decide)).trans ((va_up_ne _ _ (by decide)).trans ((va_up_ne _ _ (by decide)).trans ((va_up_ne _ _ (by decide)).trans ((va_up_ne _ _ (by decide)).trans ((va_up_ne _ _ (by decide)).trans ((va_up_ne _ _ (by decide)).trans h_1030))))))) b rfl (by omega) (by omega) dX9_ask_183 (fun H locs hB => ?_)
    replace hB : m_B D ty A s L ad (va_up (va_up (va_up (va_up (va_up (va_up (va_up (va_up g 1000 (.inr (9, [.int (nI dn), .ref (ad 1002), .int nw, .ref (ad 1004), .ref (ad 1005), .int (nI pn), .ref (ad 1007), .ref (ad 1008), .ref (ad 1009), .ref (ad 1010), .ref (ad 1011), .ref (ad 1012), .ref (ad 1013), .ref (ad 1014), .ref (ad 1015), .ref (ad 1016), .int (nI en), .int lo, .ref (ad 1019), .ref (ad 1020), .ref (ad 1021), .ref (ad 1022), .int (nI (qn + 1)), .ref (ad 1024), .ref (ad 1025), .ref (ad 1026), .ref (ad 1027), .ref (ad 1028), .ref (ad 1029), .ref (ad 1030), .long tr, .ref (ad 1032), .int (nI mz)]))) 1024 (.inl (ty 0, 30, .inl (upd (a 23) qn (nI j))))) 1025 (.inl (ty 0, 30, .inl (upd (a 24) qn tp)))) 1026 (.inl (ty 0, 30, .inl (upd (a 25) qn 0)))) 1027 (.inl (ty 0, 30, .inl (upd (a 26) qn 0)))) 1026 (.inl (ty 0, 30, .inl (upd (upd (a 25) qn 0) qn (((upd (a 25) qn 0) qn) ||| (1 <<< ((nI b) &&& 31))))))) 1029 (.inl (ty 0, 6, .inl (upd (a 28) b nw)))) 1030 (.inl (ty 0, 6, .inl (upd (a 29) b (t + 1))))) H locs := hB
    refine lv_iload hx hb dX9_ask_184 (lv_at hl 0 rfl) ?_
    exact m_iret hx hb hrt hlocks hB (Nat.le_refl _) (Nat.le_refl _) dX9_ask_186 ⟨rfl, rfl, rfl, (fun x hx => ((va_up_ne _ _ (by omega)).trans ((va_up_ne _ _ (by omega)).trans ((va_up_ne _ _ (by omega)).trans ((va_up_ne _ _ (by omega)).trans ((va_up_ne _ _ (by omega)).trans ((va_up_ne _ _ (by omega)).trans ((va_up_ne _ _ (by omega)).trans ((va_up_ne _ _ (by omega)).trans rfl))))))))), ⟨hL, ((va_up_ne _ _ (by decide)).trans ((va_up_ne _ _ (by decide)).trans ((va_up_ne _ _ (by decide)).trans ((va_up_ne _ _ (by decide)).trans ((va_up_ne _ _ (by decide)).trans ((va_up_ne _ _ (by decide)).trans ((va_up_ne _ _ (by decide)).trans (va_up_self _ _ _)))))))), ((va_up_ne _ _ (by decide)).trans ((va_up_ne _ _ (by decide)).trans ((va_up_ne _ _ (by decide)).trans ((va_up_ne _ _ (by decide)).trans ((va_up_ne _ _ (by decide)).trans ((va_up_ne _ _ (by decide)).trans ((va_up_ne _ _ (by decide)).trans ((va_up_ne _ _ (by decide)).trans h_1002)))))))), ((va_up_ne _ _ (by decide)).trans ((va_up_ne _ _ (by decide)).trans ((va_up_ne _ _ (by decide)).trans ((va_up_ne _ _ (by decide)).trans ((va_up_ne _ _ (by decide)).trans ((va_up_ne _ _ (by decide)).trans ((va_up_ne _ _ (by decide)).trans ((va_up_ne _ _ (by decide)).trans h_1004)))))))), ((va_up_ne _ _ (by decide)).trans ((va_up_ne _ _ (by decide)).trans ((va_up_ne _ _ (by decide)).trans ((va_up_ne _ _ (by decide)).trans ((va_up_ne _ _ (by decide)).trans ((va_up_ne _ _ (by decide)).trans ((va_up_ne _ _ (by decide)).trans ((va_up_ne _ _ (by decide)).trans h_1005)))))))), ((va_up_ne _ _ (by decide)).trans ((va_up_ne _ _ (by decide)).trans ((va_up_ne _ _ (by decide)).trans ((va_up_ne _ _ (by decide)).trans ((va_up_ne _ _ (by decide)).trans ((va_up_ne _ _ (by decide)).trans ((va_up_ne _ _ (by decide)).trans ((va_up_ne _ _ (by decide)).trans h_1007)))))))), ((va_up_ne _ _ (by decide)).trans ((va_up_ne _ _ (by decide)).trans ((va_up_ne _ _ (by decide)).trans ((va_up_ne _ _ (by decide)).trans ((va_up_ne _ _ (by decide)).trans ((va_up_ne _ _ (by decide)).trans ((va_up_ne _ _ (by decide)).trans ((va_up_ne _ _ (by decide)).trans h_1008)))))))), ((va_up_ne _ _ (by decide)).trans ((va_up_ne _ _ (by decide)).trans ((va_up_ne _ _ (by decide)).trans ((va_up_ne _ _ (by decide)).trans ((va_up_ne _ _ (by decide)).trans ((va_up_ne _ _ (by decide)).trans ((va_up_ne _ _ (by decide)).trans ((va_up_ne _ _ (by decide)).trans h_1009)))))))), ((va_up_ne _ _ (by decide)).trans ((va_up_ne _ _ (by decide)).trans ((va_up_ne _ _ (by decide)).trans ((va_up_ne _ _ (by decide)).trans ((va_up_ne _ _ (by decide)).trans ((va_up_ne _ _ (by decide)).trans ((va_up_ne _ _ (by decide)).trans ((va_up_ne _ _ (by decide)).trans h_1010)))))))), ((va_up_ne _ _ (by decide)).trans ((va_up_ne _ _ (by decide)).trans ((va_up_ne _ _ (by decide)).trans ((va_up_ne _ _ (by decide)).trans ((va_up_ne _ _ (by decide)).trans ((va_up_ne _ _ (by decide)).trans ((va_up_ne _ _ (by decide)).trans ((va_up_ne _ _ (by decide)).trans h_1011)))))))), ((va_up_ne _ _ (by decide)).trans ((va_up_ne _ _ (by decide)).trans ((va_up_ne _ _ (by decide)).trans ((va_up_ne _ _ (by decide)).trans ((va_up_ne _ _ (by decide)).trans ((va_up_ne _ _ (by decide)).trans ((va_up_ne _ _ (by decide)).trans ((va_up_ne _ _ (by decide)).trans h_1012)))))))), ((va_up_ne _ _ (by decide)).trans ((va_up_ne _ _ (by decide)).trans ((va_up_ne _ _ (by decide)).trans ((va_up_ne _ _ (by decide)).trans ((va_up_ne _ _ (by decide)).trans ((va_up_ne _ _ (by decide)).trans ((va_up_ne _ _ (by decide)).trans ((va_up_ne _ _ (by decide)).trans h_1013)))))))), ((va_up_ne _ _ (by decide)).trans ((va_up_ne _ _ (by decide)).trans ((va_up_ne _ _ (by decide)).trans ((va_up_ne _ _ (by decide)).trans ((va_up_ne _ _ (by decide)).trans ((va_up_ne _ _ (by decide)).trans ((va_up_ne _ _ (by decide)).trans ((va_up_ne _ _ (by decide)).trans h_1014)))))))), ((va_up_ne _ _ (by decide)).trans ((va_up_ne _ _ (by decide)).trans ((va_up_ne _ _ (by decide)).trans ((va_up_ne _ _ (by decide)).trans ((va_up_ne _ _ (by decide)).trans ((va_up_ne _ _ (by decide)).trans ((va_up_ne _ _ (by decide)).trans ((va_up_ne _ _ (by decide)).trans h_1015)))))))), ((va_up_ne _ _ (by decide)).trans ((va_up_ne _ _ (by decide)).trans ((va_up_ne _ _ (by decide)).trans ((va_up_ne _ _ (by decide)).trans ((va_up_ne _ _ (by decide)).trans ((va_up_ne _ _ (by decide)).trans ((va_up_ne _ _ (by decide)).trans ((va_up_ne _ _ (by decide)).trans h_1016)))))))), ((va_up_ne _ _ (by decide)).trans ((va_up_ne _ _ (by decide)).trans ((va_up_ne _ _ (by decide)).trans ((va_up_ne _ _ (by decide)).trans ((va_up_ne _ _ (by decide)).trans ((va_up_ne _ _ (by decide)).trans ((va_up_ne _ _ (by decide)).trans ((va_up_ne _ _ (by decide)).trans h_1019)))))))), ((va_up_ne _ _ (by decide)).trans ((va_up_ne _ _ (by decide)).trans ((va_up_ne _ _ (by decide)).trans ((va_up_ne _ _ (by decide)).trans ((va_up_ne _ _ (by decide)).trans ((va_up_ne _ _ (by decide)).trans ((va_up_ne _ _ (by decide)).trans ((va_up_ne _ _ (by decide)).trans h_1020)))))))), ((va_up_ne _ _ (by decide)).trans ((va_up_ne _ _ (by decide)).trans ((va_up_ne _ _ (by decide)).trans ((va_up_ne _ _ (by decide)).trans ((va_up_ne _ _ (by decide)).trans ((va_up_ne _ _ (by decide)).trans ((va_up_ne _ _ (by decide)).trans ((va_up_ne _ _ (by decide)).trans h_1021)))))))), ((va_up_ne _ _ (by decide)).trans ((va_up_ne _ _ (by decide)).trans ((va_up_ne _ _ (by decide)).trans ((va_up_ne _ _ (by decide)).trans ((va_up_ne _ _ (by decide)).trans ((va_up_ne _ _ (by decide)).trans ((va_up_ne _ _ (by decide)).trans ((va_up_ne _ _ (by decide)).trans h_1022)))))))), ((va_up_ne _ _ (by decide)).trans ((va_up_ne _ _ (by decide)).trans ((va_up_ne _ _ (by decide)).trans ((va_up_ne _ _ (by decide)).trans ((va_up_ne _ _ (by decide)).trans ((va_up_ne _ _ (by decide)).trans (va_up_self _ _ _))))))), ((va_up_ne _ _ (by decide)).trans ((va_up_ne _ _ (by decide)).trans ((va_up_ne _ _ (by decide)).trans ((va_up_ne _ _ (by decide)).trans ((va_up_ne _ _ (by decide)).trans (va_up_self _ _ _)))))), ((va_up_ne _ _ (by decide)).trans ((va_up_ne _ _ (by decide)).trans (va_up_self _ _ _))), ((va_up_ne _ _ (by decide)).trans ((va_up_ne _ _ (by decide)).trans ((va_up_ne _ _ (by decide)).trans (va_up_self _ _ _)))), ((va_up_ne _ _ (by decide)).trans ((va_up_ne _ _ (by decide)).trans ((va_up_ne _ _ (by decide)).trans ((va_up_ne _ _ (by decide)).trans ((va_up_ne _ _ (by decide)).trans ((va_up_ne _ _ (by decide)).trans ((va_up_ne _ _ (by decide)).trans ((va_up_ne _ _ (by decide)).trans h_1028)))))))), ((va_up_ne _ _ (by decide)).trans (va_up_self _ _ _)), (va_up_self _ _ _), ((va_up_ne _ _ (by decide)).trans ((va_up_ne _ _ (by decide)).trans ((va_up_ne _ _ (by decide)).trans ((va_up_ne _ _ (by decide)).trans ((va_up_ne _ _ (by decide)).trans ((va_up_ne _ _ (by decide)).trans ((va_up_ne _ _ (by decide)).trans ((va_up_ne _ _ (by decide)).trans h_1032))))))))⟩⟩
set_option maxHeartbeats 1000000 in
set_option maxRecDepth 100000 in
theorem c_M_blacken_p (l : Launch) (D : va_G) (ty : Nat → ClassId) (L : List Nat) (ad : Nat → Nat) (g : Nat → va_E) (a : Nat → Nat → Int32) (dn pn en qn mz : Nat) (nw lo : Int32) (tr : Int64) (i v x y : Int32) (hM : RM ty L ad g a dn pn en qn mz nw lo tr) (hi : ¬ (0 ≤ i.toInt ∧ i.toInt < pn)) (hpn : pn ≤ 8) : m_E l yX9_blacken wsX9_blacken 3 65 D ty [.ref (ad 1000), .int i, .int v, .int x, .int y] L ad g (some (.int (-1))) g := by
  intro sz
  refine Met.ofW (cc := cX9_blacken) (maxL := 8) (ret := (some .int)) (by decide) rfl ?_
  intro p e s m args below meth c s₁ B hml hv
  have hx := B.exec
  have hb := B.bytes
  have hrt := B.returns
  have hts := atoms_spec (ws := wsX9_blacken) B.pre
  have hown : s.vm.findClass RX9 = some m.cls := findClass_of_methodNamed B.named
  have hlocks := B.notSynchronized
  obtain ⟨rfl, hB⟩ := m_start hv
  generalize va_A (m_w L ad g) sz = A at hB ⊢
  generalize s.heap = H at hB ⊢
  generalize ([] : List Loc) = locs at hB ⊢
  have hl := lv_entry ([.ref (ad 1000), .int i, .int v, .int x, .int y]) (n := 8) (Nat.le_of_ble_eq_true rfl)
  rw [lg_entry_eq]
  generalize (lg_sl ([.ref (ad 1000), .int i, .int v, .int x, .int y]) ++ List.replicate (8 - (lg_sl ([.ref (ad 1000), .int i, .int v, .int x, .int y])).length) Slot.unset).toArray = ls at hl ⊢
  have hl : lv_has ls 8 [(0, .ref (ad 1000)), (1, .int i), (2, .int v), (3, .int x), (4, .int y)] := hl
  obtain ⟨hL, h_1000, h_1002, h_1004, h_1005, h_1007, h_1008, h_1009, h_1010, h_1011, h_1012, h_1013, h_1014, h_1015, h_1016, h_1019, h_1020, h_1021, h_1022, h_1024, h_1025, h_1026, h_1027, h_1028, h_1029, h_1030, h_1032⟩ := id hM
  refine lv_aload_n hx hb dX9_blacken_0 rfl (lv_at hl 0 rfl) ?_
  refine lv_iload_n hx hb dX9_blacken_1 rfl (lv_at hl 1 rfl) ?_
  refine lv_iload_n hx hb dX9_blacken_2 rfl (lv_at hl 2 rfl) ?_
  refine m_callVE (ci := 9) (As := [.int i, .int v]) (rest := []) (c_M_isVersion_p l D ty L ad _ a dn pn en qn mz nw lo tr _ _ hM hi hpn) ⟨hx, hb, hml, hown, hts⟩ (cwV 2 hts gX9_blacken_X9_isVersion rfl rfl rfl (by decide +kernel) ⟨Nat.le_of_ble_eq_true rfl, Nat.le_of_ble_eq_true rfl⟩) hB (hL 1000 (by decide)) h_1000 rfl rfl hl.1 rfl (Nat.le_of_ble_eq_true rfl) dX9_blacken_3 ⟨Nat.le_of_ble_eq_true rfl, Nat.le_of_ble_eq_true rfl⟩ (fun H locs hB => ?_)
  refine b_if_eq_t 34 hx hb dX9_blacken_6 (by decide) (by decide) ?_
  refine lv_iconst (v := (-1)) hx hb dX9_blacken_34 (by decide) ?_
  exact m_iret hx hb hrt hlocks hB (Nat.le_refl _) (Nat.le_refl _) dX9_blacken_35 ⟨rfl, rfl, rfl, rfl⟩
set_option maxHeartbeats 1000000 in
set_option maxRecDepth 100000 in
theorem c_M_blacken_v (l : Launch) (D : va_G) (ty : Nat → ClassId) (L : List Nat) (ad : Nat → Nat) (g : Nat → va_E) (a : Nat → Nat → Int32) (dn pn en qn mz : Nat) (nw lo : Int32) (tr : Int64) (j vj : Nat) (v x y : Int32) (hM : RM ty L ad g a dn pn en qn mz nw lo tr) (hj9 : j < pn) (hpn : pn ≤ 8) (hvj : a 10 j = nI vj) (hv4 : vj ≤ 4) (hi : ¬ (0 ≤ v.toInt ∧ v.toInt < vj)) : m_E l yX9_blacken wsX9_blacken 3 65 D ty [.ref (ad 1000), .int (nI j), .int v, .int x, .int y] L ad g (some (.int (-1))) g := by
  intro sz
  refine Met.ofW (cc := cX9_blacken) (maxL := 8) (ret := (some .int)) (by decide) rfl ?_
  intro p e s m args below meth c s₁ B hml hv
  have hx := B.exec
  have hb := B.bytes
  have hrt := B.returns
  have hts := atoms_spec (ws := wsX9_blacken) B.pre
  have hown : s.vm.findClass RX9 = some m.cls := findClass_of_methodNamed B.named
  have hlocks := B.notSynchronized
  obtain ⟨rfl, hB⟩ := m_start hv
  generalize va_A (m_w L ad g) sz = A at hB ⊢
  generalize s.heap = H at hB ⊢
  generalize ([] : List Loc) = locs at hB ⊢
  have hl := lv_entry ([.ref (ad 1000), .int (nI j), .int v, .int x, .int y]) (n := 8) (Nat.le_of_ble_eq_true rfl)
  rw [lg_entry_eq]
  generalize (lg_sl ([.ref (ad 1000), .int (nI j), .int v, .int x, .int y]) ++ List.replicate (8 - (lg_sl ([.ref (ad 1000), .int (nI j), .int v, .int x, .int y])).length) Slot.unset).toArray = ls at hl ⊢
  have hl : lv_has ls 8 [(0, .ref (ad 1000)), (1, .int (nI j)), (2, .int v), (3, .int x), (4, .int y)] := hl
  obtain ⟨hL, h_1000, h_1002, h_1004, h_1005, h_1007, h_1008, h_1009, h_1010, h_1011, h_1012, h_1013, h_1014, h_1015, h_1016, h_1019, h_1020, h_1021, h_1022, h_1024, h_1025, h_1026, h_1027, h_1028, h_1029, h_1030, h_1032⟩ := id hM
  refine lv_aload_n hx hb dX9_blacken_0 rfl (lv_at hl 0 rfl) ?_
  refine lv_iload_n hx hb dX9_blacken_1 rfl (lv_at hl 1 rfl) ?_
  refine lv_iload_n hx hb dX9_blacken_2 rfl (lv_at hl 2 rfl) ?_
  refine m_callVE (ci := 9) (As := [.int (nI j), .int v]) (rest := []) (c_M_isVersion_f l D ty L ad _ a dn pn en qn mz nw lo tr j vj _ hM hj9 hpn hvj hv4 hi) ⟨hx, hb, hml, hown, hts⟩ (cwV 2 hts gX9_blacken_X9_isVersion rfl rfl rfl (by decide +kernel) ⟨Nat.le_of_ble_eq_true rfl, Nat.le_of_ble_eq_true rfl⟩) hB (hL 1000 (by decide)) h_1000 rfl rfl hl.1 rfl (Nat.le_of_ble_eq_true rfl) dX9_blacken_3 ⟨Nat.le_of_ble_eq_true rfl, Nat.le_of_ble_eq_true rfl⟩ (fun H locs hB => ?_)
  refine b_if_eq_t 34 hx hb dX9_blacken_6 (by decide) (by decide) ?_
  refine lv_iconst (v := (-1)) hx hb dX9_blacken_34 (by decide) ?_
  exact m_iret hx hb hrt hlocks hB (Nat.le_refl _) (Nat.le_refl _) dX9_blacken_35 ⟨rfl, rfl, rfl, rfl⟩
set_option maxHeartbeats 1000000 in
set_option maxRecDepth 100000 in
theorem c_M_blacken_1 (l : Launch) (D : va_G) (ty : Nat → ClassId) (L : List Nat) (ad : Nat → Nat) (g : Nat → va_E) (a : Nat → Nat → Int32) (dn pn en qn mz : Nat) (nw lo : Int32) (tr : Int64) (j k0 vj n : Nat) (x y : Int32) (hM : RM ty L ad g a dn pn en qn mz nw lo tr) (hj9 : j < pn) (hpn : pn ≤ 8) (hvj : a 10 j = nI vj) (hv4 : vj ≤ 4) (hk0 : k0 < vj) (hsz : a 11 (4 * j + k0) = nI n) (hn40 : n ≤ 40) (h : x.toInt < 0) : m_E l yX9_blacken wsX9_blacken 3 65 D ty [.ref (ad 1000), .int (nI j), .int (nI k0), .int x, .int y] L ad g (some (.int (-1))) g := by
  intro sz
  refine Met.ofW (cc := cX9_blacken) (maxL := 8) (ret := (some .int)) (by decide) rfl ?_
  intro p e s m args below meth c s₁ B hml hv
  have hx := B.exec
  have hb := B.bytes
  have hrt := B.returns
  have hts := atoms_spec (ws := wsX9_blacken) B.pre
  have hown : s.vm.findClass RX9 = some m.cls := findClass_of_methodNamed B.named
  have hlocks := B.notSynchronized
  obtain ⟨rfl, hB⟩ := m_start hv
  generalize va_A (m_w L ad g) sz = A at hB ⊢
  generalize s.heap = H at hB ⊢
  generalize ([] : List Loc) = locs at hB ⊢
  have hl := lv_entry ([.ref (ad 1000), .int (nI j), .int (nI k0), .int x, .int y]) (n := 8) (Nat.le_of_ble_eq_true rfl)
  rw [lg_entry_eq]
  generalize (lg_sl ([.ref (ad 1000), .int (nI j), .int (nI k0), .int x, .int y]) ++ List.replicate (8 - (lg_sl ([.ref (ad 1000), .int (nI j), .int (nI k0), .int x, .int y])).length) Slot.unset).toArray = ls at hl ⊢
  have hl : lv_has ls 8 [(0, .ref (ad 1000)), (1, .int (nI j)), (2, .int (nI k0)), (3, .int x), (4, .int y)] := hl
  obtain ⟨hL, h_1000, h_1002, h_1004, h_1005, h_1007, h_1008, h_1009, h_1010, h_1011, h_1012, h_1013, h_1014, h_1015, h_1016, h_1019, h_1020, h_1021, h_1022, h_1024, h_1025, h_1026, h_1027, h_1028, h_1029, h_1030, h_1032⟩ := id hM
  refine lv_aload_n hx hb dX9_blacken_0 rfl (lv_at hl 0 rfl) ?_
  refine lv_iload_n hx hb dX9_blacken_1 rfl (lv_at hl 1 rfl) ?_
  refine lv_iload_n hx hb dX9_blacken_2 rfl (lv_at hl 2 rfl) ?_
  refine m_callVE (ci := 9) (As := [.int (nI j), .int (nI k0)]) (rest := []) (c_M_isVersion_t l D ty L ad _ a dn pn en qn mz nw lo tr j k0 vj hM hj9 hpn hvj hv4 hk0) ⟨hx, hb, hml, hown, hts⟩ (cwV 2 hts gX9_blacken_X9_isVersion rfl rfl rfl (by decide +kernel) ⟨Nat.le_of_ble_eq_true rfl, Nat.le_of_ble_eq_true rfl⟩) hB (hL 1000 (by decide)) h_1000 rfl rfl hl.1 rfl (Nat.le_of_ble_eq_true rfl) dX9_blacken_3 ⟨Nat.le_of_ble_eq_true rfl, Nat.le_of_ble_eq_true rfl⟩ (fun H locs hB => ?_)
  refine b_if_eq_f 34 hx hb dX9_blacken_6 (by decide) (by decide) ?_
  refine lv_iload_n hx hb dX9_blacken_9 rfl (lv_at hl 3 rfl) ?_
  refine b_if_lt_t 34 hx hb dX9_blacken_10 (by decide) (by have := (by decide : (0 : Int32).toInt = 0); omega) ?_
  refine lv_iconst (v := (-1)) hx hb dX9_blacken_34 (by decide) ?_
  exact m_iret hx hb hrt hlocks hB (Nat.le_refl _) (Nat.le_refl _) dX9_blacken_35 ⟨rfl, rfl, rfl, rfl⟩
set_option maxRecDepth 20000 in
theorem in_X9_blacken_X9 : ∀ w ∈ wsX90, w ∈ wsX9_blacken := by decide +kernel
set_option maxHeartbeats 1000000 in
set_option maxRecDepth 100000 in
theorem c_M_blacken_2 (l : Launch) (D : va_G) (ty : Nat → ClassId) (L : List Nat) (ad : Nat → Nat) (g : Nat → va_E) (a : Nat → Nat → Int32) (dn pn en qn mz : Nat) (nw lo : Int32) (tr : Int64) (j k0 vj n : Nat) (x y : Int32) (hM : RM ty L ad g a dn pn en qn mz nw lo tr) (hj9 : j < pn) (hpn : pn ≤ 8) (hvj : a 10 j = nI vj) (hv4 : vj ≤ 4) (hk0 : k0 < vj) (hsz : a 11 (4 * j + k0) = nI n) (hn40 : n ≤ 40) (h1 : 0 ≤ x.toInt) (h : (n : Int) < y.toInt) : m_E l yX9_blacken wsX9_blacken 3 65 D ty [.ref (ad 1000), .int (nI j), .int (nI k0), .int x, .int y] L ad g (some (.int (-1))) g := by
  intro sz
  refine Met.ofW (cc := cX9_blacken) (maxL := 8) (ret := (some .int)) (by decide) rfl ?_
  intro p e s m args below meth c s₁ B hml hv
  have hx := B.exec
  have hb := B.bytes
  have hrt := B.returns
  have hts := atoms_spec (ws := wsX9_blacken) B.pre
  have hown : s.vm.findClass RX9 = some m.cls := findClass_of_methodNamed B.named
  have hlocks := B.notSynchronized
  obtain ⟨rfl, hB⟩ := m_start hv
  generalize va_A (m_w L ad g) sz = A at hB ⊢
  generalize s.heap = H at hB ⊢
  generalize ([] : List Loc) = locs at hB ⊢
  have hl := lv_entry ([.ref (ad 1000), .int (nI j), .int (nI k0), .int x, .int y]) (n := 8) (Nat.le_of_ble_eq_true rfl)
  rw [lg_entry_eq]
  generalize (lg_sl ([.ref (ad 1000), .int (nI j), .int (nI k0), .int x, .int y]) ++ List.replicate (8 - (lg_sl ([.ref (ad 1000), .int (nI j), .int (nI k0), .int x, .int y])).length) Slot.unset).toArray = ls at hl ⊢
  have hl : lv_has ls 8 [(0, .ref (ad 1000)), (1, .int (nI j)), (2, .int (nI k0)), (3, .int x), (4, .int y)] := hl
  obtain ⟨hL, h_1000, h_1002, h_1004, h_1005, h_1007, h_1008, h_1009, h_1010, h_1011, h_1012, h_1013, h_1014, h_1015, h_1016, h_1019, h_1020, h_1021, h_1022, h_1024, h_1025, h_1026, h_1027, h_1028, h_1029, h_1030, h_1032⟩ := id hM
  have tI_n : (nI n).toInt = (n : Int) := nI_toInt (by omega)
  refine lv_aload_n hx hb dX9_blacken_0 rfl (lv_at hl 0 rfl) ?_
  refine lv_iload_n hx hb dX9_blacken_1 rfl (lv_at hl 1 rfl) ?_
  refine lv_iload_n hx hb dX9_blacken_2 rfl (lv_at hl 2 rfl) ?_
  refine m_callVE (ci := 9) (As := [.int (nI j), .int (nI k0)]) (rest := []) (c_M_isVersion_t l D ty L ad _ a dn pn en qn mz nw lo tr j k0 vj hM hj9 hpn hvj hv4 hk0) ⟨hx, hb, hml, hown, hts⟩ (cwV 2 hts gX9_blacken_X9_isVersion rfl rfl rfl (by decide +kernel) ⟨Nat.le_of_ble_eq_true rfl, Nat.le_of_ble_eq_true rfl⟩) hB (hL 1000 (by decide)) h_1000 rfl rfl hl.1 rfl (Nat.le_of_ble_eq_true rfl) dX9_blacken_3 ⟨Nat.le_of_ble_eq_true rfl, Nat.le_of_ble_eq_true rfl⟩ (fun H locs hB => ?_)
  refine b_if_eq_f 34 hx hb dX9_blacken_6 (by decide) (by decide) ?_
  refine lv_iload_n hx hb dX9_blacken_9 rfl (lv_at hl 3 rfl) ?_
  refine b_if_lt_f 34 hx hb dX9_blacken_10 (by decide) (by have := (by decide : (0 : Int32).toInt = 0); omega) ?_
  refine lv_iload hx hb dX9_blacken_13 (lv_at hl 4 rfl) ?_
  refine lv_aload_n hx hb dX9_blacken_15 rfl (lv_at hl 0 rfl) ?_
  refine m_get (C := RX9) (T := TX9) (N := 33) (ci := 9) hx hb hts in_X9_blacken_X9 hown hB (hL 1000 (by decide)) h_1000 rfl 11 (by decide) (hts (.fieldLink RX9 35 "PaperRoomModel" "size" "[I") (by decide +kernel)) (fun _ h9 => h9) rfl dX9_blacken_16 ?_
  refine lv_iconst (v := 4) hx hb dX9_blacken_19 (by decide) ?_
  refine lv_iload_n hx hb dX9_blacken_20 rfl (lv_at hl 1 rfl) ?_
  refine lv_imul hx hb dX9_blacken_21 ?_
  refine b_topi (w := nI (4 * j)) (pk_mul 4 j) ?_
  refine lv_iload_n hx hb dX9_blacken_22 rfl (lv_at hl 2 rfl) ?_
  refine lv_iadd hx hb dX9_blacken_23 ?_
  refine b_topi (w := nI ((4 * j) + k0)) (nI_add (4 * j) k0) ?_
  refine n_iald hx hb hB (hL 1012 (by decide)) h_1012 ((4 * j) + k0) rfl (by omega) (by omega) dX9_blacken_24 ?_
  refine b_topi (w := nI n) (hsz) ?_
  refine b_icmp_gt_t 34 hx hb dX9_blacken_25 (by decide) (by omega) ?_
  refine lv_iconst (v := (-1)) hx hb dX9_blacken_34 (by decide) ?_
  exact m_iret hx hb hrt hlocks hB (Nat.le_refl _) (Nat.le_refl _) dX9_blacken_35 ⟨rfl, rfl, rfl, rfl⟩
set_option maxHeartbeats 1000000 in
set_option maxRecDepth 100000 in
theorem c_M_blacken_3 (l : Launch) (D : va_G) (ty : Nat → ClassId) (L : List Nat) (ad : Nat → Nat) (g : Nat → va_E) (a : Nat → Nat → Int32) (dn pn en qn mz : Nat) (nw lo : Int32) (tr : Int64) (j k0 vj n : Nat) (x y : Int32) (hM : RM ty L ad g a dn pn en qn mz nw lo tr) (hj9 : j < pn) (hpn : pn ≤ 8) (hvj : a 10 j = nI vj) (hv4 : vj ≤ 4) (hk0 : k0 < vj) (hsz : a 11 (4 * j + k0) = nI n) (hn40 : n ≤ 40) (h1 : 0 ≤ x.toInt) (h2 : y.toInt ≤ n) (h : y.toInt ≤ x.toInt) : m_E l yX9_blacken wsX9_blacken 3 65 D ty [.ref (ad 1000), .int (nI j), .int (nI k0), .int x, .int y] L ad g (some (.int (-1))) g := by
  intro sz
  refine Met.ofW (cc := cX9_blacken) (maxL := 8) (ret := (some .int)) (by decide) rfl ?_
  intro p e s m args below meth c s₁ B hml hv
  have hx := B.exec
  have hb := B.bytes
  have hrt := B.returns
  have hts := atoms_spec (ws := wsX9_blacken) B.pre
  have hown : s.vm.findClass RX9 = some m.cls := findClass_of_methodNamed B.named
  have hlocks := B.notSynchronized
  obtain ⟨rfl, hB⟩ := m_start hv
  generalize va_A (m_w L ad g) sz = A at hB ⊢
  generalize s.heap = H at hB ⊢
  generalize ([] : List Loc) = locs at hB ⊢
  have hl := lv_entry ([.ref (ad 1000), .int (nI j), .int (nI k0), .int x, .int y]) (n := 8) (Nat.le_of_ble_eq_true rfl)
  rw [lg_entry_eq]
  generalize (lg_sl ([.ref (ad 1000), .int (nI j), .int (nI k0), .int x, .int y]) ++ List.replicate (8 - (lg_sl ([.ref (ad 1000), .int (nI j), .int (nI k0), .int x, .int y])).length) Slot.unset).toArray = ls at hl ⊢
  have hl : lv_has ls 8 [(0, .ref (ad 1000)), (1, .int (nI j)), (2, .int (nI k0)), (3, .int x), (4, .int y)] := hl
  obtain ⟨hL, h_1000, h_1002, h_1004, h_1005, h_1007, h_1008, h_1009, h_1010, h_1011, h_1012, h_1013, h_1014, h_1015, h_1016, h_1019, h_1020, h_1021, h_1022, h_1024, h_1025, h_1026, h_1027, h_1028, h_1029, h_1030, h_1032⟩ := id hM
  have tI_n : (nI n).toInt = (n : Int) := nI_toInt (by omega)
  refine lv_aload_n hx hb dX9_blacken_0 rfl (lv_at hl 0 rfl) ?_
  refine lv_iload_n hx hb dX9_blacken_1 rfl (lv_at hl 1 rfl) ?_
  refine lv_iload_n hx hb dX9_blacken_2 rfl (lv_at hl 2 rfl) ?_
  refine m_callVE (ci := 9) (As := [.int (nI j), .int (nI k0)]) (rest := []) (c_M_isVersion_t l D ty L ad _ a dn pn en qn mz nw lo tr j k0 vj hM hj9 hpn hvj hv4 hk0) ⟨hx, hb, hml, hown, hts⟩ (cwV 2 hts gX9_blacken_X9_isVersion rfl rfl rfl (by decide +kernel) ⟨Nat.le_of_ble_eq_true rfl, Nat.le_of_ble_eq_true rfl⟩) hB (hL 1000 (by decide)) h_1000 rfl rfl hl.1 rfl (Nat.le_of_ble_eq_true rfl) dX9_blacken_3 ⟨Nat.le_of_ble_eq_true rfl, Nat.le_of_ble_eq_true rfl⟩ (fun H locs hB => ?_)
  refine b_if_eq_f 34 hx hb dX9_blacken_6 (by decide) (by decide) ?_
  refine lv_iload_n hx hb dX9_blacken_9 rfl (lv_at hl 3 rfl) ?_
  refine b_if_lt_f 34 hx hb dX9_blacken_10 (by decide) (by have := (by decide : (0 : Int32).toInt = 0); omega) ?_
  refine lv_iload hx hb dX9_blacken_13 (lv_at hl 4 rfl) ?_
  refine lv_aload_n hx hb dX9_blacken_15 rfl (lv_at hl 0 rfl) ?_
  refine m_get (C := RX9) (T := TX9) (N := 33) (ci := 9) hx hb hts in_X9_blacken_X9 hown hB (hL 1000 (by decide)) h_1000 rfl 11 (by decide) (hts (.fieldLink RX9 35 "PaperRoomModel" "size" "[I") (by decide +kernel)) (fun _ h9 => h9) rfl dX9_blacken_16 ?_
  refine lv_iconst (v := 4) hx hb dX9_blacken_19 (by decide) ?_
  refine lv_iload_n hx hb dX9_blacken_20 rfl (lv_at hl 1 rfl) ?_
  refine lv_imul hx hb dX9_blacken_21 ?_
  refine b_topi (w := nI (4 * j)) (pk_mul 4 j) ?_
  refine lv_iload_n hx hb dX9_blacken_22 rfl (lv_at hl 2 rfl) ?_
  refine lv_iadd hx hb dX9_blacken_23 ?_
  refine b_topi (w := nI ((4 * j) + k0)) (nI_add (4 * j) k0) ?_
  refine n_iald hx hb hB (hL 1012 (by decide)) h_1012 ((4 * j) + k0) rfl (by omega) (by omega) dX9_blacken_24 ?_
  refine b_topi (w := nI n) (hsz) ?_
  refine b_icmp_gt_f 34 hx hb dX9_blacken_25 (by decide) (by omega) ?_
  refine lv_iload_n hx hb dX9_blacken_28 rfl (lv_at hl 3 rfl) ?_
  refine lv_iload hx hb dX9_blacken_29 (lv_at hl 4 rfl) ?_
  refine b_icmp_lt_f 36 hx hb dX9_blacken_31 (by decide) (by omega) ?_
  refine lv_iconst (v := (-1)) hx hb dX9_blacken_34 (by decide) ?_
  exact m_iret hx hb hrt hlocks hB (Nat.le_refl _) (Nat.le_refl _) dX9_blacken_35 ⟨rfl, rfl, rfl, rfl⟩
set_option maxHeartbeats 1000000 in
set_option maxRecDepth 100000 in
theorem c_M_blacken_ok (l : Launch) (D : va_G) (ty : Nat → ClassId) (L : List Nat) (ad : Nat → Nat) (g : Nat → va_E) (a : Nat → Nat → Int32) (dn pn en qn mz : Nat) (nw lo : Int32) (tr : Int64) (j k0 vj n x y : Nat) (hM : RM ty L ad g a dn pn en qn mz nw lo tr) (hj9 : j < pn) (hpn : pn ≤ 8) (hvj : a 10 j = nI vj) (hv4 : vj ≤ 4) (hk0 : k0 < vj) (hsz : a 11 (4 * j + k0) = nI n) (hn40 : n ≤ 40) (h2 : y ≤ n) (h3 : x < y) : m_C l yX9_blacken wsX9_blacken 3 65 0 0 D ty [.ref (ad 1000), .int (nI j), .int (nI k0), .int (nI x), .int (nI y)] L ad g (fun v1 L1 ad1 g1 => v1 = (some (.int (nI (bl_c (fun i => a 13 (40 * (4 * j + k0) + i)) x y n)))) ∧ L1 = L ∧ ad1 = ad ∧ (∀ x, x < 1000 → g1 x = g x) ∧ RM ty L ad g1 (va_up a 13 (pb (a 13) (blH a (40 * (4 * j + k0)) x y) (40 * (4 * j + k0)) n)) dn pn en qn mz nw lo tr) := by
  intro sz
  refine Met.ofW (cc := cX9_blacken) (maxL := 8) (ret := (some .int)) (by decide) rfl ?_
  intro p e s m args below meth c s₁ B hml hv
  have hx := B.exec
  have hb := B.bytes
  have hrt := B.returns
  have hts := atoms_spec (ws := wsX9_blacken) B.pre
  have hown : s.vm.findClass RX9 = some m.cls := findClass_of_methodNamed B.named
  have hlocks := B.notSynchronized
  obtain ⟨rfl, hB⟩ := m_start hv
  generalize va_A (m_w L ad g) sz = A at hB ⊢
  generalize s.heap = H at hB ⊢
  generalize ([] : List Loc) = locs at hB ⊢
  have hl := lv_entry ([.ref (ad 1000), .int (nI j), .int (nI k0), .int (nI x), .int (nI y)]) (n := 8) (Nat.le_of_ble_eq_true rfl)
  rw [lg_entry_eq]
  generalize (lg_sl ([.ref (ad 1000), .int (nI j), .int (nI k0), .int (nI x), .int (nI y)]) ++ List.replicate (8 - (lg_sl ([.ref (ad 1000), .int (nI j), .int (nI k0), .int (nI x), .int (nI y)])).length) Slot.unset).toArray = ls at hl ⊢
  have hl : lv_has ls 8 [(0, .ref (ad 1000)), (1, .int (nI j)), (2, .int (nI k0)), (3, .int (nI x)), (4, .int (nI y))] := hl
  obtain ⟨hL, h_1000, h_1002, h_1004, h_1005, h_1007, h_1008, h_1009, h_1010, h_1011, h_1012, h_1013, h_1014, h_1015, h_1016, h_1019, h_1020, h_1021, h_1022, h_1024, h_1025, h_1026, h_1027, h_1028, h_1029, h_1030, h_1032⟩ := id hM
  have tI_n : (nI n).toInt = (n : Int) := nI_toInt (by omega)
  have tI_x : (nI x).toInt = (x : Int) := nI_toInt (by omega)
  have tI_y : (nI y).toInt = (y : Int) := nI_toInt (by omega)
  refine lv_aload_n hx hb dX9_blacken_0 rfl (lv_at hl 0 rfl) ?_
  refine lv_iload_n hx hb dX9_blacken_1 rfl (lv_at hl 1 rfl) ?_
  refine lv_iload_n hx hb dX9_blacken_2 rfl (lv_at hl 2 rfl) ?_
  refine m_callVE (ci := 9) (As := [.int (nI j), .int (nI k0)]) (rest := []) (c_M_isVersion_t l D ty L ad _ a dn pn en qn mz nw lo tr j k0 vj hM hj9 hpn hvj hv4 hk0) ⟨hx, hb, hml, hown, hts⟩ (cwV 2 hts gX9_blacken_X9_isVersion rfl rfl rfl (by decide +kernel) ⟨Nat.le_of_ble_eq_true rfl, Nat.le_of_ble_eq_true rfl⟩) hB (hL 1000 (by decide)) h_1000 rfl rfl hl.1 rfl (Nat.le_of_ble_eq_true rfl) dX9_blacken_3 ⟨Nat.le_of_ble_eq_true rfl, Nat.le_of_ble_eq_true rfl⟩ (fun H locs hB => ?_)
  refine b_if_eq_f 34 hx hb dX9_blacken_6 (by decide) (by decide) ?_
  refine lv_iload_n hx hb dX9_blacken_9 rfl (lv_at hl 3 rfl) ?_
  refine b_if_lt_f 34 hx hb dX9_blacken_10 (by decide) (by have := (by decide : (0 : Int32).toInt = 0); omega) ?_
  refine lv_iload hx hb dX9_blacken_13 (lv_at hl 4 rfl) ?_
  refine lv_aload_n hx hb dX9_blacken_15 rfl (lv_at hl 0 rfl) ?_
  refine m_get (C := RX9) (T := TX9) (N := 33) (ci := 9) hx hb hts in_X9_blacken_X9 hown hB (hL 1000 (by decide)) h_1000 rfl 11 (by decide) (hts (.fieldLink RX9 35 "PaperRoomModel" "size" "[I") (by decide +kernel)) (fun _ h9 => h9) rfl dX9_blacken_16 ?_
  refine lv_iconst (v := 4) hx hb dX9_blacken_19 (by decide) ?_
  refine lv_iload_n hx hb dX9_blacken_20 rfl (lv_at hl 1 rfl) ?_
  refine lv_imul hx hb dX9_blacken_21 ?_
  refine b_topi (w := nI (4 * j)) (pk_mul 4 j) ?_
  refine lv_iload_n hx hb dX9_blacken_22 rfl (lv_at hl 2 rfl) ?_
  refine lv_iadd hx hb dX9_blacken_23 ?_
  refine b_topi (w := nI ((4 * j) + k0)) (nI_add (4 * j) k0) ?_
  refine n_iald hx hb hB (hL 1012 (by decide)) h_1012 ((4 * j) + k0) rfl (by omega) (by omega) dX9_blacken_24 ?_
  refine b_topi (w := nI n) (hsz) ?_
  refine b_icmp_gt_f 34 hx hb dX9_blacken_25 (by decide) (by omega) ?_
  refine lv_iload_n hx hb dX9_blacken_28 rfl (lv_at hl 3 rfl) ?_
  refine lv_iload hx hb dX9_blacken_29 (lv_at hl 4 rfl) ?_
  refine b_icmp_lt_t 36 hx hb dX9_blacken_31 (by decide) (by omega) ?_
  refine lv_iconst (v := 4) hx hb dX9_blacken_36 (by decide) ?_
  refine lv_iload_n hx hb dX9_blacken_37 rfl (lv_at hl 1 rfl) ?_
  refine lv_imul hx hb dX9_blacken_38 ?_
  refine b_topi (w := nI (4 * j)) (pk_mul 4 j) ?_
  refine lv_iload_n hx hb dX9_blacken_39 rfl (lv_at hl 2 rfl) ?_
  refine lv_iadd hx hb dX9_blacken_40 ?_
  refine b_topi (w := nI ((4 * j) + k0)) (nI_add (4 * j) k0) ?_
  refine lv_istore (lv' := [(5, .int (nI ((4 * j) + k0))), (0, .ref (ad 1000)), (1, .int (nI j)), (2, .int (nI k0)), (3, .int (nI x)), (4, .int (nI y))]) hx hb dX9_blacken_41 hl (by decide) rfl (fun ls hl => ?_)
  refine lv_iconst (v := 0) hx hb dX9_blacken_43 (by decide) ?_
  refine lv_istore (lv' := [(6, .int 0), (5, .int (nI ((4 * j) + k0))), (0, .ref (ad 1000)), (1, .int (nI j)), (2, .int (nI k0)), (3, .int (nI x)), (4, .int (nI y))]) hx hb dX9_blacken_44 hl (by decide) rfl (fun ls hl => ?_)
  refine lv_iconst (v := 0) hx hb dX9_blacken_46 (by decide) ?_
  refine lv_istore (lv' := [(7, .int 0), (6, .int 0), (5, .int (nI ((4 * j) + k0))), (0, .ref (ad 1000)), (1, .int (nI j)), (2, .int (nI k0)), (3, .int (nI x)), (4, .int (nI y))]) hx hb dX9_blacken_47 hl (by decide) rfl (fun ls hl => ?_)
  replace hl : lv_has ls 8 [(0, .ref (ad 1000)), (3, .int (nI x)), (4, .int (nI y)), (5, .int (nI ((4 * j) + k0))), (6, .int 0), (7, .int 0)] := lv_sub hl [3, 6, 7, 2, 1, 0] rfl
  obtain ⟨k, hk0⟩ : ∃ k : Nat, k = 0 := ⟨0, rfl⟩
  replace hB : m_B D ty A s L ad (va_up g 1014 (.inl (ty 3, 1280, .inl (pb (a 13) (blH a (40 * (4 * j + k0)) x y) (40 * (4 * j + k0)) k)))) H locs := by
    rw [hk0]
    show m_B D ty A s L ad (va_up g 1014 (.inl (ty 3, 1280, .inl (a 13)))) H locs; rw [up_same (f := g) h_1014]; exact hB
  replace hl : lv_has ls 8 [(0, .ref (ad 1000)), (3, .int (nI x)), (4, .int (nI y)), (5, .int (nI ((4 * j) + k0))), (6, .int (nI (bl_c (fun i => a 13 ((40 * (4 * j + k0)) + i)) x y k))), (7, .int (nI k))] := by rw [hk0]; exact hl
  obtain ⟨jz, hj⟩ : ∃ jz : Nat, k + jz = n := ⟨n - k, by omega⟩
  clear hk0
  induction jz generalizing k H locs ls with
  | zero =>
    have hje : k = n := by omega
    have tI_k : (nI k).toInt = (k : Int) := nI_toInt (by omega)
    refine lv_iload hx hb dX9_blacken_49 (lv_at hl 5 rfl) ?_
    refine lv_aload_n hx hb dX9_blacken_51 rfl (lv_at hl 0 rfl) ?_
    refine m_get (C := RX9) (T := TX9) (N := 33) (ci := 9) hx hb hts in_X9_blacken_X9 hown hB (hL 1000 (by decide)) ((va_up_ne _ _ (by decide)).trans h_1000) rfl 11 (by decide) (hts (.fieldLink RX9 35 "PaperRoomModel" "size" "[I") (by decide +kernel)) (fun _ h9 => h9) rfl dX9_blacken_52 ?_
    refine lv_iload hx hb dX9_blacken_55 (lv_at hl 3 rfl) ?_
    refine n_iald hx hb hB (hL 1012 (by decide)) ((va_up_ne _ _ (by decide)).trans h_1012) ((4 * j) + k0) rfl (by omega) (by omega) dX9_blacken_57 ?_
    refine b_topi (w := nI n) (hsz) ?_
    refine b_icmp_ge_t 140 hx hb dX9_blacken_58 (by decide) (by omega) ?_
    subst hje
    refine lv_iload hx hb dX9_blacken_140 (lv_at hl 4 rfl) ?_
    exact m_iret hx hb hrt hlocks hB (Nat.le_refl _) (Nat.le_refl _) dX9_blacken_142 ⟨rfl, rfl, rfl, (fun x hx => (va_up_ne _ _ (by omega))), ⟨hL, ((va_up_ne _ _ (by decide)).trans h_1000), ((va_up_ne _ _ (by decide)).trans h_1002), ((va_up_ne _ _ (by decide)).trans h_1004), ((va_up_ne _ _ (by decide)).trans h_1005), ((va_up_ne _ _ (by decide)).trans h_1007), ((va_up_ne _ _ (by decide)).trans h_1008), ((va_up_ne _ _ (by decide)).trans h_1009), ((va_up_ne _ _ (by decide)).trans h_1010), ((va_up_ne _ _ (by decide)).trans h_1011), ((va_up_ne _ _ (by decide)).trans h_1012), ((va_up_ne _ _ (by decide)).trans h_1013), (va_up_self _ _ _), ((va_up_ne _ _ (by decide)).trans h_1015), ((va_up_ne _ _ (by decide)).trans h_1016), ((va_up_ne _ _ (by decide)).trans h_1019), ((va_up_ne _ _ (by decide)).trans h_1020), ((va_up_ne _ _ (by decide)).trans h_1021), ((va_up_ne _ _ (by decide)).trans h_1022), ((va_up_ne _ _ (by decide)).trans h_1024), ((va_up_ne _ _ (by decide)).trans h_1025), ((va_up_ne _ _ (by decide)).trans h_1026), ((va_up_ne _ _ (by decide)).trans h_1027), ((va_up_ne _ _ (by decide)).trans h_1028), ((va_up_ne _ _ (by decide)).trans h_1029), ((va_up_ne _ _ (by decide)).trans h_1030), ((va_up_ne _ _ (by decide)).trans h_1032)⟩⟩
  | succ jz ihj =>
    have hjl : k < n := by omega
    have tI_k : (nI k).toInt = (k : Int) := nI_toInt (by omega)
    have hm3 := nI_m1 (n := y) (by omega)
    by_cases hz : a 13 ((40 * (4 * j + k0)) + k) = 0
    · skip
      by_cases hs : x ≤ k ∧ k < y
      · skip
        have h9 : ¬ a 13 ((40 * (4 * j + k0)) + k) = 0 ∨ (x ≤ k ∧ k < y) := Or.inr hs
        refine lv_iload hx hb dX9_blacken_49 (lv_at hl 5 rfl) ?_
        refine lv_aload_n hx hb dX9_blacken_51 rfl (lv_at hl 0 rfl) ?_
        refine m_get (C := RX9) (T := TX9) (N := 33) (ci := 9) hx hb hts in_X9_blacken_X9 hown hB (hL 1000 (by decide)) ((va_up_ne _ _ (by decide)).trans h_1000) rfl 11 (by decide) (hts (.fieldLink RX9 35 "PaperRoomModel" "size" "[I") (by decide +kernel)) (fun _ h9 => h9) rfl dX9_blacken_52 ?_
        refine lv_iload hx hb dX9_blacken_55 (lv_at hl 3 rfl) ?_
        refine n_iald hx hb hB (hL 1012 (by decide)) ((va_up_ne _ _ (by decide)).trans h_1012) ((4 * j) + k0) rfl (by omega) (by omega) dX9_blacken_57 ?_
        refine b_topi (w := nI n) (hsz) ?_
        refine b_icmp_ge_f 140 hx hb dX9_blacken_58 (by decide) (by omega) ?_
        refine lv_aload_n hx hb dX9_blacken_61 rfl (lv_at hl 0 rfl) ?_
        refine m_get (C := RX9) (T := TX9) (N := 33) (ci := 9) hx hb hts in_X9_blacken_X9 hown hB (hL 1000 (by decide)) ((va_up_ne _ _ (by decide)).trans h_1000) rfl 13 (by decide) (hts (.fieldLink RX9 41 "PaperRoomModel" "isBlack" "[Z") (by decide +kernel)) (fun _ h9 => h9) rfl dX9_blacken_62 ?_
        refine lv_bipush (v := 40) hx hb dX9_blacken_65 (by decide) ?_
        refine lv_iload hx hb dX9_blacken_67 (lv_at hl 3 rfl) ?_
        refine lv_imul hx hb dX9_blacken_69 ?_
        refine b_topi (w := nI (40 * ((4 * j) + k0))) (pk_mul 40 ((4 * j) + k0)) ?_
        refine lv_iload hx hb dX9_blacken_70 (lv_at hl 5 rfl) ?_
        refine lv_iadd hx hb dX9_blacken_72 ?_
        refine b_topi (w := nI ((40 * ((4 * j) + k0)) + k)) (nI_add (40 * ((4 * j) + k0)) k) ?_
        refine lv_aload_n hx hb dX9_blacken_73 rfl (lv_at hl 0 rfl) ?_
        refine m_get (C := RX9) (T := TX9) (N := 33) (ci := 9) hx hb hts in_X9_blacken_X9 hown hB (hL 1000 (by decide)) ((va_up_ne _ _ (by decide)).trans h_1000) rfl 13 (by decide) (hts (.fieldLink RX9 41 "PaperRoomModel" "isBlack" "[Z") (by decide +kernel)) (fun _ h9 => h9) rfl dX9_blacken_74 ?_
        refine lv_bipush (v := 40) hx hb dX9_blacken_77 (by decide) ?_
        refine lv_iload hx hb dX9_blacken_79 (lv_at hl 3 rfl) ?_
        refine lv_imul hx hb dX9_blacken_81 ?_
        refine b_topi (w := nI (40 * ((4 * j) + k0))) (pk_mul 40 ((4 * j) + k0)) ?_
        refine lv_iload hx hb dX9_blacken_82 (lv_at hl 5 rfl) ?_
        refine lv_iadd hx hb dX9_blacken_84 ?_
        refine b_topi (w := nI ((40 * ((4 * j) + k0)) + k)) (nI_add (40 * ((4 * j) + k0)) k) ?_
        refine n_zald hx hb hB (hL 1014 (by decide)) (va_up_self _ _ _) ((40 * ((4 * j) + k0)) + k) rfl (by omega) (by omega) dX9_blacken_85 ?_
        refine b_topi (w := a 13 ((40 * (4 * j + k0)) + k)) (pb_at _ _ _ _) ?_
        refine b_if_ne_f 102 hx hb dX9_blacken_86 (by decide) (by rw [hz]; decide) ?_
        refine lv_iload hx hb dX9_blacken_89 (lv_at hl 5 rfl) ?_
        refine lv_iload_n hx hb dX9_blacken_91 rfl (lv_at hl 1 rfl) ?_
        refine lv_iload hx hb dX9_blacken_92 (lv_at hl 2 rfl) ?_
        refine lv_iconst (v := 1) hx hb dX9_blacken_94 (by decide) ?_
        refine lv_isub hx hb dX9_blacken_95 ?_
        refine m_callSE (As := [.int (nI k), .int (nI x), .int ((nI y) - 1)]) (rest := [.int (nI ((40 * ((4 * j) + k0)) + k)), .ref (ad 1014)]) (c_M_in_t l D ty L ad _ _ _ _ (by omega) (by omega)) ⟨hx, hb, hml, hown, hts⟩ (va_cwS 3 hts gX9_blacken_X9_in rfl rfl rfl (by decide +kernel) ⟨Nat.le_of_ble_eq_true rfl, Nat.le_of_ble_eq_true rfl⟩) hB rfl hl.1 rfl (Nat.le_of_ble_eq_true rfl) dX9_blacken_96 ⟨Nat.le_of_ble_eq_true rfl, Nat.le_of_ble_eq_true rfl⟩ (fun H locs hB => ?_)
        refine b_if_eq_f 106 hx hb dX9_blacken_99 (by decide) (by decide) ?_
        refine lv_iconst (v := 1) hx hb dX9_blacken_102 (by decide) ?_
        refine lv_goto (tgt := 107) hx hb dX9_blacken_103 (by decide) ?_
        refine n_zast hx hb hB (hL 1014 (by decide)) (va_up_self _ _ _) ((40 * ((4 * j) + k0)) + k) rfl (by omega) (by omega) dX9_blacken_107 (fun H locs hB => ?_)
        replace hB : m_B D ty A s L ad (va_up (va_up g 1014 (.inl (ty 3, 1280, .inl (pb (a 13) (blH a (40 * (4 * j + k0)) x y) (40 * (4 * j + k0)) k)))) 1014 (.inl (ty 3, 1280, .inl (upd (pb (a 13) (blH a (40 * (4 * j + k0)) x y) (40 * (4 * j + k0)) k) ((40 * ((4 * j) + k0)) + k) (vp_nar .boolean 1))))) H locs := hB
        refine lv_iload hx hb dX9_blacken_108 (lv_at hl 4 rfl) ?_
        refine lv_aload_n hx hb dX9_blacken_110 rfl (lv_at hl 0 rfl) ?_
        refine m_get (C := RX9) (T := TX9) (N := 33) (ci := 9) hx hb hts in_X9_blacken_X9 hown hB (hL 1000 (by decide)) ((va_up_ne _ _ (by decide)).trans ((va_up_ne _ _ (by decide)).trans h_1000)) rfl 13 (by decide) (hts (.fieldLink RX9 41 "PaperRoomModel" "isBlack" "[Z") (by decide +kernel)) (fun _ h9 => h9) rfl dX9_blacken_111 ?_
        refine lv_bipush (v := 40) hx hb dX9_blacken_114 (by decide) ?_
        refine lv_iload hx hb dX9_blacken_116 (lv_at hl 3 rfl) ?_
        refine lv_imul hx hb dX9_blacken_118 ?_
        refine b_topi (w := nI (40 * ((4 * j) + k0))) (pk_mul 40 ((4 * j) + k0)) ?_
        refine lv_iload hx hb dX9_blacken_119 (lv_at hl 5 rfl) ?_
        refine lv_iadd hx hb dX9_blacken_121 ?_
        refine b_topi (w := nI ((40 * ((4 * j) + k0)) + k)) (nI_add (40 * ((4 * j) + k0)) k) ?_
        refine n_zald hx hb hB (hL 1014 (by decide)) (va_up_self _ _ _) ((40 * ((4 * j) + k0)) + k) rfl (by omega) (by omega) dX9_blacken_122 ?_
        refine b_topi (w := 1) (by rw [pk_us]; decide) ?_
        refine b_if_eq_f 130 hx hb dX9_blacken_123 (by decide) (by decide) ?_
        refine lv_iconst (v := 1) hx hb dX9_blacken_126 (by decide) ?_
        refine lv_goto (tgt := 131) hx hb dX9_blacken_127 (by decide) ?_
        refine lv_iadd hx hb dX9_blacken_131 ?_
        refine b_topi (w := nI (bl_c (fun i => a 13 ((40 * (4 * j + k0)) + i)) x y (k + 1))) (by rw [bl_c_in (bk := fun i => a 13 ((40 * (4 * j + k0)) + i)) (x := x) (y := y) (k := k) (h9.symm.imp id id)]; exact nI_add _ 1) ?_
        refine lv_istore (lv' := [(6, .int (nI (bl_c (fun i => a 13 ((40 * (4 * j + k0)) + i)) x y (k + 1)))), (0, .ref (ad 1000)), (3, .int (nI x)), (4, .int (nI y)), (5, .int (nI ((4 * j) + k0))), (7, .int (nI k))]) hx hb dX9_blacken_132 hl (by decide) rfl (fun ls hl => ?_)
        refine lv_iinc (v := nI (k + 1)) (lv' := [(7, .int (nI (k + 1))), (6, .int (nI (bl_c (fun i => a 13 ((40 * (4 * j + k0)) + i)) x y (k + 1)))), (0, .ref (ad 1000)), (3, .int (nI x)), (4, .int (nI y)), (5, .int (nI ((4 * j) + k0)))]) hx hb dX9_blacken_134 hl (k := 5) rfl (nI_add k 1) (by decide) rfl (fun ls hl => ?_)
        refine lv_goto (tgt := 49) hx hb dX9_blacken_137 (by decide) ?_
        have hB : m_B D ty A s L ad (va_up g 1014 (.inl (ty 3, 1280, .inl (pb (a 13) (blH a (40 * (4 * j + k0)) x y) (40 * (4 * j + k0)) (k + 1))))) H locs := by
          rw [bx_uu, z_1] at hB; exact (show upd (pb (a 13) (blH a (40 * (4 * j + k0)) x y) (40 * (4 * j + k0)) k) ((40 * (4 * j + k0)) + k) 1 = (pb (a 13) (blH a (40 * (4 * j + k0)) x y) (40 * (4 * j + k0)) (k + 1)) from (by rw [← blH_1 (a := a) (o := (40 * (4 * j + k0))) (x := x) (y := y) (i := k) h9]; rfl)) ▸ hB
        have hl : lv_has ls 8 [(0, .ref (ad 1000)), (3, .int (nI x)), (4, .int (nI y)), (5, .int (nI ((4 * j) + k0))), (6, .int (nI (bl_c (fun i => a 13 ((40 * (4 * j + k0)) + i)) x y (k + 1)))), (7, .int (nI (k + 1)))] := lv_sub hl [2, 3, 4, 5, 1, 0] rfl
        apply ihj (k := (k + 1)) (H := H) (locs := locs) (ls := ls) <;> first | omega | exact hB | exact hl
      · skip
        have h9 : ¬ (¬ a 13 ((40 * (4 * j + k0)) + k) = 0 ∨ (x ≤ k ∧ k < y)) := fun h => h.elim (fun h => h hz) hs
        refine lv_iload hx hb dX9_blacken_49 (lv_at hl 5 rfl) ?_
        refine lv_aload_n hx hb dX9_blacken_51 rfl (lv_at hl 0 rfl) ?_
        refine m_get (C := RX9) (T := TX9) (N := 33) (ci := 9) hx hb hts in_X9_blacken_X9 hown hB (hL 1000 (by decide)) ((va_up_ne _ _ (by decide)).trans h_1000) rfl 11 (by decide) (hts (.fieldLink RX9 35 "PaperRoomModel" "size" "[I") (by decide +kernel)) (fun _ h9 => h9) rfl dX9_blacken_52 ?_
        refine lv_iload hx hb dX9_blacken_55 (lv_at hl 3 rfl) ?_
        refine n_iald hx hb hB (hL 1012 (by decide)) ((va_up_ne _ _ (by decide)).trans h_1012) ((4 * j) + k0) rfl (by omega) (by omega) dX9_blacken_57 ?_
        refine b_topi (w := nI n) (hsz) ?_
        refine b_icmp_ge_f 140 hx hb dX9_blacken_58 (by decide) (by omega) ?_
        refine lv_aload_n hx hb dX9_blacken_61 rfl (lv_at hl 0 rfl) ?_
        refine m_get (C := RX9) (T := TX9) (N := 33) (ci := 9) hx hb hts in_X9_blacken_X9 hown hB (hL 1000 (by decide)) ((va_up_ne _ _ (by decide)).trans h_1000) rfl 13 (by decide) (hts (.fieldLink RX9 41 "PaperRoomModel" "isBlack" "[Z") (by decide +kernel)) (fun _ h9 => h9) rfl dX9_blacken_62 ?_
        refine lv_bipush (v := 40) hx hb dX9_blacken_65 (by decide) ?_
        refine lv_iload hx hb dX9_blacken_67 (lv_at hl 3 rfl) ?_
        refine lv_imul hx hb dX9_blacken_69 ?_
        refine b_topi (w := nI (40 * ((4 * j) + k0))) (pk_mul 40 ((4 * j) + k0)) ?_
        refine lv_iload hx hb dX9_blacken_70 (lv_at hl 5 rfl) ?_
        refine lv_iadd hx hb dX9_blacken_72 ?_
        refine b_topi (w := nI ((40 * ((4 * j) + k0)) + k)) (nI_add (40 * ((4 * j) + k0)) k) ?_
        refine lv_aload_n hx hb dX9_blacken_73 rfl (lv_at hl 0 rfl) ?_
        refine m_get (C := RX9) (T := TX9) (N := 33) (ci := 9) hx hb hts in_X9_blacken_X9 hown hB (hL 1000 (by decide)) ((va_up_ne _ _ (by decide)).trans h_1000) rfl 13 (by decide) (hts (.fieldLink RX9 41 "PaperRoomModel" "isBlack" "[Z") (by decide +kernel)) (fun _ h9 => h9) rfl dX9_blacken_74 ?_
        refine lv_bipush (v := 40) hx hb dX9_blacken_77 (by decide) ?_
        refine lv_iload hx hb dX9_blacken_79 (lv_at hl 3 rfl) ?_
        refine lv_imul hx hb dX9_blacken_81 ?_
        refine b_topi (w := nI (40 * ((4 * j) + k0))) (pk_mul 40 ((4 * j) + k0)) ?_
        refine lv_iload hx hb dX9_blacken_82 (lv_at hl 5 rfl) ?_
        refine lv_iadd hx hb dX9_blacken_84 ?_
        refine b_topi (w := nI ((40 * ((4 * j) + k0)) + k)) (nI_add (40 * ((4 * j) + k0)) k) ?_
        refine n_zald hx hb hB (hL 1014 (by decide)) (va_up_self _ _ _) ((40 * ((4 * j) + k0)) + k) rfl (by omega) (by omega) dX9_blacken_85 ?_
        refine b_topi (w := a 13 ((40 * (4 * j + k0)) + k)) (pb_at _ _ _ _) ?_
        refine b_if_ne_f 102 hx hb dX9_blacken_86 (by decide) (by rw [hz]; decide) ?_
        refine lv_iload hx hb dX9_blacken_89 (lv_at hl 5 rfl) ?_
        refine lv_iload_n hx hb dX9_blacken_91 rfl (lv_at hl 1 rfl) ?_
        refine lv_iload hx hb dX9_blacken_92 (lv_at hl 2 rfl) ?_
        refine lv_iconst (v := 1) hx hb dX9_blacken_94 (by decide) ?_
        refine lv_isub hx hb dX9_blacken_95 ?_
        refine m_callSE (As := [.int (nI k), .int (nI x), .int ((nI y) - 1)]) (rest := [.int (nI ((40 * ((4 * j) + k0)) + k)), .ref (ad 1014)]) (c_M_in_f l D ty L ad _ _ _ _ (by omega)) ⟨hx, hb, hml, hown, hts⟩ (va_cwS 3 hts gX9_blacken_X9_in rfl rfl rfl (by decide +kernel) ⟨Nat.le_of_ble_eq_true rfl, Nat.le_of_ble_eq_true rfl⟩) hB rfl hl.1 rfl (Nat.le_of_ble_eq_true rfl) dX9_blacken_96 ⟨Nat.le_of_ble_eq_true rfl, Nat.le_of_ble_eq_true rfl⟩ (fun H locs hB => ?_)
        refine b_if_eq_t 106 hx hb dX9_blacken_99 (by decide) (by decide) ?_
        refine lv_iconst (v := 0) hx hb dX9_blacken_106 (by decide) ?_
        refine n_zast hx hb hB (hL 1014 (by decide)) (va_up_self _ _ _) ((40 * ((4 * j) + k0)) + k) rfl (by omega) (by omega) dX9_blacken_107 (fun H locs hB => ?_)
        replace hB : m_B D ty A s L ad (va_up (va_up g 1014 (.inl (ty 3, 1280, .inl (pb (a 13) (blH a (40 * (4 * j + k0)) x y) (40 * (4 * j + k0)) k)))) 1014 (.inl (ty 3, 1280, .inl (upd (pb (a 13) (blH a (40 * (4 * j + k0)) x y) (40 * (4 * j + k0)) k) ((40 * ((4 * j) + k0)) + k) (vp_nar .boolean 0))))) H locs := hB
        refine lv_iload hx hb dX9_blacken_108 (lv_at hl 4 rfl) ?_
        refine lv_aload_n hx hb dX9_blacken_110 rfl (lv_at hl 0 rfl) ?_
        refine m_get (C := RX9) (T := TX9) (N := 33) (ci := 9) hx hb hts in_X9_blacken_X9 hown hB (hL 1000 (by decide)) ((va_up_ne _ _ (by decide)).trans ((va_up_ne _ _ (by decide)).trans h_1000)) rfl 13 (by decide) (hts (.fieldLink RX9 41 "PaperRoomModel" "isBlack" "[Z") (by decide +kernel)) (fun _ h9 => h9) rfl dX9_blacken_111 ?_
        refine lv_bipush (v := 40) hx hb dX9_blacken_114 (by decide) ?_
        refine lv_iload hx hb dX9_blacken_116 (lv_at hl 3 rfl) ?_
        refine lv_imul hx hb dX9_blacken_118 ?_
        refine b_topi (w := nI (40 * ((4 * j) + k0))) (pk_mul 40 ((4 * j) + k0)) ?_
        refine lv_iload hx hb dX9_blacken_119 (lv_at hl 5 rfl) ?_
        refine lv_iadd hx hb dX9_blacken_121 ?_
        refine b_topi (w := nI ((40 * ((4 * j) + k0)) + k)) (nI_add (40 * ((4 * j) + k0)) k) ?_
        refine n_zald hx hb hB (hL 1014 (by decide)) (va_up_self _ _ _) ((40 * ((4 * j) + k0)) + k) rfl (by omega) (by omega) dX9_blacken_122 ?_
        refine b_topi (w := 0) (by rw [pk_us]; decide) ?_
        refine b_if_eq_t 130 hx hb dX9_blacken_123 (by decide) (by decide) ?_
        refine lv_iconst (v := 0) hx hb dX9_blacken_130 (by decide) ?_
        refine lv_iadd hx hb dX9_blacken_131 ?_
        refine b_topi (w := nI (bl_c (fun i => a 13 ((40 * (4 * j + k0)) + i)) x y (k + 1))) (by rw [bl_c_out (bk := fun i => a 13 ((40 * (4 * j + k0)) + i)) (x := x) (y := y) (k := k) (fun h => h9 (Or.inr h)) (Classical.byContradiction (fun h => h9 (Or.inl h)))]; exact nI_add _ 0) ?_
        refine lv_istore (lv' := [(6, .int (nI (bl_c (fun i => a 13 ((40 * (4 * j + k0)) + i)) x y (k + 1)))), (0, .ref (ad 1000)), (3, .int (nI x)), (4, .int (nI y)), (5, .int (nI ((4 * j) + k0))), (7, .int (nI k))]) hx hb dX9_blacken_132 hl (by decide) rfl (fun ls hl => ?_)
        refine lv_iinc (v := nI (k + 1)) (lv' := [(7, .int (nI (k + 1))), (6, .int (nI (bl_c (fun i => a 13 ((40 * (4 * j + k0)) + i)) x y (k + 1)))), (0, .ref (ad 1000)), (3, .int (nI x)), (4, .int (nI y)), (5, .int (nI ((4 * j) + k0)))]) hx hb dX9_blacken_134 hl (k := 5) rfl (nI_add k 1) (by decide) rfl (fun ls hl => ?_)
        refine lv_goto (tgt := 49) hx hb dX9_blacken_137 (by decide) ?_
        have hB : m_B D ty A s L ad (va_up g 1014 (.inl (ty 3, 1280, .inl (pb (a 13) (blH a (40 * (4 * j + k0)) x y) (40 * (4 * j + k0)) (k + 1))))) H locs := by
          rw [bx_uu, z_0] at hB; exact (show upd (pb (a 13) (blH a (40 * (4 * j + k0)) x y) (40 * (4 * j + k0)) k) ((40 * (4 * j + k0)) + k) 0 = (pb (a 13) (blH a (40 * (4 * j + k0)) x y) (40 * (4 * j + k0)) (k + 1)) from (by rw [← blH_0 (a := a) (o := (40 * (4 * j + k0))) (x := x) (y := y) (i := k) h9]; rfl)) ▸ hB
        have hl : lv_has ls 8 [(0, .ref (ad 1000)), (3, .int (nI x)), (4, .int (nI y)), (5, .int (nI ((4 * j) + k0))), (6, .int (nI (bl_c (fun i => a 13 ((40 * (4 * j + k0)) + i)) x y (k + 1)))), (7, .int (nI (k + 1)))] := lv_sub hl [2, 3, 4, 5, 1, 0] rfl
        apply ihj (k := (k + 1)) (H := H) (locs := locs) (ls := ls) <;> first | omega | exact hB | exact hl
    · skip
      have h9 : ¬ a 13 ((40 * (4 * j + k0)) + k) = 0 ∨ (x ≤ k ∧ k < y) := Or.inl hz
      refine lv_iload hx hb dX9_blacken_49 (lv_at hl 5 rfl) ?_
      refine lv_aload_n hx hb dX9_blacken_51 rfl (lv_at hl 0 rfl) ?_
      refine m_get (C := RX9) (T := TX9) (N := 33) (ci := 9) hx hb hts in_X9_blacken_X9 hown hB (hL 1000 (by decide)) ((va_up_ne _ _ (by decide)).trans h_1000) rfl 11 (by decide) (hts (.fieldLink RX9 35 "PaperRoomModel" "size" "[I") (by decide +kernel)) (fun _ h9 => h9) rfl dX9_blacken_52 ?_
      refine lv_iload hx hb dX9_blacken_55 (lv_at hl 3 rfl) ?_
      refine n_iald hx hb hB (hL 1012 (by decide)) ((va_up_ne _ _ (by decide)).trans h_1012) ((4 * j) + k0) rfl (by omega) (by omega) dX9_blacken_57 ?_
      refine b_topi (w := nI n) (hsz) ?_
      refine b_icmp_ge_f 140 hx hb dX9_blacken_58 (by decide) (by omega) ?_
      refine lv_aload_n hx hb dX9_blacken_61 rfl (lv_at hl 0 rfl) ?_
      refine m_get (C := RX9) (T := TX9) (N := 33) (ci := 9) hx hb hts in_X9_blacken_X9 hown hB (hL 1000 (by decide)) ((va_up_ne _ _ (by decide)).trans h_1000) rfl 13 (by decide) (hts (.fieldLink RX9 41 "PaperRoomModel" "isBlack" "[Z") (by decide +kernel)) (fun _ h9 => h9) rfl dX9_blacken_62 ?_
      refine lv_bipush (v := 40) hx hb dX9_blacken_65 (by decide) ?_
      refine lv_iload hx hb dX9_blacken_67 (lv_at hl 3 rfl) ?_
      refine lv_imul hx hb dX9_blacken_69 ?_
      refine b_topi (w := nI (40 * ((4 * j) + k0))) (pk_mul 40 ((4 * j) + k0)) ?_
      refine lv_iload hx hb dX9_blacken_70 (lv_at hl 5 rfl) ?_
      refine lv_iadd hx hb dX9_blacken_72 ?_
      refine b_topi (w := nI ((40 * ((4 * j) + k0)) + k)) (nI_add (40 * ((4 * j) + k0)) k) ?_
      refine lv_aload_n hx hb dX9_blacken_73 rfl (lv_at hl 0 rfl) ?_
      refine m_get (C := RX9) (T := TX9) (N := 33) (ci := 9) hx hb hts in_X9_blacken_X9 hown hB (hL 1000 (by decide)) ((va_up_ne _ _ (by decide)).trans h_1000) rfl 13 (by decide) (hts (.fieldLink RX9 41 "PaperRoomModel" "isBlack" "[Z") (by decide +kernel)) (fun _ h9 => h9) rfl dX9_blacken_74 ?_
      refine lv_bipush (v := 40) hx hb dX9_blacken_77 (by decide) ?_
      refine lv_iload hx hb dX9_blacken_79 (lv_at hl 3 rfl) ?_
      refine lv_imul hx hb dX9_blacken_81 ?_
      refine b_topi (w := nI (40 * ((4 * j) + k0))) (pk_mul 40 ((4 * j) + k0)) ?_
      refine lv_iload hx hb dX9_blacken_82 (lv_at hl 5 rfl) ?_
      refine lv_iadd hx hb dX9_blacken_84 ?_
      refine b_topi (w := nI ((40 * ((4 * j) + k0)) + k)) (nI_add (40 * ((4 * j) + k0)) k) ?_
      refine n_zald hx hb hB (hL 1014 (by decide)) (va_up_self _ _ _) ((40 * ((4 * j) + k0)) + k) rfl (by omega) (by omega) dX9_blacken_85 ?_
      refine b_topi (w := a 13 ((40 * (4 * j + k0)) + k)) (pb_at _ _ _ _) ?_
      refine b_if_ne_t 102 hx hb dX9_blacken_86 (by decide) (fun h8 => hz ((i_eq _ _).mpr h8)) ?_
      refine lv_iconst (v := 1) hx hb dX9_blacken_102 (by decide) ?_
      refine lv_goto (tgt := 107) hx hb dX9_blacken_103 (by decide) ?_
      refine n_zast hx hb hB (hL 1014 (by decide)) (va_up_self _ _ _) ((40 * ((4 * j) + k0)) + k) rfl (by omega) (by omega) dX9_blacken_107 (fun H locs hB => ?_)
      replace hB : m_B D ty A s L ad (va_up (va_up g 1014 (.inl (ty 3, 1280, .inl (pb (a 13) (blH a (40 * (4 * j + k0)) x y) (40 * (4 * j + k0)) k)))) 1014 (.inl (ty 3, 1280, .inl (upd (pb (a 13) (blH a (40 * (4 * j + k0)) x y) (40 * (4 * j + k0)) k) ((40 * ((4 * j) + k0)) + k) (vp_nar .boolean 1))))) H locs := hB
      refine lv_iload hx hb dX9_blacken_108 (lv_at hl 4 rfl) ?_
      refine lv_aload_n hx hb dX9_blacken_110 rfl (lv_at hl 0 rfl) ?_
      refine m_get (C := RX9) (T := TX9) (N := 33) (ci := 9) hx hb hts in_X9_blacken_X9 hown hB (hL 1000 (by decide)) ((va_up_ne _ _ (by decide)).trans ((va_up_ne _ _ (by decide)).trans h_1000)) rfl 13 (by decide) (hts (.fieldLink RX9 41 "PaperRoomModel" "isBlack" "[Z") (by decide +kernel)) (fun _ h9 => h9) rfl dX9_blacken_111 ?_
      refine lv_bipush (v := 40) hx hb dX9_blacken_114 (by decide) ?_
      refine lv_iload hx hb dX9_blacken_116 (lv_at hl 3 rfl) ?_
      refine lv_imul hx hb dX9_blacken_118 ?_
      refine b_topi (w := nI (40 * ((4 * j) + k0))) (pk_mul 40 ((4 * j) + k0)) ?_
      refine lv_iload hx hb dX9_blacken_119 (lv_at hl 5 rfl) ?_
      refine lv_iadd hx hb dX9_blacken_121 ?_
      refine b_topi (w := nI ((40 * ((4 * j) + k0)) + k)) (nI_add (40 * ((4 * j) + k0)) k) ?_
      refine n_zald hx hb hB (hL 1014 (by decide)) (va_up_self _ _ _) ((40 * ((4 * j) + k0)) + k) rfl (by omega) (by omega) dX9_blacken_122 ?_
      refine b_topi (w := 1) (by rw [pk_us]; decide) ?_
      refine b_if_eq_f 130 hx hb dX9_blacken_123 (by decide) (by decide) ?_
      refine lv_iconst (v := 1) hx hb dX9_blacken_126 (by decide) ?_
      refine lv_goto (tgt := 131) hx hb dX9_blacken_127 (by decide) ?_
      refine lv_iadd hx hb dX9_blacken_131 ?_
      refine b_topi (w := nI (bl_c (fun i => a 13 ((40 * (4 * j + k0)) + i)) x y (k + 1))) (by rw [bl_c_in (bk := fun i => a 13 ((40 * (4 * j + k0)) + i)) (x := x) (y := y) (k := k) (h9.symm.imp id id)]; exact nI_add _ 1) ?_
      refine lv_istore (lv' := [(6, .int (nI (bl_c (fun i => a 13 ((40 * (4 * j + k0)) + i)) x y (k + 1)))), (0, .ref (ad 1000)), (3, .int (nI x)), (4, .int (nI y)), (5, .int (nI ((4 * j) + k0))), (7, .int (nI k))]) hx hb dX9_blacken_132 hl (by decide) rfl (fun ls hl => ?_)
      refine lv_iinc (v := nI (k + 1)) (lv' := [(7, .int (nI (k + 1))), (6, .int (nI (bl_c (fun i => a 13 ((40 * (4 * j + k0)) + i)) x y (k + 1)))), (0, .ref (ad 1000)), (3, .int (nI x)), (4, .int (nI y)), (5, .int (nI ((4 * j) + k0)))]) hx hb dX9_blacken_134 hl (k := 5) rfl (nI_add k 1) (by decide) rfl (fun ls hl => ?_)
      refine lv_goto (tgt := 49) hx hb dX9_blacken_137 (by decide) ?_
      have hB : m_B D ty A s L ad (va_up g 1014 (.inl (ty 3, 1280, .inl (pb (a 13) (blH a (40 * (4 * j + k0)) x y) (40 * (4 * j + k0)) (k + 1))))) H locs := by
        rw [bx_uu, z_1] at hB; exact (show upd (pb (a 13) (blH a (40 * (4 * j + k0)) x y) (40 * (4 * j + k0)) k) ((40 * (4 * j + k0)) + k) 1 = (pb (a 13) (blH a (40 * (4 * j + k0)) x y) (40 * (4 * j + k0)) (k + 1)) from (by rw [← blH_1 (a := a) (o := (40 * (4 * j + k0))) (x := x) (y := y) (i := k) h9]; rfl)) ▸ hB
      have hl : lv_has ls 8 [(0, .ref (ad 1000)), (3, .int (nI x)), (4, .int (nI y)), (5, .int (nI ((4 * j) + k0))), (6, .int (nI (bl_c (fun i => a 13 ((40 * (4 * j + k0)) + i)) x y (k + 1)))), (7, .int (nI (k + 1)))] := lv_sub hl [2, 3, 4, 5, 1, 0] rfl
      apply ihj (k := (k + 1)) (H := H) (locs := locs) (ls := ls) <;> first | omega | exact hB | exact hl
