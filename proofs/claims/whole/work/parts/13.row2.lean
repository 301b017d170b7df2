set_option maxRecDepth 20000 in
theorem in_X5_beginsWith_X5 : ∀ w ∈ wsX50, w ∈ wsX5_beginsWith := by decide +kernel
set_option maxHeartbeats 1000000 in
set_option maxRecDepth 100000 in
theorem c_Row_begins_f1 (l : Launch) (D : va_G) (ty : Nat → ClassId) (L : List Nat) (ad : Nat → Nat) (g : Nat → va_E) (r a n cap : Nat) (bs : Nat → Int32) (r2 a2 n2 cap2 : Nat) (bs2 : Nat → Int32) (m_r : r ∈ L) (m_a : a ∈ L) (m_r2 : r2 ∈ L) (m_a2 : a2 ∈ L) (h_r : g r = .inr (5, [.ref (ad a), .int (nI n)])) (h_a : g a = .inl (ty 2, cap, .inl bs)) (h_r2 : g r2 = .inr (5, [.ref (ad a2), .int (nI n2)])) (h_a2 : g a2 = .inl (ty 2, cap2, .inl bs2)) (hn : n ≤ cap) (hc : cap ≤ 1000) (hn2 : n2 ≤ cap2) (hc2 : cap2 ≤ 1000) (h : n < n2) : m_E l yX5_beginsWith wsX5_beginsWith 2 42 D ty [.ref (ad r), .ref (ad r2)] L ad g (some (.int 0)) g := by
  intro sz
  refine Met.ofW (cc := cX5_beginsWith) (maxL := 3) (ret := (some .boolean)) (by decide) rfl ?_
  intro p e s m args below meth c s₁ B hml hv
  have hx := B.exec
  have hb := B.bytes
  have hrt := B.returns
  have hts := atoms_spec (ws := wsX5_beginsWith) B.pre
  have hown : s.vm.findClass RX5 = some m.cls := findClass_of_methodNamed B.named
  have hlocks := B.notSynchronized
  obtain ⟨rfl, hB⟩ := m_start hv
  generalize va_A (m_w L ad g) sz = A at hB ⊢
  generalize s.heap = H at hB ⊢
  generalize ([] : List Loc) = locs at hB ⊢
  have hl := lv_entry ([.ref (ad r), .ref (ad r2)]) (n := 3) (Nat.le_of_ble_eq_true rfl)
  rw [lg_entry_eq]
  generalize (lg_sl ([.ref (ad r), .ref (ad r2)]) ++ List.replicate (3 - (lg_sl ([.ref (ad r), .ref (ad r2)])).length) Slot.unset).toArray = ls at hl ⊢
  have hl : lv_has ls 3 [(0, .ref (ad r)), (1, .ref (ad r2))] := hl
  have tI_n : (nI n).toInt = (n : Int) := nI_toInt (by omega)
  have tI_n2 : (nI n2).toInt = (n2 : Int) := nI_toInt (by omega)
  refine lv_aload_n hx hb dX5_beginsWith_0 rfl (lv_at hl 1 rfl) ?_
  refine m_callVE (ci := 5) (As := []) (rest := []) (c_Row_length l D ty L ad g r2 a2 n2 m_r2 h_r2) ⟨hx, hb, hml, hown, hts⟩ (cwV 0 hts gX5_beginsWith_X5_length rfl rfl rfl (by decide +kernel) ⟨Nat.le_of_ble_eq_true rfl, Nat.le_of_ble_eq_true rfl⟩) hB m_r2 h_r2 rfl rfl hl.1 rfl (Nat.le_of_ble_eq_true rfl) dX5_beginsWith_1 ⟨Nat.le_of_ble_eq_true rfl, Nat.le_of_ble_eq_true rfl⟩ (fun H locs hB => ?_)
  refine lv_aload_n hx hb dX5_beginsWith_4 rfl (lv_at hl 0 rfl) ?_
  refine m_get (C := RX5) (T := TX5) (N := 2) (ci := 5) hx hb hts in_X5_beginsWith_X5 hown hB m_r h_r rfl 1 (by decide) (hts (.fieldLink RX5 21 "PaperRoom$Row" "length" "I") (by decide +kernel)) (fun _ h9 => h9) rfl dX5_beginsWith_5 ?_
  refine b_icmp_le_f 13 hx hb dX5_beginsWith_8 (by decide) (by omega) ?_
  refine lv_iconst (v := 0) hx hb dX5_beginsWith_11 (by decide) ?_
  exact m_zret hx hb hrt hlocks hB (Nat.le_refl _) (Nat.le_refl _) dX5_beginsWith_12 rfl ⟨rfl, rfl, rfl, rfl⟩
set_option maxHeartbeats 1000000 in
set_option maxRecDepth 100000 in
theorem c_Row_begins_t (l : Launch) (D : va_G) (ty : Nat → ClassId) (L : List Nat) (ad : Nat → Nat) (g : Nat → va_E) (r a n cap : Nat) (bs : Nat → Int32) (r2 a2 n2 cap2 : Nat) (bs2 : Nat → Int32) (m_r : r ∈ L) (m_a : a ∈ L) (m_r2 : r2 ∈ L) (m_a2 : a2 ∈ L) (h_r : g r = .inr (5, [.ref (ad a), .int (nI n)])) (h_a : g a = .inl (ty 2, cap, .inl bs)) (h_r2 : g r2 = .inr (5, [.ref (ad a2), .int (nI n2)])) (h_a2 : g a2 = .inl (ty 2, cap2, .inl bs2)) (hn : n ≤ cap) (hc : cap ≤ 1000) (hn2 : n2 ≤ cap2) (hc2 : cap2 ≤ 1000) (h : n2 ≤ n) (hq : ∀ i, i < n2 → bs i = bs2 i) : m_E l yX5_beginsWith wsX5_beginsWith 2 42 D ty [.ref (ad r), .ref (ad r2)] L ad g (some (.int 1)) g := by
  intro sz
  refine Met.ofW (cc := cX5_beginsWith) (maxL := 3) (ret := (some .boolean)) (by decide) rfl ?_
  intro p e s m args below meth c s₁ B hml hv
  have hx := B.exec
  have hb := B.bytes
  have hrt := B.returns
  have hts := atoms_spec (ws := wsX5_beginsWith) B.pre
  have hown : s.vm.findClass RX5 = some m.cls := findClass_of_methodNamed B.named
  have hlocks := B.notSynchronized
  obtain ⟨rfl, hB⟩ := m_start hv
  generalize va_A (m_w L ad g) sz = A at hB ⊢
  generalize s.heap = H at hB ⊢
  generalize ([] : List Loc) = locs at hB ⊢
  have hl := lv_entry ([.ref (ad r), .ref (ad r2)]) (n := 3) (Nat.le_of_ble_eq_true rfl)
  rw [lg_entry_eq]
  generalize (lg_sl ([.ref (ad r), .ref (ad r2)]) ++ List.replicate (3 - (lg_sl ([.ref (ad r), .ref (ad r2)])).length) Slot.unset).toArray = ls at hl ⊢
  have hl : lv_has ls 3 [(0, .ref (ad r)), (1, .ref (ad r2))] := hl
  have tI_n : (nI n).toInt = (n : Int) := nI_toInt (by omega)
  have tI_n2 : (nI n2).toInt = (n2 : Int) := nI_toInt (by omega)
  refine lv_aload_n hx hb dX5_beginsWith_0 rfl (lv_at hl 1 rfl) ?_
  refine m_callVE (ci := 5) (As := []) (rest := []) (c_Row_length l D ty L ad g r2 a2 n2 m_r2 h_r2) ⟨hx, hb, hml, hown, hts⟩ (cwV 0 hts gX5_beginsWith_X5_length rfl rfl rfl (by decide +kernel) ⟨Nat.le_of_ble_eq_true rfl, Nat.le_of_ble_eq_true rfl⟩) hB m_r2 h_r2 rfl rfl hl.1 rfl (Nat.le_of_ble_eq_true rfl) dX5_beginsWith_1 ⟨Nat.le_of_ble_eq_true rfl, Nat.le_of_ble_eq_true rfl⟩ (fun H locs hB => ?_)
  refine lv_aload_n hx hb dX5_beginsWith_4 rfl (lv_at hl 0 rfl) ?_
  refine m_get (C := RX5) (T := TX5) (N := 2) (ci := 5) hx hb hts in_X5_beginsWith_X5 hown hB m_r h_r rfl 1 (by decide) (hts (.fieldLink RX5 21 "PaperRoom$Row" "length" "I") (by decide +kernel)) (fun _ h9 => h9) rfl dX5_beginsWith_5 ?_
  refine b_icmp_le_t 13 hx hb dX5_beginsWith_8 (by decide) (by omega) ?_
  refine lv_iconst (v := 0) hx hb dX5_beginsWith_13 (by decide) ?_
  refine lv_istore_n (lv' := [(2, .int 0), (0, .ref (ad r)), (1, .ref (ad r2))]) hx hb dX5_beginsWith_14 rfl hl (by decide) rfl (fun ls hl => ?_)
  have tI_n : (nI n).toInt = (n : Int) := nI_toInt (by omega)
  replace hl : lv_has ls 3 [(0, .ref (ad r)), (1, .ref (ad r2)), (2, .int 0)] := lv_sub hl [1, 2, 0] rfl
  obtain ⟨k, hk0⟩ : ∃ k : Nat, k = 0 := ⟨0, rfl⟩
  replace hl : lv_has ls 3 [(0, .ref (ad r)), (1, .ref (ad r2)), (2, .int (nI k))] := by rw [hk0]; exact hl
  obtain ⟨jz, hj⟩ : ∃ jz : Nat, k + jz = n2 := ⟨n2 - k, by omega⟩
  clear hk0
  induction jz generalizing k H locs ls with
  | zero =>
    have hje : k = n2 := by omega
    have tI_k : (nI k).toInt = (k : Int) := nI_toInt (by omega)
    refine lv_iload_n hx hb dX5_beginsWith_15 rfl (lv_at hl 2 rfl) ?_
    refine lv_aload_n hx hb dX5_beginsWith_16 rfl (lv_at hl 1 rfl) ?_
    refine m_callVE (ci := 5) (As := []) (rest := [.int (nI k)]) (c_Row_length l D ty L ad g r2 a2 n2 m_r2 h_r2) ⟨hx, hb, hml, hown, hts⟩ (cwV 0 hts gX5_beginsWith_X5_length rfl rfl rfl (by decide +kernel) ⟨Nat.le_of_ble_eq_true rfl, Nat.le_of_ble_eq_true rfl⟩) hB m_r2 h_r2 rfl rfl hl.1 rfl (Nat.le_of_ble_eq_true rfl) dX5_beginsWith_17 ⟨Nat.le_of_ble_eq_true rfl, Nat.le_of_ble_eq_true rfl⟩ (fun H locs hB => ?_)
    refine b_icmp_ge_t 44 hx hb dX5_beginsWith_20 (by decide) (by omega) ?_
    refine lv_iconst (v := 1) hx hb dX5_beginsWith_44 (by decide) ?_
    exact m_zret hx hb hrt hlocks hB (Nat.le_refl _) (Nat.le_refl _) dX5_beginsWith_45 rfl ⟨rfl, rfl, rfl, rfl⟩
  | succ jz ihj =>
    have hjl : k < n2 := by omega
    have tI_k : (nI k).toInt = (k : Int) := nI_toInt (by omega)
    refine lv_iload_n hx hb dX5_beginsWith_15 rfl (lv_at hl 2 rfl) ?_
    refine lv_aload_n hx hb dX5_beginsWith_16 rfl (lv_at hl 1 rfl) ?_
    refine m_callVE (ci := 5) (As := []) (rest := [.int (nI k)]) (c_Row_length l D ty L ad g r2 a2 n2 m_r2 h_r2) ⟨hx, hb, hml, hown, hts⟩ (cwV 0 hts gX5_beginsWith_X5_length rfl rfl rfl (by decide +kernel) ⟨Nat.le_of_ble_eq_true rfl, Nat.le_of_ble_eq_true rfl⟩) hB m_r2 h_r2 rfl rfl hl.1 rfl (Nat.le_of_ble_eq_true rfl) dX5_beginsWith_17 ⟨Nat.le_of_ble_eq_true rfl, Nat.le_of_ble_eq_true rfl⟩ (fun H locs hB => ?_)
    refine b_icmp_ge_f 44 hx hb dX5_beginsWith_20 (by decide) (by omega) ?_
    refine lv_aload_n hx hb dX5_beginsWith_23 rfl (lv_at hl 0 rfl) ?_
    refine lv_iload_n hx hb dX5_beginsWith_24 rfl (lv_at hl 2 rfl) ?_
    refine m_callVE (ci := 5) (As := [.int (nI k)]) (rest := []) (c_Row_get_t l D ty L ad g r a n cap bs k m_r m_a h_r h_a (by omega) hn hc) ⟨hx, hb, hml, hown, hts⟩ (cwV 1 hts gX5_beginsWith_X5_get rfl rfl rfl (by decide +kernel) ⟨Nat.le_of_ble_eq_true rfl, Nat.le_of_ble_eq_true rfl⟩) hB m_r h_r rfl rfl hl.1 rfl (Nat.le_of_ble_eq_true rfl) dX5_beginsWith_25 ⟨Nat.le_of_ble_eq_true rfl, Nat.le_of_ble_eq_true rfl⟩ (fun H locs hB => ?_)
    refine lv_aload_n hx hb dX5_beginsWith_28 rfl (lv_at hl 1 rfl) ?_
    refine lv_iload_n hx hb dX5_beginsWith_29 rfl (lv_at hl 2 rfl) ?_
    refine m_callVE (ci := 5) (As := [.int (nI k)]) (rest := [.int (bs k)]) (c_Row_get_t l D ty L ad g r2 a2 n2 cap2 bs2 k m_r2 m_a2 h_r2 h_a2 (by omega) hn2 hc2) ⟨hx, hb, hml, hown, hts⟩ (cwV 1 hts gX5_beginsWith_X5_get rfl rfl rfl (by decide +kernel) ⟨Nat.le_of_ble_eq_true rfl, Nat.le_of_ble_eq_true rfl⟩) hB m_r2 h_r2 rfl rfl hl.1 rfl (Nat.le_of_ble_eq_true rfl) dX5_beginsWith_30 ⟨Nat.le_of_ble_eq_true rfl, Nat.le_of_ble_eq_true rfl⟩ (fun H locs hB => ?_)
    refine b_icmp_eq_t 38 hx hb dX5_beginsWith_33 (by decide) (by rw [hq k (by omega)]) ?_
    refine lv_iinc (v := nI (k + 1)) (lv' := [(2, .int (nI (k + 1))), (0, .ref (ad r)), (1, .ref (ad r2))]) hx hb dX5_beginsWith_38 hl (k := 2) rfl (nI_add k 1) (by decide) rfl (fun ls hl => ?_)
    refine lv_goto (tgt := 15) hx hb dX5_beginsWith_41 (by decide) ?_
    have hl : lv_has ls 3 [(0, .ref (ad r)), (1, .ref (ad r2)), (2, .int (nI (k + 1)))] := lv_sub hl [1, 2, 0] rfl
    apply ihj (k := (k + 1)) (H := H) (locs := locs) (ls := ls) <;> first | omega | exact hB | exact hl
set_option maxHeartbeats 1000000 in
set_option maxRecDepth 100000 in
theorem c_Row_begins_f2 (l : Launch) (D : va_G) (ty : Nat → ClassId) (L : List Nat) (ad : Nat → Nat) (g : Nat → va_E) (r a n cap : Nat) (bs : Nat → Int32) (r2 a2 n2 cap2 : Nat) (bs2 : Nat → Int32) (q : Nat) (m_r : r ∈ L) (m_a : a ∈ L) (m_r2 : r2 ∈ L) (m_a2 : a2 ∈ L) (h_r : g r = .inr (5, [.ref (ad a), .int (nI n)])) (h_a : g a = .inl (ty 2, cap, .inl bs)) (h_r2 : g r2 = .inr (5, [.ref (ad a2), .int (nI n2)])) (h_a2 : g a2 = .inl (ty 2, cap2, .inl bs2)) (hn : n ≤ cap) (hc : cap ≤ 1000) (hn2 : n2 ≤ cap2) (hc2 : cap2 ≤ 1000) (h : n2 ≤ n) (hq2 : q < n2) (hq : ∀ i, i < q → bs i = bs2 i) (hq3 : ¬ bs q = bs2 q) : m_E l yX5_beginsWith wsX5_beginsWith 2 42 D ty [.ref (ad r), .ref (ad r2)] L ad g (some (.int 0)) g := by
  intro sz
  refine Met.ofW (cc := cX5_beginsWith) (maxL := 3) (ret := (some .boolean)) (by decide) rfl ?_
  intro p e s m args below meth c s₁ B hml hv
  have hx := B.exec
  have hb := B.bytes
  have hrt := B.returns
  have hts := atoms_spec (ws := wsX5_beginsWith) B.pre
  have hown : s.vm.findClass RX5 = some m.cls := findClass_of_methodNamed B.named
  have hlocks := B.notSynchronized
  obtain ⟨rfl, hB⟩ := m_start hv
  generalize va_A (m_w L ad g) sz = A at hB ⊢
  generalize s.heap = H at hB ⊢
  generalize ([] : List Loc) = locs at hB ⊢
  have hl := lv_entry ([.ref (ad r), .ref (ad r2)]) (n := 3) (Nat.le_of_ble_eq_true rfl)
  rw [lg_entry_eq]
  generalize (lg_sl ([.ref (ad r), .ref (ad r2)]) ++ List.replicate (3 - (lg_sl ([.ref (ad r), .ref (ad r2)])).length) Slot.unset).toArray = ls at hl ⊢
  have hl : lv_has ls 3 [(0, .ref (ad r)), (1, .ref (ad r2))] := hl
  have tI_n : (nI n).toInt = (n : Int) := nI_toInt (by omega)
  have tI_n2 : (nI n2).toInt = (n2 : Int) := nI_toInt (by omega)
  refine lv_aload_n hx hb dX5_beginsWith_0 rfl (lv_at hl 1 rfl) ?_
  refine m_callVE (ci := 5) (As := []) (rest := []) (c_Row_length l D ty L ad g r2 a2 n2 m_r2 h_r2) ⟨hx, hb, hml, hown, hts⟩ (cwV 0 hts gX5_beginsWith_X5_length rfl rfl rfl (by decide +kernel) ⟨Nat.le_of_ble_eq_true rfl, Nat.le_of_ble_eq_true rfl⟩) hB m_r2 h_r2 rfl rfl hl.1 rfl (Nat.le_of_ble_eq_true rfl) dX5_beginsWith_1 ⟨Nat.le_of_ble_eq_true rfl, Nat.le_of_ble_eq_true rfl⟩ (fun H locs hB => ?_)
  refine lv_aload_n hx hb dX5_beginsWith_4 rfl (lv_at hl 0 rfl) ?_
  refine m_get (C := RX5) (T := TX5) (N := 2) (ci := 5) hx hb hts in_X5_beginsWith_X5 hown hB m_r h_r rfl 1 (by decide) (hts (.fieldLink RX5 21 "PaperRoom$Row" "length" "I") (by decide +kernel)) (fun _ h9 => h9) rfl dX5_beginsWith_5 ?_
  refine b_icmp_le_t 13 hx hb dX5_beginsWith_8 (by decide) (by omega) ?_
  refine lv_iconst (v := 0) hx hb dX5_beginsWith_13 (by decide) ?_
  refine lv_istore_n (lv' := [(2, .int 0), (0, .ref (ad r)), (1, .ref (ad r2))]) hx hb dX5_beginsWith_14 rfl hl (by decide) rfl (fun ls hl => ?_)
  have tI_n : (nI n).toInt = (n : Int) := nI_toInt (by omega)
  replace hl : lv_has ls 3 [(0, .ref (ad r)), (1, .ref (ad r2)), (2, .int 0)] := lv_sub hl [1, 2, 0] rfl
  obtain ⟨k, hk0⟩ : ∃ k : Nat, k = 0 := ⟨0, rfl⟩
  replace hl : lv_has ls 3 [(0, .ref (ad r)), (1, .ref (ad r2)), (2, .int (nI k))] := by rw [hk0]; exact hl
  obtain ⟨jz, hj⟩ : ∃ jz : Nat, k + jz = q := ⟨q - k, by omega⟩
  clear hk0
  induction jz generalizing k H locs ls with
  | zero =>
    have hje : k = q := by omega
    have tI_k : (nI k).toInt = (k : Int) := nI_toInt (by omega)
    refine lv_iload_n hx hb dX5_beginsWith_15 rfl (lv_at hl 2 rfl) ?_
    refine lv_aload_n hx hb dX5_beginsWith_16 rfl (lv_at hl 1 rfl) ?_
    refine m_callVE (ci := 5) (As := []) (rest := [.int (nI k)]) (c_Row_length l D ty L ad g r2 a2 n2 m_r2 h_r2) ⟨hx, hb, hml, hown, hts⟩ (cwV 0 hts gX5_beginsWith_X5_length rfl rfl rfl (by decide +kernel) ⟨Nat.le_of_ble_eq_true rfl, Nat.le_of_ble_eq_true rfl⟩) hB m_r2 h_r2 rfl rfl hl.1 rfl (Nat.le_of_ble_eq_true rfl) dX5_beginsWith_17 ⟨Nat.le_of_ble_eq_true rfl, Nat.le_of_ble_eq_true rfl⟩ (fun H locs hB => ?_)
    refine b_icmp_ge_f 44 hx hb dX5_beginsWith_20 (by decide) (by omega) ?_
    refine lv_aload_n hx hb dX5_beginsWith_23 rfl (lv_at hl 0 rfl) ?_
    refine lv_iload_n hx hb dX5_beginsWith_24 rfl (lv_at hl 2 rfl) ?_
    refine m_callVE (ci := 5) (As := [.int (nI k)]) (rest := []) (c_Row_get_t l D ty L ad g r a n cap bs k m_r m_a h_r h_a (by omega) hn hc) ⟨hx, hb, hml, hown, hts⟩ (cwV 1 hts gX5_beginsWith_X5_get rfl rfl rfl (by decide +kernel) ⟨Nat.le_of_ble_eq_true rfl, Nat.le_of_ble_eq_true rfl⟩) hB m_r h_r rfl rfl hl.1 rfl (Nat.le_of_ble_eq_true rfl) dX5_beginsWith_25 ⟨Nat.le_of_ble_eq_true rfl, Nat.le_of_ble_eq_true rfl⟩ (fun H locs hB => ?_)
    refine lv_aload_n hx hb dX5_beginsWith_28 rfl (lv_at hl 1 rfl) ?_
    refine lv_iload_n hx hb dX5_beginsWith_29 rfl (lv_at hl 2 rfl) ?_
    refine m_callVE (ci := 5) (As := [.int (nI k)]) (rest := [.int (bs k)]) (c_Row_get_t l D ty L ad g r2 a2 n2 cap2 bs2 k m_r2 m_a2 h_r2 h_a2 (by omega) hn2 hc2) ⟨hx, hb, hml, hown, hts⟩ (cwV 1 hts gX5_beginsWith_X5_get rfl rfl rfl (by decide +kernel) ⟨Nat.le_of_ble_eq_true rfl, Nat.le_of_ble_eq_true rfl⟩) hB m_r2 h_r2 rfl rfl hl.1 rfl (Nat.le_of_ble_eq_true rfl) dX5_beginsWith_30 ⟨Nat.le_of_ble_eq_true rfl, Nat.le_of_ble_eq_true rfl⟩ (fun H locs hB => ?_)
    refine b_icmp_eq_f 38 hx hb dX5_beginsWith_33 (by decide) (fun h9 => hq3 (by rw [← hje]; exact (i_eq _ _).mpr h9)) ?_
    refine lv_iconst (v := 0) hx hb dX5_beginsWith_36 (by decide) ?_
    exact m_zret hx hb hrt hlocks hB (Nat.le_refl _) (Nat.le_refl _) dX5_beginsWith_37 rfl ⟨rfl, rfl, rfl, rfl⟩
  | succ jz ihj =>
    have hjl : k < q := by omega
    have tI_k : (nI k).toInt = (k : Int) := nI_toInt (by omega)
    refine lv_iload_n hx hb dX5_beginsWith_15 rfl (lv_at hl 2 rfl) ?_
    refine lv_aload_n hx hb dX5_beginsWith_16 rfl (lv_at hl 1 rfl) ?_
    refine m_callVE (ci := 5) (As := []) (rest := [.int (nI k)]) (c_Row_length l D ty L ad g r2 a2 n2 m_r2 h_r2) ⟨hx, hb, hml, hown, hts⟩ (cwV 0 hts gX5_beginsWith_X5_length rfl rfl rfl (by decide +kernel) ⟨Nat.le_of_ble_eq_true rfl, Nat.le_of_ble_eq_true rfl⟩) hB m_r2 h_r2 rfl rfl hl.1 rfl (Nat.le_of_ble_eq_true rfl) dX5_beginsWith_17 ⟨Nat.le_of_ble_eq_true rfl, Nat.le_of_ble_eq_true rfl⟩ (fun H locs hB => ?_)
    refine b_icmp_ge_f 44 hx hb dX5_beginsWith_20 (by decide) (by omega) ?_
    refine lv_aload_n hx hb dX5_beginsWith_23 rfl (lv_at hl 0 rfl) ?_
    refine lv_iload_n hx hb dX5_beginsWith_24 rfl (lv_at hl 2 rfl) ?_
    refine m_callVE (ci := 5) (As := [.int (nI k)]) (rest := []) (c_Row_get_t l D ty L ad g r a n cap bs k m_r m_a h_r h_a (by omega) hn hc) ⟨hx, hb, hml, hown, hts⟩ (cwV 1 hts gX5_beginsWith_X5_get rfl rfl rfl (by decide +kernel) ⟨Nat.le_of_ble_eq_true rfl, Nat.le_of_ble_eq_true rfl⟩) hB m_r h_r rfl rfl hl.1 rfl (Nat.le_of_ble_eq_true rfl) dX5_beginsWith_25 ⟨Nat.le_of_ble_eq_true rfl, Nat.le_of_ble_eq_true rfl⟩ (fun H locs hB => ?_)
    refine lv_aload_n hx hb dX5_beginsWith_28 rfl (lv_at hl 1 rfl) ?_
    refine lv_iload_n hx hb dX5_beginsWith_29 rfl (lv_at hl 2 rfl) ?_
    refine m_callVE (ci := 5) (As := [.int (nI k)]) (rest := [.int (bs k)]) (c_Row_get_t l D ty L ad g r2 a2 n2 cap2 bs2 k m_r2 m_a2 h_r2 h_a2 (by omega) hn2 hc2) ⟨hx, hb, hml, hown, hts⟩ (cwV 1 hts gX5_beginsWith_X5_get rfl rfl rfl (by decide +kernel) ⟨Nat.le_of_ble_eq_true rfl, Nat.le_of_ble_eq_true rfl⟩) hB m_r2 h_r2 rfl rfl hl.1 rfl (Nat.le_of_ble_eq_true rfl) dX5_beginsWith_30 ⟨Nat.le_of_ble_eq_true rfl, Nat.le_of_ble_eq_true rfl⟩ (fun H locs hB => ?_)
    refine b_icmp_eq_t 38 hx hb dX5_beginsWith_33 (by decide) (by rw [hq k (by omega)]) ?_
    refine lv_iinc (v := nI (k + 1)) (lv' := [(2, .int (nI (k + 1))), (0, .ref (ad r)), (1, .ref (ad r2))]) hx hb dX5_beginsWith_38 hl (k := 2) rfl (nI_add k 1) (by decide) rfl (fun ls hl => ?_)
    refine lv_goto (tgt := 15) hx hb dX5_beginsWith_41 (by decide) ?_
    have hl : lv_has ls 3 [(0, .ref (ad r)), (1, .ref (ad r2)), (2, .int (nI (k + 1)))] := lv_sub hl [1, 2, 0] rfl
    apply ihj (k := (k + 1)) (H := H) (locs := locs) (ls := ls) <;> first | omega | exact hB | exact hl
