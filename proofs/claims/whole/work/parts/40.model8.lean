set_option maxHeartbeats 1000000 in
set_option maxRecDepth 100000 in
theorem c_M_search_bad (l : Launch) (D : va_G) (ty : Nat → ClassId) (L : List Nat) (ad : Nat → Nat) (g : Nat → va_E) (a : Nat → Nat → Int32) (dn pn en qn mz : Nat) (nw lo : Int32) (tr : Int64) (i : Int32) (hM : RM ty L ad g a dn pn en qn mz nw lo tr) (hi : ¬ (0 ≤ i.toInt ∧ i.toInt < 6)) : m_E l yX9_search wsX9_search 2 42 D ty [.ref (ad 1000), .int i] L ad g (some (.int (-1))) g := by
  intro sz
  refine Met.ofW (cc := cX9_search) (maxL := 7) (ret := (some .int)) (by decide) rfl ?_
  intro p e s m args below meth c s₁ B hml hv
  have hx := B.exec
  have hb := B.bytes
  have hrt := B.returns
  have hts := atoms_spec (ws := wsX9_search) B.pre
  have hown : s.vm.findClass RX9 = some m.cls := findClass_of_methodNamed B.named
  have hlocks := B.notSynchronized
  obtain ⟨rfl, hB⟩ := m_start hv
  generalize va_A (m_w L ad g) sz = A at hB ⊢
  generalize s.heap = H at hB ⊢
  generalize ([] : List Loc) = locs at hB ⊢
  have hl := lv_entry ([.ref (ad 1000), .int i]) (n := 7) (Nat.le_of_ble_eq_true rfl)
  rw [lg_entry_eq]
  generalize (lg_sl ([.ref (ad 1000), .int i]) ++ List.replicate (7 - (lg_sl ([.ref (ad 1000), .int i])).length) Slot.unset).toArray = ls at hl ⊢
  have hl : lv_has ls 7 [(0, .ref (ad 1000)), (1, .int i)] := hl
  obtain ⟨hL, h_1000, h_1002, h_1004, h_1005, h_1007, h_1008, h_1009, h_1010, h_1011, h_1012, h_1013, h_1014, h_1015, h_1016, h_1019, h_1020, h_1021, h_1022, h_1024, h_1025, h_1026, h_1027, h_1028, h_1029, h_1030, h_1032⟩ := id hM
  refine lv_iload_n hx hb dX9_search_0 rfl (lv_at hl 1 rfl) ?_
  refine m_callSE (As := [.int i]) (rest := []) (c_M_isBidder_f l D ty L ad _ _ hi) ⟨hx, hb, hml, hown, hts⟩ (va_cwS 1 hts gX9_search_X9_isBidder rfl rfl rfl (by decide +kernel) ⟨Nat.le_of_ble_eq_true rfl, Nat.le_of_ble_eq_true rfl⟩) hB rfl hl.1 rfl (Nat.le_of_ble_eq_true rfl) dX9_search_1 ⟨Nat.le_of_ble_eq_true rfl, Nat.le_of_ble_eq_true rfl⟩ (fun H locs hB => ?_)
  refine b_if_ne_f 9 hx hb dX9_search_4 (by decide) (by decide) ?_
  refine lv_iconst (v := (-1)) hx hb dX9_search_7 (by decide) ?_
  exact m_iret hx hb hrt hlocks hB (Nat.le_refl _) (Nat.le_refl _) dX9_search_8 ⟨rfl, rfl, rfl, rfl⟩
set_option maxRecDepth 20000 in
theorem in_X9_search_X9 : ∀ w ∈ wsX90, w ∈ wsX9_search := by decide +kernel
set_option maxHeartbeats 1000000 in
set_option maxRecDepth 100000 in
theorem c_M_search_state (l : Launch) (D : va_G) (ty : Nat → ClassId) (L : List Nat) (ad : Nat → Nat) (g : Nat → va_E) (a : Nat → Nat → Int32) (dn pn en qn mz : Nat) (nw lo : Int32) (tr : Int64) (b : Nat) (hM : RM ty L ad g a dn pn en qn mz nw lo tr) (hb6 : b < 6) (h : ¬ (1 ≤ dn ∧ dn ≤ 20)) (hdn : dn ≤ 40) : m_E l yX9_search wsX9_search 2 42 D ty [.ref (ad 1000), .int (nI b)] L ad g (some (.int (-2))) g := by
  intro sz
  refine Met.ofW (cc := cX9_search) (maxL := 7) (ret := (some .int)) (by decide) rfl ?_
  intro p e s m args below meth c s₁ B hml hv
  have hx := B.exec
  have hb := B.bytes
  have hrt := B.returns
  have hts := atoms_spec (ws := wsX9_search) B.pre
  have hown : s.vm.findClass RX9 = some m.cls := findClass_of_methodNamed B.named
  have hlocks := B.notSynchronized
  obtain ⟨rfl, hB⟩ := m_start hv
  generalize va_A (m_w L ad g) sz = A at hB ⊢
  generalize s.heap = H at hB ⊢
  generalize ([] : List Loc) = locs at hB ⊢
  have hl := lv_entry ([.ref (ad 1000), .int (nI b)]) (n := 7) (Nat.le_of_ble_eq_true rfl)
  rw [lg_entry_eq]
  generalize (lg_sl ([.ref (ad 1000), .int (nI b)]) ++ List.replicate (7 - (lg_sl ([.ref (ad 1000), .int (nI b)])).length) Slot.unset).toArray = ls at hl ⊢
  have hl : lv_has ls 7 [(0, .ref (ad 1000)), (1, .int (nI b))] := hl
  obtain ⟨hL, h_1000, h_1002, h_1004, h_1005, h_1007, h_1008, h_1009, h_1010, h_1011, h_1012, h_1013, h_1014, h_1015, h_1016, h_1019, h_1020, h_1021, h_1022, h_1024, h_1025, h_1026, h_1027, h_1028, h_1029, h_1030, h_1032⟩ := id hM
  have l1 : (1 : Int32).toInt = 1 := by decide
  have l20 : (20 : Int32).toInt = 20 := by decide
  have tI_dn : (nI dn).toInt = (dn : Int) := nI_toInt (by omega)
  refine lv_iload_n hx hb dX9_search_0 rfl (lv_at hl 1 rfl) ?_
  refine m_callSE (As := [.int (nI b)]) (rest := []) (c_M_isBidder_t l D ty L ad _ b hb6) ⟨hx, hb, hml, hown, hts⟩ (va_cwS 1 hts gX9_search_X9_isBidder rfl rfl rfl (by decide +kernel) ⟨Nat.le_of_ble_eq_true rfl, Nat.le_of_ble_eq_true rfl⟩) hB rfl hl.1 rfl (Nat.le_of_ble_eq_true rfl) dX9_search_1 ⟨Nat.le_of_ble_eq_true rfl, Nat.le_of_ble_eq_true rfl⟩ (fun H locs hB => ?_)
  refine b_if_ne_t 9 hx hb dX9_search_4 (by decide) (by decide) ?_
  refine lv_aload_n hx hb dX9_search_9 rfl (lv_at hl 0 rfl) ?_
  refine m_get (C := RX9) (T := TX9) (N := 33) (ci := 9) hx hb hts in_X9_search_X9 hown hB (hL 1000 (by decide)) h_1000 rfl 0 (by decide) (hts (.fieldLink RX9 101 "PaperRoomModel" "drafted" "I") (by decide +kernel)) (fun _ h9 => h9) rfl dX9_search_10 ?_
  refine lv_iconst (v := 1) hx hb dX9_search_13 (by decide) ?_
  refine lv_bipush (v := 20) hx hb dX9_search_14 (by decide) ?_
  refine m_callSE (As := [.int (nI dn), .int 1, .int 20]) (rest := []) (c_M_in_f l D ty L ad _ _ _ _ (by omega)) ⟨hx, hb, hml, hown, hts⟩ (va_cwS 3 hts gX9_search_X9_in rfl rfl rfl (by decide +kernel) ⟨Nat.le_of_ble_eq_true rfl, Nat.le_of_ble_eq_true rfl⟩) hB rfl hl.1 rfl (Nat.le_of_ble_eq_true rfl) dX9_search_16 ⟨Nat.le_of_ble_eq_true rfl, Nat.le_of_ble_eq_true rfl⟩ (fun H locs hB => ?_)
  refine b_if_ne_f 25 hx hb dX9_search_19 (by decide) (by decide) ?_
  refine lv_bipush (v := (-2)) hx hb dX9_search_22 (by decide) ?_
  exact m_iret hx hb hrt hlocks hB (Nat.le_refl _) (Nat.le_refl _) dX9_search_24 ⟨rfl, rfl, rfl, rfl⟩
set_option maxHeartbeats 1000000 in
set_option maxRecDepth 100000 in
theorem c_M_search_ok (l : Launch) (D : va_G) (ty : Nat → ClassId) (L : List Nat) (ad : Nat → Nat) (g : Nat → va_E) (a : Nat → Nat → Int32) (dn pn en qn mz : Nat) (nw lo : Int32) (tr : Int64) (b : Nat) (vc zs fo : Nat → Nat) (hM : RM ty L ad g a dn pn en qn mz nw lo tr) (hb6 : b < 6) (hpn : pn ≤ 8) (hd1 : 1 ≤ dn) (hd20 : dn ≤ 20) (hvc : ∀ j, j < pn → a 10 j = nI (vc j) ∧ 1 ≤ vc j ∧ vc j ≤ 4) (hszs : ∀ j, j < pn → a 11 (4 * j + vc j - 1) = nI (zs (4 * j + vc j - 1)) ∧ zs (4 * j + vc j - 1) ≤ 40) (hse : ∀ j, j < pn → a 7 j = nI (fo j) ∧ fo j < 4 ∧ (a 9 j = 0 ∨ a 9 j = 1)) : m_E l yX9_search wsX9_search 2 42 D ty [.ref (ad 1000), .int (nI b)] L ad g (some (.int (nI (cnt (fndB a dn nw vc zs fo b) pn)))) g := by
  intro sz
  refine Met.ofW (cc := cX9_search) (maxL := 7) (ret := (some .int)) (by decide) rfl ?_
  intro p e s m args below meth c s₁ B hml hv
  have hx := B.exec
  have hb := B.bytes
  have hrt := B.returns
  have hts := atoms_spec (ws := wsX9_search) B.pre
  have hown : s.vm.findClass RX9 = some m.cls := findClass_of_methodNamed B.named
  have hlocks := B.notSynchronized
  obtain ⟨rfl, hB⟩ := m_start hv
  generalize va_A (m_w L ad g) sz = A at hB ⊢
  generalize s.heap = H at hB ⊢
  generalize ([] : List Loc) = locs at hB ⊢
  have hl := lv_entry ([.ref (ad 1000), .int (nI b)]) (n := 7) (Nat.le_of_ble_eq_true rfl)
  rw [lg_entry_eq]
  generalize (lg_sl ([.ref (ad 1000), .int (nI b)]) ++ List.replicate (7 - (lg_sl ([.ref (ad 1000), .int (nI b)])).length) Slot.unset).toArray = ls at hl ⊢
  have hl : lv_has ls 7 [(0, .ref (ad 1000)), (1, .int (nI b))] := hl
  obtain ⟨hL, h_1000, h_1002, h_1004, h_1005, h_1007, h_1008, h_1009, h_1010, h_1011, h_1012, h_1013, h_1014, h_1015, h_1016, h_1019, h_1020, h_1021, h_1022, h_1024, h_1025, h_1026, h_1027, h_1028, h_1029, h_1030, h_1032⟩ := id hM
  have l1 : (1 : Int32).toInt = 1 := by decide
  have l20 : (20 : Int32).toInt = 20 := by decide
  have tI_dn : (nI dn).toInt = (dn : Int) := nI_toInt (by omega)
  have tI_b : (nI b).toInt = (b : Int) := nI_toInt (by omega)
  refine lv_iload_n hx hb dX9_search_0 rfl (lv_at hl 1 rfl) ?_
  refine m_callSE (As := [.int (nI b)]) (rest := []) (c_M_isBidder_t l D ty L ad _ b hb6) ⟨hx, hb, hml, hown, hts⟩ (va_cwS 1 hts gX9_search_X9_isBidder rfl rfl rfl (by decide +kernel) ⟨Nat.le_of_ble_eq_true rfl, Nat.le_of_ble_eq_true rfl⟩) hB rfl hl.1 rfl (Nat.le_of_ble_eq_true rfl) dX9_search_1 ⟨Nat.le_of_ble_eq_true rfl, Nat.le_of_ble_eq_true rfl⟩ (fun H locs hB => ?_)
  refine b_if_ne_t 9 hx hb dX9_search_4 (by decide) (by decide) ?_
  refine lv_aload_n hx hb dX9_search_9 rfl (lv_at hl 0 rfl) ?_
  refine m_get (C := RX9) (T := TX9) (N := 33) (ci := 9) hx hb hts in_X9_search_X9 hown hB (hL 1000 (by decide)) h_1000 rfl 0 (by decide) (hts (.fieldLink RX9 101 "PaperRoomModel" "drafted" "I") (by decide +kernel)) (fun _ h9 => h9) rfl dX9_search_10 ?_
  refine lv_iconst (v := 1) hx hb dX9_search_13 (by decide) ?_
  refine lv_bipush (v := 20) hx hb dX9_search_14 (by decide) ?_
  refine m_callSE (As := [.int (nI dn), .int 1, .int 20]) (rest := []) (c_M_in_t l D ty L ad _ _ _ _ (by omega) (by omega)) ⟨hx, hb, hml, hown, hts⟩ (va_cwS 3 hts gX9_search_X9_in rfl rfl rfl (by decide +kernel) ⟨Nat.le_of_ble_eq_true rfl, Nat.le_of_ble_eq_true rfl⟩) hB rfl hl.1 rfl (Nat.le_of_ble_eq_true rfl) dX9_search_16 ⟨Nat.le_of_ble_eq_true rfl, Nat.le_of_ble_eq_true rfl⟩ (fun H locs hB => ?_)
  refine b_if_ne_t 25 hx hb dX9_search_19 (by decide) (by decide) ?_
  refine lv_iconst (v := 0) hx hb dX9_search_25 (by decide) ?_
  refine lv_istore_n (lv' := [(2, .int 0), (0, .ref (ad 1000)), (1, .int (nI b))]) hx hb dX9_search_26 rfl hl (by decide) rfl (fun ls hl => ?_)
  refine lv_iconst (v := 0) hx hb dX9_search_27 (by decide) ?_
  refine lv_istore_n (lv' := [(3, .int 0), (2, .int 0), (0, .ref (ad 1000)), (1, .int (nI b))]) hx hb dX9_search_28 rfl hl (by decide) rfl (fun ls hl => ?_)
  have tI_pn : (nI pn).toInt = (pn : Int) := nI_toInt (by omega)
  replace hl : lv_has ls 7 [(0, .ref (ad 1000)), (1, .int (nI b)), (2, .int 0), (3, .int 0)] := lv_sub hl [2, 3, 1, 0] rfl
  obtain ⟨i, hi0⟩ : ∃ i : Nat, i = 0 := ⟨0, rfl⟩
  replace hl : lv_has ls 7 [(0, .ref (ad 1000)), (1, .int (nI b)), (2, .int (nI (cnt (fndB a dn nw vc zs fo b) i))), (3, .int (nI i))] := by rw [hi0]; exact hl
  obtain ⟨oz, ho⟩ : ∃ oz : Nat, i + oz = pn := ⟨pn - i, by omega⟩
  clear hi0
  induction oz generalizing i H locs ls with
  | zero =>
    have hoe : i = pn := by omega
    have tI_i : (nI i).toInt = (i : Int) := nI_toInt (by omega)
    refine lv_iload_n hx hb dX9_search_29 rfl (lv_at hl 3 rfl) ?_
    refine lv_aload_n hx hb dX9_search_30 rfl (lv_at hl 0 rfl) ?_
    refine m_get (C := RX9) (T := TX9) (N := 33) (ci := 9) hx hb hts in_X9_search_X9 hown hB (hL 1000 (by decide)) h_1000 rfl 5 (by decide) (hts (.fieldLink RX9 90 "PaperRoomModel" "papers" "I") (by decide +kernel)) (fun _ h9 => h9) rfl dX9_search_31 ?_
    refine b_icmp_ge_t 118 hx hb dX9_search_34 (by decide) (by omega) ?_
    refine lv_iload_n hx hb dX9_search_118 rfl (lv_at hl 2 rfl) ?_
    exact m_iret hx hb hrt hlocks hB (Nat.le_refl _) (Nat.le_refl _) dX9_search_119 ⟨by rw [hoe], rfl, rfl, rfl⟩
  | succ oz iho =>
    have hol : i < pn := by omega
    have tI_i : (nI i).toInt = (i : Int) := nI_toInt (by omega)
    obtain ⟨hv1, hv2, hv3⟩ := hvc i hol
    obtain ⟨hz1, hz2⟩ := hszs i hol
    obtain ⟨hs1, hs2, hs3⟩ := hse i hol
    obtain ⟨t, ht⟩ : ∃ t, t = 4 * i + vc i - 1 := ⟨_, rfl⟩
    obtain ⟨n, hn⟩ : ∃ n, n = zs t := ⟨_, rfl⟩
    rw [← ht, ← hn] at hz1 hz2
    have hF : (fndB a dn nw vc zs fo b) i = (hasB a dn t n && seeB (a 6 i) (a 9 i) (a 8 i) (a 3) (a 4) (b % 3 * 4 + fo i) nw) := by rw [hn, ht]; rfl
    have tI_n : (nI n).toInt = (n : Int) := nI_toInt (by omega)
    refine lv_iload_n hx hb dX9_search_29 rfl (lv_at hl 3 rfl) ?_
    refine lv_aload_n hx hb dX9_search_30 rfl (lv_at hl 0 rfl) ?_
    refine m_get (C := RX9) (T := TX9) (N := 33) (ci := 9) hx hb hts in_X9_search_X9 hown hB (hL 1000 (by decide)) h_1000 rfl 5 (by decide) (hts (.fieldLink RX9 90 "PaperRoomModel" "papers" "I") (by decide +kernel)) (fun _ h9 => h9) rfl dX9_search_31 ?_
    refine b_icmp_ge_f 118 hx hb dX9_search_34 (by decide) (by omega) ?_
    refine lv_iconst (v := 4) hx hb dX9_search_37 (by decide) ?_
    refine lv_iload_n hx hb dX9_search_38 rfl (lv_at hl 3 rfl) ?_
    refine lv_imul hx hb dX9_search_39 ?_
    refine b_topi (w := nI (4 * i)) (pk_mul 4 i) ?_
    refine lv_aload_n hx hb dX9_search_40 rfl (lv_at hl 0 rfl) ?_
    refine m_get (C := RX9) (T := TX9) (N := 33) (ci := 9) hx hb hts in_X9_search_X9 hown hB (hL 1000 (by decide)) h_1000 rfl 10 (by decide) (hts (.fieldLink RX9 32 "PaperRoomModel" "versions" "[I") (by decide +kernel)) (fun _ h9 => h9) rfl dX9_search_41 ?_
    refine lv_iload_n hx hb dX9_search_44 rfl (lv_at hl 3 rfl) ?_
    refine n_iald hx hb hB (hL 1011 (by decide)) h_1011 i rfl (by omega) (by omega) dX9_search_45 ?_
    refine b_topi (w := nI (vc i)) (hv1) ?_
    refine lv_iadd hx hb dX9_search_46 ?_
    refine b_topi (w := nI ((4 * i) + (vc i))) (nI_add (4 * i) (vc i)) ?_
    refine lv_iconst (v := 1) hx hb dX9_search_47 (by decide) ?_
    refine lv_isub hx hb dX9_search_48 ?_
    refine b_topi (w := nI t) (by rw [ht]; exact pk_sub (a := 4 * i + vc i) (b := 1) (by omega)) ?_
    refine lv_istore (lv' := [(4, .int (nI t)), (0, .ref (ad 1000)), (1, .int (nI b)), (2, .int (nI (cnt (fndB a dn nw vc zs fo b) i))), (3, .int (nI i))]) hx hb dX9_search_49 hl (by decide) rfl (fun ls hl => ?_)
    refine lv_iconst (v := 0) hx hb dX9_search_51 (by decide) ?_
    refine lv_istore (lv' := [(5, .int 0), (4, .int (nI t)), (0, .ref (ad 1000)), (1, .int (nI b)), (2, .int (nI (cnt (fndB a dn nw vc zs fo b) i))), (3, .int (nI i))]) hx hb dX9_search_52 hl (by decide) rfl (fun ls hl => ?_)
    refine lv_iconst (v := 0) hx hb dX9_search_54 (by decide) ?_
    refine lv_istore (lv' := [(6, .int 0), (5, .int 0), (4, .int (nI t)), (0, .ref (ad 1000)), (1, .int (nI b)), (2, .int (nI (cnt (fndB a dn nw vc zs fo b) i))), (3, .int (nI i))]) hx hb dX9_search_55 hl (by decide) rfl (fun ls hl => ?_)
    replace hl : lv_has ls 7 [(0, .ref (ad 1000)), (1, .int (nI b)), (2, .int (nI (cnt (fndB a dn nw vc zs fo b) i))), (3, .int (nI i)), (4, .int (nI t)), (5, .int 0), (6, .int 0)] := lv_sub hl [3, 4, 5, 6, 2, 1, 0] rfl
    obtain ⟨k, hk0⟩ : ∃ k : Nat, k = 0 := ⟨0, rfl⟩
    replace hl : lv_has ls 7 [(0, .ref (ad 1000)), (1, .int (nI b)), (2, .int (nI (cnt (fndB a dn nw vc zs fo b) i))), (3, .int (nI i)), (4, .int (nI t)), (5, .int 0), (6, .int (nI k))] := by rw [hk0]; exact hl
    have hmw : mw (fun i => a 12 (40 * t + i)) (fun i => a 13 (40 * t + i)) (a 1) dn n k = false := by rw [hk0]; exact rfl
    obtain ⟨jz, hj⟩ : ∃ jz : Nat, k + jz = n := ⟨n - k, by omega⟩
    clear hk0
    induction jz generalizing k H locs ls with
    | zero =>
      have hje : k = n := by omega
      have tI_k : (nI k).toInt = (k : Int) := nI_toInt (by omega)
      refine lv_iload hx hb dX9_search_57 (lv_at hl 6 rfl) ?_
      refine lv_aload_n hx hb dX9_search_59 rfl (lv_at hl 0 rfl) ?_
      refine m_get (C := RX9) (T := TX9) (N := 33) (ci := 9) hx hb hts in_X9_search_X9 hown hB (hL 1000 (by decide)) h_1000 rfl 11 (by decide) (hts (.fieldLink RX9 35 "PaperRoomModel" "size" "[I") (by decide +kernel)) (fun _ h9 => h9) rfl dX9_search_60 ?_
      refine lv_iload hx hb dX9_search_63 (lv_at hl 4 rfl) ?_
      refine n_iald hx hb hB (hL 1012 (by decide)) h_1012 t rfl (by omega) (by omega) dX9_search_65 ?_
      refine b_topi (w := nI n) (hz1) ?_
      refine b_icmp_ge_t 90 hx hb dX9_search_66 (by decide) (by omega) ?_
      have hh : hasB a dn t n = false := (hje ▸ hmw)
      refine lv_iload_n hx hb dX9_search_90 rfl (lv_at hl 2 rfl) ?_
      refine lv_iload hx hb dX9_search_91 (lv_at hl 5 rfl) ?_
      refine b_if_eq_t 109 hx hb dX9_search_93 (by decide) (by decide) ?_
      refine lv_iconst (v := 0) hx hb dX9_search_109 (by decide) ?_
      refine lv_iadd hx hb dX9_search_110 ?_
      refine b_topi (w := nI (cnt (fndB a dn nw vc zs fo b) (i + 1))) (by rw [cnt_0 (h := (fndB a dn nw vc zs fo b)) (k := i) (by rw [hF, hh]; rfl)]; exact nI_add _ 0) ?_
      refine lv_istore_n (lv' := [(2, .int (nI (cnt (fndB a dn nw vc zs fo b) (i + 1)))), (0, .ref (ad 1000)), (1, .int (nI b)), (3, .int (nI i)), (4, .int (nI t)), (5, .int 0), (6, .int (nI k))]) hx hb dX9_search_111 rfl hl (by decide) rfl (fun ls hl => ?_)
      refine lv_iinc (v := nI (i + 1)) (lv' := [(3, .int (nI (i + 1))), (2, .int (nI (cnt (fndB a dn nw vc zs fo b) (i + 1)))), (0, .ref (ad 1000)), (1, .int (nI b)), (4, .int (nI t)), (5, .int 0), (6, .int (nI k))]) hx hb dX9_search_112 hl (k := 3) rfl (nI_add i 1) (by decide) rfl (fun ls hl => ?_)
      refine lv_goto (tgt := 29) hx hb dX9_search_115 (by decide) ?_
      have hl : lv_has ls 7 [(0, .ref (ad 1000)), (1, .int (nI b)), (2, .int (nI (cnt (fndB a dn nw vc zs fo b) (i + 1)))), (3, .int (nI (i + 1)))] := lv_sub hl [2, 3, 1, 0] rfl
      apply iho (i := (i + 1)) (H := H) (locs := locs) (ls := ls) <;> first | omega | exact hB | exact hl
    | succ jz ihj =>
      have hjl : k < n := by omega
      have tI_k : (nI k).toInt = (k : Int) := nI_toInt (by omega)
      rcases bool2 (decide (k + dn ≤ n) && ma (fun i => a 12 (40 * t + i)) (fun i => a 13 (40 * t + i)) (a 1) k dn) with hm | hm
      · skip
        refine lv_iload hx hb dX9_search_57 (lv_at hl 6 rfl) ?_
        refine lv_aload_n hx hb dX9_search_59 rfl (lv_at hl 0 rfl) ?_
        refine m_get (C := RX9) (T := TX9) (N := 33) (ci := 9) hx hb hts in_X9_search_X9 hown hB (hL 1000 (by decide)) h_1000 rfl 11 (by decide) (hts (.fieldLink RX9 35 "PaperRoomModel" "size" "[I") (by decide +kernel)) (fun _ h9 => h9) rfl dX9_search_60 ?_
        refine lv_iload hx hb dX9_search_63 (lv_at hl 4 rfl) ?_
        refine n_iald hx hb hB (hL 1012 (by decide)) h_1012 t rfl (by omega) (by omega) dX9_search_65 ?_
        refine b_topi (w := nI n) (hz1) ?_
        refine b_icmp_ge_f 90 hx hb dX9_search_66 (by decide) (by omega) ?_
        refine lv_iload hx hb dX9_search_69 (lv_at hl 5 rfl) ?_
        refine b_if_ne_f 90 hx hb dX9_search_71 (by decide) (by decide) ?_
        refine lv_aload_n hx hb dX9_search_74 rfl (lv_at hl 0 rfl) ?_
        refine lv_iload hx hb dX9_search_75 (lv_at hl 4 rfl) ?_
        refine lv_iload hx hb dX9_search_77 (lv_at hl 6 rfl) ?_
        refine m_callVE (ci := 9) (As := [.int (nI t), .int (nI k)]) (rest := []) (c_M_stands l D ty L ad _ a dn pn en qn mz nw lo tr t k n hM (by omega) hz1 hz2 (by omega) hd1 (by omega)) ⟨hx, hb, hml, hown, hts⟩ (cwV 2 hts gX9_search_X9_stands rfl rfl rfl (by decide +kernel) ⟨Nat.le_of_ble_eq_true rfl, Nat.le_of_ble_eq_true rfl⟩) hB (hL 1000 (by decide)) h_1000 rfl rfl hl.1 rfl (Nat.le_of_ble_eq_true rfl) dX9_search_79 ⟨Nat.le_of_ble_eq_true rfl, Nat.le_of_ble_eq_true rfl⟩ (fun H locs hB => ?_)
        refine b_topi (w := 1) (by rw [hm]; rfl) ?_
        refine lv_istore (lv' := [(5, .int 1), (0, .ref (ad 1000)), (1, .int (nI b)), (2, .int (nI (cnt (fndB a dn nw vc zs fo b) i))), (3, .int (nI i)), (4, .int (nI t)), (6, .int (nI k))]) hx hb dX9_search_82 hl (by decide) rfl (fun ls hl => ?_)
        refine lv_iinc (v := nI (k + 1)) (lv' := [(6, .int (nI (k + 1))), (5, .int 1), (0, .ref (ad 1000)), (1, .int (nI b)), (2, .int (nI (cnt (fndB a dn nw vc zs fo b) i))), (3, .int (nI i)), (4, .int (nI t))]) hx hb dX9_search_84 hl (k := 6) rfl (nI_add k 1) (by decide) rfl (fun ls hl => ?_)
        refine lv_goto (tgt := 57) hx hb dX9_search_87 (by decide) ?_
        have tI_k1 : (nI (k + 1)).toInt = ((k + 1 : Nat) : Int) := nI_toInt (by omega)
        by_cases hlast : k + 1 < n
        · skip
          refine lv_iload hx hb dX9_search_57 (lv_at hl 0 rfl) ?_
          refine lv_aload_n hx hb dX9_search_59 rfl (lv_at hl 2 rfl) ?_
          refine m_get (C := RX9) (T := TX9) (N := 33) (ci := 9) hx hb hts in_X9_search_X9 hown hB (hL 1000 (by decide)) h_1000 rfl 11 (by decide) (hts (.fieldLink RX9 35 "PaperRoomModel" "size" "[I") (by decide +kernel)) (fun _ h9 => h9) rfl dX9_search_60 ?_
          refine lv_iload hx hb dX9_search_63 (lv_at hl 6 rfl) ?_
          refine n_iald hx hb hB (hL 1012 (by decide)) h_1012 t rfl (by omega) (by omega) dX9_search_65 ?_
          refine b_topi (w := nI n) (hz1) ?_
          refine b_icmp_ge_f 90 hx hb dX9_search_66 (by decide) (by omega) ?_
          refine lv_iload hx hb dX9_search_69 (lv_at hl 1 rfl) ?_
          refine b_if_ne_t 90 hx hb dX9_search_71 (by decide) (by decide) ?_
          have hh : hasB a dn t n = true := mw_yes hm n (by omega)
          rcases bool2 (seeB (a 6 i) (a 9 i) (a 8 i) (a 3) (a 4) (b % 3 * 4 + fo i) nw) with hs | hs
          · skip
            refine lv_iload_n hx hb dX9_search_90 rfl (lv_at hl 4 rfl) ?_
            refine lv_iload hx hb dX9_search_91 (lv_at hl 1 rfl) ?_
            refine b_if_eq_f 109 hx hb dX9_search_93 (by decide) (by decide) ?_
            refine lv_aload_n hx hb dX9_search_96 rfl (lv_at hl 2 rfl) ?_
            refine lv_iload_n hx hb dX9_search_97 rfl (lv_at hl 3 rfl) ?_
            refine lv_iload_n hx hb dX9_search_98 rfl (lv_at hl 5 rfl) ?_
            refine m_callVE (ci := 9) (As := [.int (nI b), .int (nI i)]) (rest := [.int (nI (cnt (fndB a dn nw vc zs fo b) i))]) (c_M_sees l D ty L ad _ a dn pn en qn mz nw lo tr b i (fo i) hM hb6 (by omega) hs1 hs2 hs3) ⟨hx, hb, hml, hown, hts⟩ (cwV 2 hts gX9_search_X9_sees rfl rfl rfl (by decide +kernel) ⟨Nat.le_of_ble_eq_true rfl, Nat.le_of_ble_eq_true rfl⟩) hB (hL 1000 (by decide)) h_1000 rfl rfl hl.1 rfl (Nat.le_of_ble_eq_true rfl) dX9_search_99 ⟨Nat.le_of_ble_eq_true rfl, Nat.le_of_ble_eq_true rfl⟩ (fun H locs hB => ?_)
            refine b_if_eq_f 109 hx hb dX9_search_102 (by decide) (by rw [hs]; decide) ?_
            refine lv_iconst (v := 1) hx hb dX9_search_105 (by decide) ?_
            refine lv_goto (tgt := 110) hx hb dX9_search_106 (by decide) ?_
            refine lv_iadd hx hb dX9_search_110 ?_
            refine b_topi (w := nI (cnt (fndB a dn nw vc zs fo b) (i + 1))) (by rw [cnt_1 (h := (fndB a dn nw vc zs fo b)) (k := i) (by rw [hF, hh, hs]; rfl)]; exact nI_add _ 1) ?_
            refine lv_istore_n (lv' := [(2, .int (nI (cnt (fndB a dn nw vc zs fo b) (i + 1)))), (6, .int (nI (k + 1))), (5, .int 1), (0, .ref (ad 1000)), (1, .int (nI b)), (3, .int (nI i)), (4, .int (nI t))]) hx hb dX9_search_111 rfl hl (by decide) rfl (fun ls hl => ?_)
            refine lv_iinc (v := nI (i + 1)) (lv' := [(3, .int (nI (i + 1))), (2, .int (nI (cnt (fndB a dn nw vc zs fo b) (i + 1)))), (6, .int (nI (k + 1))), (5, .int 1), (0, .ref (ad 1000)), (1, .int (nI b)), (4, .int (nI t))]) hx hb dX9_search_112 hl (k := 5) rfl (nI_add i 1) (by decide) rfl (fun ls hl => ?_)
            refine lv_goto (tgt := 29) hx hb dX9_search_115 (by decide) ?_
            have hl : lv_has ls 7 [(0, .ref (ad 1000)), (1, .int (nI b)), (2, .int (nI (cnt (fndB a dn nw vc zs fo b) (i + 1)))), (3, .int (nI (i + 1)))] := lv_sub hl [4, 5, 1, 0] rfl
            apply iho (i := (i + 1)) (H := H) (locs := locs) (ls := ls) <;> first | omega | exact hB | exact hl
          · skip
            refine lv_iload_n hx hb dX9_search_90 rfl (lv_at hl 4 rfl) ?_
            refine lv_iload hx hb dX9_search_91 (lv_at hl 1 rfl) ?_
            refine b_if_eq_f 109 hx hb dX9_search_93 (by decide) (by decide) ?_
            refine lv_aload_n hx hb dX9_search_96 rfl (lv_at hl 2 rfl) ?_
            refine lv_iload_n hx hb dX9_search_97 rfl (lv_at hl 3 rfl) ?_
            refine lv_iload_n hx hb dX9_search_98 rfl (lv_at hl 5 rfl) ?_
            refine m_callVE (ci := 9) (As := [.int (nI b), .int (nI i)]) (rest := [.int (nI (cnt (fndB a dn nw vc zs fo b) i))]) (c_M_sees l D ty L ad _ a dn pn en qn mz nw lo tr b i (fo i) hM hb6 (by omega) hs1 hs2 hs3) ⟨hx, hb, hml, hown, hts⟩ (cwV 2 hts gX9_search_X9_sees rfl rfl rfl (by decide +kernel) ⟨Nat.le_of_ble_eq_true rfl, Nat.le_of_ble_eq_true rfl⟩) hB (hL 1000 (by decide)) h_1000 rfl rfl hl.1 rfl (Nat.le_of_ble_eq_true rfl) dX9_search_99 ⟨Nat.le_of_ble_eq_true rfl, Nat.le_of_ble_eq_true rfl⟩ (fun H locs hB => ?_)
            refine b_if_eq_t 109 hx hb dX9_search_102 (by decide) (by rw [hs]; decide) ?_
            refine lv_iconst (v := 0) hx hb dX9_search_109 (by decide) ?_
            refine lv_iadd hx hb dX9_search_110 ?_
            refine b_topi (w := nI (cnt (fndB a dn nw vc zs fo b) (i + 1))) (by rw [cnt_0 (h := (fndB a dn nw vc zs fo b)) (k := i) (by rw [hF, hs]; simp)]; exact nI_add _ 0) ?_
            refine lv_istore_n (lv' := [(2, .int (nI (cnt (fndB a dn nw vc zs fo b) (i + 1)))), (6, .int (nI (k + 1))), (5, .int 1), (0, .ref (ad 1000)), (1, .int (nI b)), (3, .int (nI i)), (4, .int (nI t))]) hx hb dX9_search_111 rfl hl (by decide) rfl (fun ls hl => ?_)
            refine lv_iinc (v := nI (i + 1)) (lv' := [(3, .int (nI (i + 1))), (2, .int (nI (cnt (fndB a dn nw vc zs fo b) (i + 1)))), (6, .int (nI (k + 1))), (5, .int 1), (0, .ref (ad 1000)), (1, .int (nI b)), (4, .int (nI t))]) hx hb dX9_search_112 hl (k := 5) rfl (nI_add i 1) (by decide) rfl (fun ls hl => ?_)
            refine lv_goto (tgt := 29) hx hb dX9_search_115 (by decide) ?_
            have hl : lv_has ls 7 [(0, .ref (ad 1000)), (1, .int (nI b)), (2, .int (nI (cnt (fndB a dn nw vc zs fo b) (i + 1)))), (3, .int (nI (i + 1)))] := lv_sub hl [4, 5, 1, 0] rfl
            apply iho (i := (i + 1)) (H := H) (locs := locs) (ls := ls) <;> first | omega | exact hB | exact hl
        · skip
          refine lv_iload hx hb dX9_search_57 (lv_at hl 0 rfl) ?_
          refine lv_aload_n hx hb dX9_search_59 rfl (lv_at hl 2 rfl) ?_
          refine m_get (C := RX9) (T := TX9) (N := 33) (ci := 9) hx hb hts in_X9_search_X9 hown hB (hL 1000 (by decide)) h_1000 rfl 11 (by decide) (hts (.fieldLink RX9 35 "PaperRoomModel" "size" "[I") (by decide +kernel)) (fun _ h9 => h9) rfl dX9_search_60 ?_
          refine lv_iload hx hb dX9_search_63 (lv_at hl 6 rfl) ?_
          refine n_iald hx hb hB (hL 1012 (by decide)) h_1012 t rfl (by omega) (by omega) dX9_search_65 ?_
          refine b_topi (w := nI n) (hz1) ?_
          refine b_icmp_ge_t 90 hx hb dX9_search_66 (by decide) (by omega) ?_
          have hh : hasB a dn t n = true := mw_yes hm n (by omega)
          rcases bool2 (seeB (a 6 i) (a 9 i) (a 8 i) (a 3) (a 4) (b % 3 * 4 + fo i) nw) with hs | hs
          · skip
            refine lv_iload_n hx hb dX9_search_90 rfl (lv_at hl 4 rfl) ?_
            refine lv_iload hx hb dX9_search_91 (lv_at hl 1 rfl) ?_
            refine b_if_eq_f 109 hx hb dX9_search_93 (by decide) (by decide) ?_
            refine lv_aload_n hx hb dX9_search_96 rfl (lv_at hl 2 rfl) ?_
            refine lv_iload_n hx hb dX9_search_97 rfl (lv_at hl 3 rfl) ?_
            refine lv_iload_n hx hb dX9_search_98 rfl (lv_at hl 5 rfl) ?_
            refine m_callVE (ci := 9) (As := [.int (nI b), .int (nI i)]) (rest := [.int (nI (cnt (fndB a dn nw vc zs fo b) i))]) (c_M_sees l D ty L ad _ a dn pn en qn mz nw lo tr b i (fo i) hM hb6 (by omega) hs1 hs2 hs3) ⟨hx, hb, hml, hown, hts⟩ (cwV 2 hts gX9_search_X9_sees rfl rfl rfl (by decide +kernel) ⟨Nat.le_of_ble_eq_true rfl, Nat.le_of_ble_eq_true rfl⟩) hB (hL 1000 (by decide)) h_1000 rfl rfl hl.1 rfl (Nat.le_of_ble_eq_true rfl) dX9_search_99 ⟨Nat.le_of_ble_eq_true rfl, Nat.le_of_ble_eq_true rfl⟩ (fun H locs hB => ?_)
            refine b_if_eq_f 109 hx hb dX9_search_102 (by decide) (by rw [hs]; decide) ?_
            refine lv_iconst (v := 1) hx hb dX9_search_105 (by decide) ?_
            refine lv_goto (tgt := 110) hx hb dX9_search_106 (by decide) ?_
            refine lv_iadd hx hb dX9_search_110 ?_
            refine b_topi (w := nI (cnt (fndB a dn nw vc zs fo b) (i + 1))) (by rw [cnt_1 (h := (fndB a dn nw vc zs fo b)) (k := i) (by rw [hF, hh, hs]; rfl)]; exact nI_add _ 1) ?_
            refine lv_istore_n (lv' := [(2, .int (nI (cnt (fndB a dn nw vc zs fo b) (i + 1)))), (6, .int (nI (k + 1))), (5, .int 1), (0, .ref (ad 1000)), (1, .int (nI b)), (3, .int (nI i)), (4, .int (nI t))]) hx hb dX9_search_111 rfl hl (by decide) rfl (fun ls hl => ?_)
            refine lv_iinc (v := nI (i + 1)) (lv' := [(3, .int (nI (i + 1))), (2, .int (nI (cnt (fndB a dn nw vc zs fo b) (i + 1)))), (6, .int (nI (k + 1))), (5, .int 1), (0, .ref (ad 1000)), (1, .int (nI b)), (4, .int (nI t))]) hx hb dX9_search_112 hl (k := 5) rfl (nI_add i 1) (by decide) rfl (fun ls hl => ?_)
            refine lv_goto (tgt := 29) hx hb dX9_search_115 (by decide) ?_
            have hl : lv_has ls 7 [(0, .ref (ad 1000)), (1, .int (nI b)), (2, .int (nI (cnt (fndB a dn nw vc zs fo b) (i + 1)))), (3, .int (nI (i + 1)))] := lv_sub hl [4, 5, 1, 0] rfl
            apply iho (i := (i + 1)) (H := H) (locs := locs) (ls := ls) <;> first | omega | exact hB | exact hl
          · skip
            refine lv_iload_n hx hb dX9_search_90 rfl (lv_at hl 4 rfl) ?_
            refine lv_iload hx hb dX9_search_91 (lv_at hl 1 rfl) ?_
            refine b_if_eq_f 109 hx hb dX9_search_93 (by decide) (by decide) ?_
            refine lv_aload_n hx hb dX9_search_96 rfl (lv_at hl 2 rfl) ?_
            refine lv_iload_n hx hb dX9_search_97 rfl (lv_at hl 3 rfl) ?_
            refine lv_iload_n hx hb dX9_search_98 rfl (lv_at hl 5 rfl) ?_
            refine m_callVE (ci := 9) (As := [.int (nI b), .int (nI i)]) (rest := [.int (nI (cnt (fndB a dn nw vc zs fo b) i))]) (c_M_sees l D ty L ad _ a dn pn en qn mz nw lo tr b i (fo i) hM hb6 (by omega) hs1 hs2 hs3) ⟨hx, hb, hml, hown, hts⟩ (cwV 2 hts gX9_search_X9_sees rfl rfl rfl (by decide +kernel) ⟨Nat.le_of_ble_eq_true rfl, Nat.le_of_ble_eq_true rfl⟩) hB (hL 1000 (by decide)) h_1000 rfl rfl hl.1 rfl (Nat.le_of_ble_eq_true rfl) dX9_search_99 ⟨Nat.le_of_ble_eq_true rfl, Nat.le_of_ble_eq_true rfl⟩ (fun H locs hB => ?_)
            refine b_if_eq_t 109 hx hb dX9_search_102 (by decide) (by rw [hs]; decide) ?_
            refine lv_iconst (v := 0) hx hb dX9_search_109 (by decide) ?_
            refine lv_iadd hx hb dX9_search_110 ?_
            refine b_topi (w := nI (cnt (fndB a dn nw vc zs fo b) (i + 1))) (by rw [cnt_0 (h := (fndB a dn nw vc zs fo b)) (k := i) (by rw [hF, hs]; simp)]; exact nI_add _ 0) ?_
            refine lv_istore_n (lv' := [(2, .int (nI (cnt (fndB a dn nw vc zs fo b) (i + 1)))), (6, .int (nI (k + 1))), (5, .int 1), (0, .ref (ad 1000)), (1, .int (nI b)), (3, .int (nI i)), (4, .int (nI t))]) hx hb dX9_search_111 rfl hl (by decide) rfl (fun ls hl => ?_)
            refine lv_iinc (v := nI (i + 1)) (lv' := [(3, .int (nI (i + 1))), (2, .int (nI (cnt (fndB a dn nw vc zs fo b) (i + 1)))), (6, .int (nI (k + 1))), (5, .int 1), (0, .ref (ad 1000)), (1, .int (nI b)), (4, .int (nI t))]) hx hb dX9_search_112 hl (k := 5) rfl (nI_add i 1) (by decide) rfl (fun ls hl => ?_)
            refine lv_goto (tgt := 29) hx hb dX9_search_115 (by decide) ?_
            have hl : lv_has ls 7 [(0, .ref (ad 1000)), (1, .int (nI b)), (2, .int (nI (cnt (fndB a dn nw vc zs fo b) (i + 1)))), (3, .int (nI (i + 1)))] := lv_sub hl [4, 5, 1, 0] rfl
            apply iho (i := (i + 1)) (H := H) (locs := locs) (ls := ls) <;> first | omega | exact hB | exact hl
      · skip
        have hmw1 := mw_no hmw hm
        refine lv_iload hx hb dX9_search_57 (lv_at hl 6 rfl) ?_
        refine lv_aload_n hx hb dX9_search_59 rfl (lv_at hl 0 rfl) ?_
        refine m_get (C := RX9) (T := TX9) (N := 33) (ci := 9) hx hb hts in_X9_search_X9 hown hB (hL 1000 (by decide)) h_1000 rfl 11 (by decide) (hts (.fieldLink RX9 35 "PaperRoomModel" "size" "[I") (by decide +kernel)) (fun _ h9 => h9) rfl dX9_search_60 ?_
        refine lv_iload hx hb dX9_search_63 (lv_at hl 4 rfl) ?_
        refine n_iald hx hb hB (hL 1012 (by decide)) h_1012 t rfl (by omega) (by omega) dX9_search_65 ?_
        refine b_topi (w := nI n) (hz1) ?_
        refine b_icmp_ge_f 90 hx hb dX9_search_66 (by decide) (by omega) ?_
        refine lv_iload hx hb dX9_search_69 (lv_at hl 5 rfl) ?_
        refine b_if_ne_f 90 hx hb dX9_search_71 (by decide) (by decide) ?_
        refine lv_aload_n hx hb dX9_search_74 rfl (lv_at hl 0 rfl) ?_
        refine lv_iload hx hb dX9_search_75 (lv_at hl 4 rfl) ?_
        refine lv_iload hx hb dX9_search_77 (lv_at hl 6 rfl) ?_
        refine m_callVE (ci := 9) (As := [.int (nI t), .int (nI k)]) (rest := []) (c_M_stands l D ty L ad _ a dn pn en qn mz nw lo tr t k n hM (by omega) hz1 hz2 (by omega) hd1 (by omega)) ⟨hx, hb, hml, hown, hts⟩ (cwV 2 hts gX9_search_X9_stands rfl rfl rfl (by decide +kernel) ⟨Nat.le_of_ble_eq_true rfl, Nat.le_of_ble_eq_true rfl⟩) hB (hL 1000 (by decide)) h_1000 rfl rfl hl.1 rfl (Nat.le_of_ble_eq_true rfl) dX9_search_79 ⟨Nat.le_of_ble_eq_true rfl, Nat.le_of_ble_eq_true rfl⟩ (fun H locs hB => ?_)
        refine b_topi (w := 0) (by rw [hm]; rfl) ?_
        refine lv_istore (lv' := [(5, .int 0), (0, .ref (ad 1000)), (1, .int (nI b)), (2, .int (nI (cnt (fndB a dn nw vc zs fo b) i))), (3, .int (nI i)), (4, .int (nI t)), (6, .int (nI k))]) hx hb dX9_search_82 hl (by decide) rfl (fun ls hl => ?_)
        refine lv_iinc (v := nI (k + 1)) (lv' := [(6, .int (nI (k + 1))), (5, .int 0), (0, .ref (ad 1000)), (1, .int (nI b)), (2, .int (nI (cnt (fndB a dn nw vc zs fo b) i))), (3, .int (nI i)), (4, .int (nI t))]) hx hb dX9_search_84 hl (k := 6) rfl (nI_add k 1) (by decide) rfl (fun ls hl => ?_)
        refine lv_goto (tgt := 57) hx hb dX9_search_87 (by decide) ?_
        have hmw' : mw (fun i => a 12 (40 * t + i)) (fun i => a 13 (40 * t + i)) (a 1) dn n (k + 1) = false := hmw1
        have hl : lv_has ls 7 [(0, .ref (ad 1000)), (1, .int (nI b)), (2, .int (nI (cnt (fndB a dn nw vc zs fo b) i))), (3, .int (nI i)), (4, .int (nI t)), (5, .int 0), (6, .int (nI (k + 1)))] := lv_sub hl [2, 3, 4, 5, 6, 1, 0] rfl
        apply ihj (k := (k + 1)) (H := H) (locs := locs) (ls := ls) <;> first | omega | exact hB | exact hl | exact hmw'
