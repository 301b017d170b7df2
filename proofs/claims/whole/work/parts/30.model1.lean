def mrol : List Nat := [1000, 1002, 1004, 1005, 1007, 1008, 1009, 1010, 1011, 1012, 1013, 1014, 1015, 1016, 1019, 1020, 1021, 1022, 1024, 1025, 1026, 1027, 1028, 1029, 1030, 1032]
/-- the cells of the reference hold this state -/
def RM (ty : Nat → ClassId) (L : List Nat) (ad : Nat → Nat) (g : Nat → va_E) (a : Nat → Nat → Int32) (dn pn en qn mz : Nat) (nw lo : Int32) (tr : Int64) : Prop :=
  (∀ r ∈ mrol, r ∈ L) ∧ g 1000 = .inr (9, [.int (nI dn), .ref (ad 1002), .int nw, .ref (ad 1004), .ref (ad 1005), .int (nI pn), .ref (ad 1007), .ref (ad 1008), .ref (ad 1009), .ref (ad 1010), .ref (ad 1011), .ref (ad 1012), .ref (ad 1013), .ref (ad 1014), .ref (ad 1015), .ref (ad 1016), .int (nI en), .int lo, .ref (ad 1019), .ref (ad 1020), .ref (ad 1021), .ref (ad 1022), .int (nI qn), .ref (ad 1024), .ref (ad 1025), .ref (ad 1026), .ref (ad 1027), .ref (ad 1028), .ref (ad 1029), .ref (ad 1030), .long tr, .ref (ad 1032), .int (nI mz)]) ∧ g 1002 = .inl (ty 0, 40, .inl (a 1)) ∧ g 1004 = .inl (ty 0, 12, .inl (a 3)) ∧ g 1005 = .inl (ty 0, 12, .inl (a 4)) ∧ g 1007 = .inl (ty 0, 8, .inl (a 6)) ∧ g 1008 = .inl (ty 0, 8, .inl (a 7)) ∧ g 1009 = .inl (ty 0, 8, .inl (a 8)) ∧ g 1010 = .inl (ty 3, 8, .inl (a 9)) ∧ g 1011 = .inl (ty 0, 8, .inl (a 10)) ∧ g 1012 = .inl (ty 0, 32, .inl (a 11)) ∧ g 1013 = .inl (ty 0, 1280, .inl (a 12)) ∧ g 1014 = .inl (ty 3, 1280, .inl (a 13)) ∧ g 1015 = .inl (ty 0, 6, .inl (a 14)) ∧ g 1016 = .inl (ty 0, 480, .inl (a 15)) ∧ g 1019 = .inl (ty 0, 200, .inl (a 18)) ∧ g 1020 = .inl (ty 0, 200, .inl (a 19)) ∧ g 1021 = .inl (ty 0, 200, .inl (a 20)) ∧ g 1022 = .inl (ty 0, 200, .inl (a 21)) ∧ g 1024 = .inl (ty 0, 30, .inl (a 23)) ∧ g 1025 = .inl (ty 0, 30, .inl (a 24)) ∧ g 1026 = .inl (ty 0, 30, .inl (a 25)) ∧ g 1027 = .inl (ty 0, 30, .inl (a 26)) ∧ g 1028 = .inl (ty 0, 30, .inl (a 27)) ∧ g 1029 = .inl (ty 0, 6, .inl (a 28)) ∧ g 1030 = .inl (ty 0, 6, .inl (a 29)) ∧ g 1032 = .inl (ty 0, 80, .inl (a 31))
theorem nI_m1 {n : Nat} (h : n < 2147483648) : (nI n - 1).toInt = (n : Int) - 1 := by
  have h1 := nI_toInt (n := n) (by omega)
  rw [Int32.toInt_sub, h1, show (1 : Int32).toInt = 1 by decide]
  rw [show (2 : Nat) ^ 32 = 4294967296 by decide]
  unfold Int.bmod
  dsimp only
  split <;> omega
set_option maxHeartbeats 1000000 in
set_option maxRecDepth 100000 in
theorem c_M_in_t (l : Launch) (D : va_G) (ty : Nat → ClassId) (L : List Nat) (ad : Nat → Nat) (g : Nat → va_E) (x y z : Int32) (h1 : y.toInt ≤ x.toInt) (h2 : x.toInt ≤ z.toInt) : m_E l yX9_in wsX9_in 0 0 D ty [.int x, .int y, .int z] L ad g (some (.int 1)) g := by
  intro sz
  refine Met.ofW (cc := cX9_in) (maxL := 3) (ret := (some .boolean)) (by decide) rfl ?_
  intro p e s m args below meth c s₁ B hml hv
  have hx := B.exec
  have hb := B.bytes
  have hrt := B.returns
  have hts := atoms_spec (ws := wsX9_in) B.pre
  have hown : s.vm.findClass RX9 = some m.cls := findClass_of_methodNamed B.named
  have hlocks := B.notSynchronized
  obtain ⟨rfl, hB⟩ := m_start hv
  generalize va_A (m_w L ad g) sz = A at hB ⊢
  generalize s.heap = H at hB ⊢
  generalize ([] : List Loc) = locs at hB ⊢
  have hl := lv_entry ([.int x, .int y, .int z]) (n := 3) (Nat.le_of_ble_eq_true rfl)
  rw [lg_entry_eq]
  generalize (lg_sl ([.int x, .int y, .int z]) ++ List.replicate (3 - (lg_sl ([.int x, .int y, .int z])).length) Slot.unset).toArray = ls at hl ⊢
  have hl : lv_has ls 3 [(0, .int x), (1, .int y), (2, .int z)] := hl
  refine lv_iload_n hx hb dX9_in_0 rfl (lv_at hl 0 rfl) ?_
  refine lv_iload_n hx hb dX9_in_1 rfl (lv_at hl 1 rfl) ?_
  refine b_icmp_lt_f 14 hx hb dX9_in_2 (by decide) (by omega) ?_
  refine lv_iload_n hx hb dX9_in_5 rfl (lv_at hl 0 rfl) ?_
  refine lv_iload_n hx hb dX9_in_6 rfl (lv_at hl 2 rfl) ?_
  refine b_icmp_gt_f 14 hx hb dX9_in_7 (by decide) (by omega) ?_
  refine lv_iconst (v := 1) hx hb dX9_in_10 (by decide) ?_
  refine lv_goto (tgt := 15) hx hb dX9_in_11 (by decide) ?_
  exact m_zret hx hb hrt hlocks hB (Nat.le_refl _) (Nat.le_refl _) dX9_in_15 rfl ⟨rfl, rfl, rfl, rfl⟩
set_option maxHeartbeats 1000000 in
set_option maxRecDepth 100000 in
theorem c_M_in_f (l : Launch) (D : va_G) (ty : Nat → ClassId) (L : List Nat) (ad : Nat → Nat) (g : Nat → va_E) (x y z : Int32) (h : ¬ (y.toInt ≤ x.toInt ∧ x.toInt ≤ z.toInt)) : m_E l yX9_in wsX9_in 0 0 D ty [.int x, .int y, .int z] L ad g (some (.int 0)) g := by
  intro sz
  refine Met.ofW (cc := cX9_in) (maxL := 3) (ret := (some .boolean)) (by decide) rfl ?_
  intro p e s m args below meth c s₁ B hml hv
  have hx := B.exec
  have hb := B.bytes
  have hrt := B.returns
  have hts := atoms_spec (ws := wsX9_in) B.pre
  have hown : s.vm.findClass RX9 = some m.cls := findClass_of_methodNamed B.named
  have hlocks := B.notSynchronized
  obtain ⟨rfl, hB⟩ := m_start hv
  generalize va_A (m_w L ad g) sz = A at hB ⊢
  generalize s.heap = H at hB ⊢
  generalize ([] : List Loc) = locs at hB ⊢
  have hl := lv_entry ([.int x, .int y, .int z]) (n := 3) (Nat.le_of_ble_eq_true rfl)
  rw [lg_entry_eq]
  generalize (lg_sl ([.int x, .int y, .int z]) ++ List.replicate (3 - (lg_sl ([.int x, .int y, .int z])).length) Slot.unset).toArray = ls at hl ⊢
  have hl : lv_has ls 3 [(0, .int x), (1, .int y), (2, .int z)] := hl
  refine lv_iload_n hx hb dX9_in_0 rfl (lv_at hl 0 rfl) ?_
  refine lv_iload_n hx hb dX9_in_1 rfl (lv_at hl 1 rfl) ?_
  refine b_icmp_lt 14 hx hb dX9_in_2 (by decide) (fun c_2 => ?_) (fun c_2 => ?_)
  · skip
    refine lv_iconst (v := 0) hx hb dX9_in_14 (by decide) ?_
    exact m_zret hx hb hrt hlocks hB (Nat.le_refl _) (Nat.le_refl _) dX9_in_15 rfl ⟨rfl, rfl, rfl, rfl⟩
  · skip
    refine lv_iload_n hx hb dX9_in_5 rfl (lv_at hl 0 rfl) ?_
    refine lv_iload_n hx hb dX9_in_6 rfl (lv_at hl 2 rfl) ?_
    refine b_icmp_gt_t 14 hx hb dX9_in_7 (by decide) (by omega) ?_
    refine lv_iconst (v := 0) hx hb dX9_in_14 (by decide) ?_
    exact m_zret hx hb hrt hlocks hB (Nat.le_refl _) (Nat.le_refl _) dX9_in_15 rfl ⟨rfl, rfl, rfl, rfl⟩
set_option maxHeartbeats 1000000 in
set_option maxRecDepth 100000 in
theorem c_M_isBidder_t (l : Launch) (D : va_G) (ty : Nat → ClassId) (L : List Nat) (ad : Nat → Nat) (g : Nat → va_E) (b : Nat) (hb6 : b < 6) : m_E l yX9_isBidder wsX9_isBidder 1 22 D ty [.int (nI b)] L ad g (some (.int 1)) g := by
  intro sz
  refine Met.ofW (cc := cX9_isBidder) (maxL := 1) (ret := (some .boolean)) (by decide) rfl ?_
  intro p e s m args below meth c s₁ B hml hv
  have hx := B.exec
  have hb := B.bytes
  have hrt := B.returns
  have hts := atoms_spec (ws := wsX9_isBidder) B.pre
  have hown : s.vm.findClass RX9 = some m.cls := findClass_of_methodNamed B.named
  have hlocks := B.notSynchronized
  obtain ⟨rfl, hB⟩ := m_start hv
  generalize va_A (m_w L ad g) sz = A at hB ⊢
  generalize s.heap = H at hB ⊢
  generalize ([] : List Loc) = locs at hB ⊢
  have hl := lv_entry ([.int (nI b)]) (n := 1) (Nat.le_of_ble_eq_true rfl)
  rw [lg_entry_eq]
  generalize (lg_sl ([.int (nI b)]) ++ List.replicate (1 - (lg_sl ([.int (nI b)])).length) Slot.unset).toArray = ls at hl ⊢
  have hl : lv_has ls 1 [(0, .int (nI b))] := hl
  have tI_b : (nI b).toInt = (b : Int) := nI_toInt (by omega)
  have l0 : (0 : Int32).toInt = 0 := by decide
  have l5 : (5 : Int32).toInt = 5 := by decide
  refine lv_iload_n hx hb dX9_isBidder_0 rfl (lv_at hl 0 rfl) ?_
  refine lv_iconst (v := 0) hx hb dX9_isBidder_1 (by decide) ?_
  refine lv_iconst (v := 5) hx hb dX9_isBidder_2 (by decide) ?_
  refine m_callSE (As := [.int (nI b), .int 0, .int 5]) (rest := []) (c_M_in_t l D ty L ad _ _ _ _ (by omega) (by omega)) ⟨hx, hb, hml, hown, hts⟩ (va_cwS 3 hts gX9_isBidder_X9_in rfl rfl rfl (by decide +kernel) ⟨Nat.le_of_ble_eq_true rfl, Nat.le_of_ble_eq_true rfl⟩) hB rfl hl.1 rfl (Nat.le_of_ble_eq_true rfl) dX9_isBidder_3 ⟨Nat.le_of_ble_eq_true rfl, Nat.le_of_ble_eq_true rfl⟩ (fun H locs hB => ?_)
  exact m_zret hx hb hrt hlocks hB (Nat.le_refl _) (Nat.le_refl _) dX9_isBidder_6 rfl ⟨rfl, rfl, rfl, rfl⟩
set_option maxHeartbeats 1000000 in
set_option maxRecDepth 100000 in
theorem c_M_isBidder_f (l : Launch) (D : va_G) (ty : Nat → ClassId) (L : List Nat) (ad : Nat → Nat) (g : Nat → va_E) (i : Int32) (hi : ¬ (0 ≤ i.toInt ∧ i.toInt < 6)) : m_E l yX9_isBidder wsX9_isBidder 1 22 D ty [.int i] L ad g (some (.int 0)) g := by
  intro sz
  refine Met.ofW (cc := cX9_isBidder) (maxL := 1) (ret := (some .boolean)) (by decide) rfl ?_
  intro p e s m args below meth c s₁ B hml hv
  have hx := B.exec
  have hb := B.bytes
  have hrt := B.returns
  have hts := atoms_spec (ws := wsX9_isBidder) B.pre
  have hown : s.vm.findClass RX9 = some m.cls := findClass_of_methodNamed B.named
  have hlocks := B.notSynchronized
  obtain ⟨rfl, hB⟩ := m_start hv
  generalize va_A (m_w L ad g) sz = A at hB ⊢
  generalize s.heap = H at hB ⊢
  generalize ([] : List Loc) = locs at hB ⊢
  have hl := lv_entry ([.int i]) (n := 1) (Nat.le_of_ble_eq_true rfl)
  rw [lg_entry_eq]
  generalize (lg_sl ([.int i]) ++ List.replicate (1 - (lg_sl ([.int i])).length) Slot.unset).toArray = ls at hl ⊢
  have hl : lv_has ls 1 [(0, .int i)] := hl
  have l0 : (0 : Int32).toInt = 0 := by decide
  have l5 : (5 : Int32).toInt = 5 := by decide
  refine lv_iload_n hx hb dX9_isBidder_0 rfl (lv_at hl 0 rfl) ?_
  refine lv_iconst (v := 0) hx hb dX9_isBidder_1 (by decide) ?_
  refine lv_iconst (v := 5) hx hb dX9_isBidder_2 (by decide) ?_
  refine m_callSE (As := [.int i, .int 0, .int 5]) (rest := []) (c_M_in_f l D ty L ad _ _ _ _ (by omega)) ⟨hx, hb, hml, hown, hts⟩ (va_cwS 3 hts gX9_isBidder_X9_in rfl rfl rfl (by decide +kernel) ⟨Nat.le_of_ble_eq_true rfl, Nat.le_of_ble_eq_true rfl⟩) hB rfl hl.1 rfl (Nat.le_of_ble_eq_true rfl) dX9_isBidder_3 ⟨Nat.le_of_ble_eq_true rfl, Nat.le_of_ble_eq_true rfl⟩ (fun H locs hB => ?_)
  exact m_zret hx hb hrt hlocks hB (Nat.le_refl _) (Nat.le_refl _) dX9_isBidder_6 rfl ⟨rfl, rfl, rfl, rfl⟩
set_option maxRecDepth 20000 in
theorem in_X9_isPaper_X9 : ∀ w ∈ wsX90, w ∈ wsX9_isPaper := by decide +kernel
set_option maxHeartbeats 1000000 in
set_option maxRecDepth 100000 in
theorem c_M_isPaper_t (l : Launch) (D : va_G) (ty : Nat → ClassId) (L : List Nat) (ad : Nat → Nat) (g : Nat → va_E) (a : Nat → Nat → Int32) (dn pn en qn mz : Nat) (nw lo : Int32) (tr : Int64) (j : Nat) (hM : RM ty L ad g a dn pn en qn mz nw lo tr) (hj9 : j < pn) (hpn : pn ≤ 8) : m_E l yX9_isPaper wsX9_isPaper 1 22 D ty [.ref (ad 1000), .int (nI j)] L ad g (some (.int 1)) g := by
  intro sz
  refine Met.ofW (cc := cX9_isPaper) (maxL := 2) (ret := (some .boolean)) (by decide) rfl ?_
  intro p e s m args below meth c s₁ B hml hv
  have hx := B.exec
  have hb := B.bytes
  have hrt := B.returns
  have hts := atoms_spec (ws := wsX9_isPaper) B.pre
  have hown : s.vm.findClass RX9 = some m.cls := findClass_of_methodNamed B.named
  have hlocks := B.notSynchronized
  obtain ⟨rfl, hB⟩ := m_start hv
  generalize va_A (m_w L ad g) sz = A at hB ⊢
  generalize s.heap = H at hB ⊢
  generalize ([] : List Loc) = locs at hB ⊢
  have hl := lv_entry ([.ref (ad 1000), .int (nI j)]) (n := 2) (Nat.le_of_ble_eq_true rfl)
  rw [lg_entry_eq]
  generalize (lg_sl ([.ref (ad 1000), .int (nI j)]) ++ List.replicate (2 - (lg_sl ([.ref (ad 1000), .int (nI j)])).length) Slot.unset).toArray = ls at hl ⊢
  have hl : lv_has ls 2 [(0, .ref (ad 1000)), (1, .int (nI j))] := hl
  obtain ⟨hL, h_1000, h_1002, h_1004, h_1005, h_1007, h_1008, h_1009, h_1010, h_1011, h_1012, h_1013, h_1014, h_1015, h_1016, h_1019, h_1020, h_1021, h_1022, h_1024, h_1025, h_1026, h_1027, h_1028, h_1029, h_1030, h_1032⟩ := id hM
  have tI_j : (nI j).toInt = (j : Int) := nI_toInt (by omega)
  have l0 : (0 : Int32).toInt = 0 := by decide
  have hm1 := nI_m1 (n := pn) (by omega)
  refine lv_iload_n hx hb dX9_isPaper_0 rfl (lv_at hl 1 rfl) ?_
  refine lv_iconst (v := 0) hx hb dX9_isPaper_1 (by decide) ?_
  refine lv_aload_n hx hb dX9_isPaper_2 rfl (lv_at hl 0 rfl) ?_
  refine m_get (C := RX9) (T := TX9) (N := 33) (ci := 9) hx hb hts in_X9_isPaper_X9 hown hB (hL 1000 (by decide)) h_1000 rfl 5 (by decide) (hts (.fieldLink RX9 90 "PaperRoomModel" "papers" "I") (by decide +kernel)) (fun _ h9 => h9) rfl dX9_isPaper_3 ?_
  refine lv_iconst (v := 1) hx hb dX9_isPaper_6 (by decide) ?_
  refine lv_isub hx hb dX9_isPaper_7 ?_
  refine m_callSE (As := [.int (nI j), .int 0, .int ((nI pn) - 1)]) (rest := []) (c_M_in_t l D ty L ad _ _ _ _ (by omega) (by omega)) ⟨hx, hb, hml, hown, hts⟩ (va_cwS 3 hts gX9_isPaper_X9_in rfl rfl rfl (by decide +kernel) ⟨Nat.le_of_ble_eq_true rfl, Nat.le_of_ble_eq_true rfl⟩) hB rfl hl.1 rfl (Nat.le_of_ble_eq_true rfl) dX9_isPaper_8 ⟨Nat.le_of_ble_eq_true rfl, Nat.le_of_ble_eq_true rfl⟩ (fun H locs hB => ?_)
  exact m_zret hx hb hrt hlocks hB (Nat.le_refl _) (Nat.le_refl _) dX9_isPaper_11 rfl ⟨rfl, rfl, rfl, rfl⟩
set_option maxHeartbeats 1000000 in
set_option maxRecDepth 100000 in
theorem c_M_isPaper_f (l : Launch) (D : va_G) (ty : Nat → ClassId) (L : List Nat) (ad : Nat → Nat) (g : Nat → va_E) (a : Nat → Nat → Int32) (dn pn en qn mz : Nat) (nw lo : Int32) (tr : Int64) (i : Int32) (hM : RM ty L ad g a dn pn en qn mz nw lo tr) (hi : ¬ (0 ≤ i.toInt ∧ i.toInt < pn)) (hpn : pn ≤ 8) : m_E l yX9_isPaper wsX9_isPaper 1 22 D ty [.ref (ad 1000), .int i] L ad g (some (.int 0)) g := by
  intro sz
  refine Met.ofW (cc := cX9_isPaper) (maxL := 2) (ret := (some .boolean)) (by decide) rfl ?_
  intro p e s m args below meth c s₁ B hml hv
  have hx := B.exec
  have hb := B.bytes
  have hrt := B.returns
  have hts := atoms_spec (ws := wsX9_isPaper) B.pre
  have hown : s.vm.findClass RX9 = some m.cls := findClass_of_methodNamed B.named
  have hlocks := B.notSynchronized
  obtain ⟨rfl, hB⟩ := m_start hv
  generalize va_A (m_w L ad g) sz = A at hB ⊢
  generalize s.heap = H at hB ⊢
  generalize ([] : List Loc) = locs at hB ⊢
  have hl := lv_entry ([.ref (ad 1000), .int i]) (n := 2) (Nat.le_of_ble_eq_true rfl)
  rw [lg_entry_eq]
  generalize (lg_sl ([.ref (ad 1000), .int i]) ++ List.replicate (2 - (lg_sl ([.ref (ad 1000), .int i])).length) Slot.unset).toArray = ls at hl ⊢
  have hl : lv_has ls 2 [(0, .ref (ad 1000)), (1, .int i)] := hl
  obtain ⟨hL, h_1000, h_1002, h_1004, h_1005, h_1007, h_1008, h_1009, h_1010, h_1011, h_1012, h_1013, h_1014, h_1015, h_1016, h_1019, h_1020, h_1021, h_1022, h_1024, h_1025, h_1026, h_1027, h_1028, h_1029, h_1030, h_1032⟩ := id hM
  have l0 : (0 : Int32).toInt = 0 := by decide
  have hm1 := nI_m1 (n := pn) (by omega)
  refine lv_iload_n hx hb dX9_isPaper_0 rfl (lv_at hl 1 rfl) ?_
  refine lv_iconst (v := 0) hx hb dX9_isPaper_1 (by decide) ?_
  refine lv_aload_n hx hb dX9_isPaper_2 rfl (lv_at hl 0 rfl) ?_
  refine m_get (C := RX9) (T := TX9) (N := 33) (ci := 9) hx hb hts in_X9_isPaper_X9 hown hB (hL 1000 (by decide)) h_1000 rfl 5 (by decide) (hts (.fieldLink RX9 90 "PaperRoomModel" "papers" "I") (by decide +kernel)) (fun _ h9 => h9) rfl dX9_isPaper_3 ?_
  refine lv_iconst (v := 1) hx hb dX9_isPaper_6 (by decide) ?_
  refine lv_isub hx hb dX9_isPaper_7 ?_
  refine m_callSE (As := [.int i, .int 0, .int ((nI pn) - 1)]) (rest := []) (c_M_in_f l D ty L ad _ _ _ _ (by omega)) ⟨hx, hb, hml, hown, hts⟩ (va_cwS 3 hts gX9_isPaper_X9_in rfl rfl rfl (by decide +kernel) ⟨Nat.le_of_ble_eq_true rfl, Nat.le_of_ble_eq_true rfl⟩) hB rfl hl.1 rfl (Nat.le_of_ble_eq_true rfl) dX9_isPaper_8 ⟨Nat.le_of_ble_eq_true rfl, Nat.le_of_ble_eq_true rfl⟩ (fun H locs hB => ?_)
  exact m_zret hx hb hrt hlocks hB (Nat.le_refl _) (Nat.le_refl _) dX9_isPaper_11 rfl ⟨rfl, rfl, rfl, rfl⟩
set_option maxRecDepth 20000 in
theorem in_X9_isQuestion_X9 : ∀ w ∈ wsX90, w ∈ wsX9_isQuestion := by decide +kernel
set_option maxHeartbeats 1000000 in
set_option maxRecDepth 100000 in
theorem c_M_isQuestion_t (l : Launch) (D : va_G) (ty : Nat → ClassId) (L : List Nat) (ad : Nat → Nat) (g : Nat → va_E) (a : Nat → Nat → Int32) (dn pn en qn mz : Nat) (nw lo : Int32) (tr : Int64) (j : Nat) (hM : RM ty L ad g a dn pn en qn mz nw lo tr) (hj9 : j < qn) (hqn : qn ≤ 30) : m_E l yX9_isQuestion wsX9_isQuestion 1 22 D ty [.ref (ad 1000), .int (nI j)] L ad g (some (.int 1)) g := by
  intro sz
  refine Met.ofW (cc := cX9_isQuestion) (maxL := 2) (ret := (some .boolean)) (by decide) rfl ?_
  intro p e s m args below meth c s₁ B hml hv
  have hx := B.exec
  have hb := B.bytes
  have hrt := B.returns
  have hts := atoms_spec (ws := wsX9_isQuestion) B.pre
  have hown : s.vm.findClass RX9 = some m.cls := findClass_of_methodNamed B.named
  have hlocks := B.notSynchronized
  obtain ⟨rfl, hB⟩ := m_start hv
  generalize va_A (m_w L ad g) sz = A at hB ⊢
  generalize s.heap = H at hB ⊢
  generalize ([] : List Loc) = locs at hB ⊢
  have hl := lv_entry ([.ref (ad 1000), .int (nI j)]) (n := 2) (Nat.le_of_ble_eq_true rfl)
  rw [lg_entry_eq]
  generalize (lg_sl ([.ref (ad 1000), .int (nI j)]) ++ List.replicate (2 - (lg_sl ([.ref (ad 1000), .int (nI j)])).length) Slot.unset).toArray = ls at hl ⊢
  have hl : lv_has ls 2 [(0, .ref (ad 1000)), (1, .int (nI j))] := hl
  obtain ⟨hL, h_1000, h_1002, h_1004, h_1005, h_1007, h_1008, h_1009, h_1010, h_1011, h_1012, h_1013, h_1014, h_1015, h_1016, h_1019, h_1020, h_1021, h_1022, h_1024, h_1025, h_1026, h_1027, h_1028, h_1029, h_1030, h_1032⟩ := id hM
  have tI_j : (nI j).toInt = (j : Int) := nI_toInt (by omega)
  have l0 : (0 : Int32).toInt = 0 := by decide
  have hm1 := nI_m1 (n := qn) (by omega)
  refine lv_iload_n hx hb dX9_isQuestion_0 rfl (lv_at hl 1 rfl) ?_
  refine lv_iconst (v := 0) hx hb dX9_isQuestion_1 (by decide) ?_
  refine lv_aload_n hx hb dX9_isQuestion_2 rfl (lv_at hl 0 rfl) ?_
  refine m_get (C := RX9) (T := TX9) (N := 33) (ci := 9) hx hb hts in_X9_isQuestion_X9 hown hB (hL 1000 (by decide)) h_1000 rfl 22 (by decide) (hts (.fieldLink RX9 153 "PaperRoomModel" "questions" "I") (by decide +kernel)) (fun _ h9 => h9) rfl dX9_isQuestion_3 ?_
  refine lv_iconst (v := 1) hx hb dX9_isQuestion_6 (by decide) ?_
  refine lv_isub hx hb dX9_isQuestion_7 ?_
  refine m_callSE (As := [.int (nI j), .int 0, .int ((nI qn) - 1)]) (rest := []) (c_M_in_t l D ty L ad _ _ _ _ (by omega) (by omega)) ⟨hx, hb, hml, hown, hts⟩ (va_cwS 3 hts gX9_isQuestion_X9_in rfl rfl rfl (by decide +kernel) ⟨Nat.le_of_ble_eq_true rfl, Nat.le_of_ble_eq_true rfl⟩) hB rfl hl.1 rfl (Nat.le_of_ble_eq_true rfl) dX9_isQuestion_8 ⟨Nat.le_of_ble_eq_true rfl, Nat.le_of_ble_eq_true rfl⟩ (fun H locs hB => ?_)
  exact m_zret hx hb hrt hlocks hB (Nat.le_refl _) (Nat.le_refl _) dX9_isQuestion_11 rfl ⟨rfl, rfl, rfl, rfl⟩
set_option maxHeartbeats 1000000 in
set_option maxRecDepth 100000 in
theorem c_M_isQuestion_f (l : Launch) (D : va_G) (ty : Nat → ClassId) (L : List Nat) (ad : Nat → Nat) (g : Nat → va_E) (a : Nat → Nat → Int32) (dn pn en qn mz : Nat) (nw lo : Int32) (tr : Int64) (i : Int32) (hM : RM ty L ad g a dn pn en qn mz nw lo tr) (hi : ¬ (0 ≤ i.toInt ∧ i.toInt < qn)) (hqn : qn ≤ 30) : m_E l yX9_isQuestion wsX9_isQuestion 1 22 D ty [.ref (ad 1000), .int i] L ad g (some (.int 0)) g := by
  intro sz
  refine Met.ofW (cc := cX9_isQuestion) (maxL := 2) (ret := (some .boolean)) (by decide) rfl ?_
  intro p e s m args below meth c s₁ B hml hv
  have hx := B.exec
  have hb := B.bytes
  have hrt := B.returns
  have hts := atoms_spec (ws := wsX9_isQuestion) B.pre
  have hown : s.vm.findClass RX9 = some m.cls := findClass_of_methodNamed B.named
  have hlocks := B.notSynchronized
  obtain ⟨rfl, hB⟩ := m_start hv
  generalize va_A (m_w L ad g) sz = A at hB ⊢
  generalize s.heap = H at hB ⊢
  generalize ([] : List Loc) = locs at hB ⊢
  have hl := lv_entry ([.ref (ad 1000), .int i]) (n := 2) (Nat.le_of_ble_eq_true rfl)
  rw [lg_entry_eq]
  generalize (lg_sl ([.ref (ad 1000), .int i]) ++ List.replicate (2 - (lg_sl ([.ref (ad 1000), .int i])).length) Slot.unset).toArray = ls at hl ⊢
  have hl : lv_has ls 2 [(0, .ref (ad 1000)), (1, .int i)] := hl
  obtain ⟨hL, h_1000, h_1002, h_1004, h_1005, h_1007, h_1008, h_1009, h_1010, h_1011, h_1012, h_1013, h_1014, h_1015, h_1016, h_1019, h_1020, h_1021, h_1022, h_1024, h_1025, h_1026, h_1027, h_1028, h_1029, h_1030, h_1032⟩ := id hM
  have l0 : (0 : Int32).toInt = 0 := by decide
  have hm1 := nI_m1 (n := qn) (by omega)
  refine lv_iload_n hx hb dX9_isQuestion_0 rfl (lv_at hl 1 rfl) ?_
  refine lv_iconst (v := 0) hx hb dX9_isQuestion_1 (by decide) ?_
  refine lv_aload_n hx hb dX9_isQuestion_2 rfl (lv_at hl 0 rfl) ?_
  refine m_get (C := RX9) (T := TX9) (N := 33) (ci := 9) hx hb hts in_X9_isQuestion_X9 hown hB (hL 1000 (by decide)) h_1000 rfl 22 (by decide) (hts (.fieldLink RX9 153 "PaperRoomModel" "questions" "I") (by decide +kernel)) (fun _ h9 => h9) rfl dX9_isQuestion_3 ?_
  refine lv_iconst (v := 1) hx hb dX9_isQuestion_6 (by decide) ?_
  refine lv_isub hx hb dX9_isQuestion_7 ?_
  refine m_callSE (As := [.int i, .int 0, .int ((nI qn) - 1)]) (rest := []) (c_M_in_f l D ty L ad _ _ _ _ (by omega)) ⟨hx, hb, hml, hown, hts⟩ (va_cwS 3 hts gX9_isQuestion_X9_in rfl rfl rfl (by decide +kernel) ⟨Nat.le_of_ble_eq_true rfl, Nat.le_of_ble_eq_true rfl⟩) hB rfl hl.1 rfl (Nat.le_of_ble_eq_true rfl) dX9_isQuestion_8 ⟨Nat.le_of_ble_eq_true rfl, Nat.le_of_ble_eq_true rfl⟩ (fun H locs hB => ?_)
  exact m_zret hx hb hrt hlocks hB (Nat.le_refl _) (Nat.le_refl _) dX9_isQuestion_11 rfl ⟨rfl, rfl, rfl, rfl⟩
set_option maxRecDepth 20000 in
theorem in_X9_isVersion_X9 : ∀ w ∈ wsX90, w ∈ wsX9_isVersion := by decide +kernel
set_option maxHeartbeats 1000000 in
set_option maxRecDepth 100000 in
theorem c_M_isVersion_t (l : Launch) (D : va_G) (ty : Nat → ClassId) (L : List Nat) (ad : Nat → Nat) (g : Nat → va_E) (a : Nat → Nat → Int32) (dn pn en qn mz : Nat) (nw lo : Int32) (tr : Int64) (j k vj : Nat) (hM : RM ty L ad g a dn pn en qn mz nw lo tr) (hj9 : j < pn) (hpn : pn ≤ 8) (hvj : a 10 j = nI vj) (hv4 : vj ≤ 4) (hk : k < vj) : m_E l yX9_isVersion wsX9_isVersion 2 43 D ty [.ref (ad 1000), .int (nI j), .int (nI k)] L ad g (some (.int 1)) g := by
  intro sz
  refine Met.ofW (cc := cX9_isVersion) (maxL := 3) (ret := (some .boolean)) (by decide) rfl ?_
  intro p e s m args below meth c s₁ B hml hv
  have hx := B.exec
  have hb := B.bytes
  have hrt := B.returns
  have hts := atoms_spec (ws := wsX9_isVersion) B.pre
  have hown : s.vm.findClass RX9 = some m.cls := findClass_of_methodNamed B.named
  have hlocks := B.notSynchronized
  obtain ⟨rfl, hB⟩ := m_start hv
  generalize va_A (m_w L ad g) sz = A at hB ⊢
  generalize s.heap = H at hB ⊢
  generalize ([] : List Loc) = locs at hB ⊢
  have hl := lv_entry ([.ref (ad 1000), .int (nI j), .int (nI k)]) (n := 3) (Nat.le_of_ble_eq_true rfl)
  rw [lg_entry_eq]
  generalize (lg_sl ([.ref (ad 1000), .int (nI j), .int (nI k)]) ++ List.replicate (3 - (lg_sl ([.ref (ad 1000), .int (nI j), .int (nI k)])).length) Slot.unset).toArray = ls at hl ⊢
  have hl : lv_has ls 3 [(0, .ref (ad 1000)), (1, .int (nI j)), (2, .int (nI k))] := hl
  obtain ⟨hL, h_1000, h_1002, h_1004, h_1005, h_1007, h_1008, h_1009, h_1010, h_1011, h_1012, h_1013, h_1014, h_1015, h_1016, h_1019, h_1020, h_1021, h_1022, h_1024, h_1025, h_1026, h_1027, h_1028, h_1029, h_1030, h_1032⟩ := id hM
  have tI_j : (nI j).toInt = (j : Int) := nI_toInt (by omega)
  have tI_k : (nI k).toInt = (k : Int) := nI_toInt (by omega)
  have l0 : (0 : Int32).toInt = 0 := by decide
  have hm2 := nI_m1 (n := vj) (by omega)
  refine lv_aload_n hx hb dX9_isVersion_0 rfl (lv_at hl 0 rfl) ?_
  refine lv_iload_n hx hb dX9_isVersion_1 rfl (lv_at hl 1 rfl) ?_
  refine m_callVE (ci := 9) (As := [.int (nI j)]) (rest := []) (c_M_isPaper_t l D ty L ad _ a dn pn en qn mz nw lo tr j hM hj9 hpn) ⟨hx, hb, hml, hown, hts⟩ (cwV 1 hts gX9_isVersion_X9_isPaper rfl rfl rfl (by decide +kernel) ⟨Nat.le_of_ble_eq_true rfl, Nat.le_of_ble_eq_true rfl⟩) hB (hL 1000 (by decide)) h_1000 rfl rfl hl.1 rfl (Nat.le_of_ble_eq_true rfl) dX9_isVersion_2 ⟨Nat.le_of_ble_eq_true rfl, Nat.le_of_ble_eq_true rfl⟩ (fun H locs hB => ?_)
  refine b_if_eq_f 28 hx hb dX9_isVersion_5 (by decide) (by decide) ?_
  refine lv_iload_n hx hb dX9_isVersion_8 rfl (lv_at hl 2 rfl) ?_
  refine lv_iconst (v := 0) hx hb dX9_isVersion_9 (by decide) ?_
  refine lv_aload_n hx hb dX9_isVersion_10 rfl (lv_at hl 0 rfl) ?_
  refine m_get (C := RX9) (T := TX9) (N := 33) (ci := 9) hx hb hts in_X9_isVersion_X9 hown hB (hL 1000 (by decide)) h_1000 rfl 10 (by decide) (hts (.fieldLink RX9 32 "PaperRoomModel" "versions" "[I") (by decide +kernel)) (fun _ h9 => h9) rfl dX9_isVersion_11 ?_
  refine lv_iload_n hx hb dX9_isVersion_14 rfl (lv_at hl 1 rfl) ?_
  refine n_iald hx hb hB (hL 1011 (by decide)) h_1011 j rfl (by omega) (by omega) dX9_isVersion_15 ?_
  refine b_topi (w := nI vj) (hvj) ?_
  refine lv_iconst (v := 1) hx hb dX9_isVersion_16 (by decide) ?_
  refine lv_isub hx hb dX9_isVersion_17 ?_
  refine m_callSE (As := [.int (nI k), .int 0, .int ((nI vj) - 1)]) (rest := []) (c_M_in_t l D ty L ad _ _ _ _ (by omega) (by omega)) ⟨hx, hb, hml, hown, hts⟩ (va_cwS 3 hts gX9_isVersion_X9_in rfl rfl rfl (by decide +kernel) ⟨Nat.le_of_ble_eq_true rfl, Nat.le_of_ble_eq_true rfl⟩) hB rfl hl.1 rfl (Nat.le_of_ble_eq_true rfl) dX9_isVersion_18 ⟨Nat.le_of_ble_eq_true rfl, Nat.le_of_ble_eq_true rfl⟩ (fun H locs hB => ?_)
  refine b_if_eq_f 28 hx hb dX9_isVersion_21 (by decide) (by decide) ?_
  refine lv_iconst (v := 1) hx hb dX9_isVersion_24 (by decide) ?_
  refine lv_goto (tgt := 29) hx hb dX9_isVersion_25 (by decide) ?_
  exact m_zret hx hb hrt hlocks hB (Nat.le_refl _) (Nat.le_refl _) dX9_isVersion_29 rfl ⟨rfl, rfl, rfl, rfl⟩
set_option maxHeartbeats 1000000 in
set_option maxRecDepth 100000 in
theorem c_M_isVersion_f (l : Launch) (D : va_G) (ty : Nat → ClassId) (L : List Nat) (ad : Nat → Nat) (g : Nat → va_E) (a : Nat → Nat → Int32) (dn pn en qn mz : Nat) (nw lo : Int32) (tr : Int64) (j vj : Nat) (v : Int32) (hM : RM ty L ad g a dn pn en qn mz nw lo tr) (hj9 : j < pn) (hpn : pn ≤ 8) (hvj : a 10 j = nI vj) (hv4 : vj ≤ 4) (hi : ¬ (0 ≤ v.toInt ∧ v.toInt < vj)) : m_E l yX9_isVersion wsX9_isVersion 2 43 D ty [.ref (ad 1000), .int (nI j), .int v] L ad g (some (.int 0)) g := by
  intro sz
  refine Met.ofW (cc := cX9_isVersion) (maxL := 3) (ret := (some .boolean)) (by decide) rfl ?_
  intro p e s m args below meth c s₁ B hml hv
  have hx := B.exec
  have hb := B.bytes
  have hrt := B.returns
  have hts := atoms_spec (ws := wsX9_isVersion) B.pre
  have hown : s.vm.findClass RX9 = some m.cls := findClass_of_methodNamed B.named
  have hlocks := B.notSynchronized
  obtain ⟨rfl, hB⟩ := m_start hv
  generalize va_A (m_w L ad g) sz = A at hB ⊢
  generalize s.heap = H at hB ⊢
  generalize ([] : List Loc) = locs at hB ⊢
  have hl := lv_entry ([.ref (ad 1000), .int (nI j), .int v]) (n := 3) (Nat.le_of_ble_eq_true rfl)
  rw [lg_entry_eq]
  generalize (lg_sl ([.ref (ad 1000), .int (nI j), .int v]) ++ List.replicate (3 - (lg_sl ([.ref (ad 1000), .int (nI j), .int v])).length) Slot.unset).toArray = ls at hl ⊢
  have hl : lv_has ls 3 [(0, .ref (ad 1000)), (1, .int (nI j)), (2, .int v)] := hl
  obtain ⟨hL, h_1000, h_1002, h_1004, h_1005, h_1007, h_1008, h_1009, h_1010, h_1011, h_1012, h_1013, h_1014, h_1015, h_1016, h_1019, h_1020, h_1021, h_1022, h_1024, h_1025, h_1026, h_1027, h_1028, h_1029, h_1030, h_1032⟩ := id hM
  have tI_j : (nI j).toInt = (j : Int) := nI_toInt (by omega)
  have l0 : (0 : Int32).toInt = 0 := by decide
  have hm2 := nI_m1 (n := vj) (by omega)
  refine lv_aload_n hx hb dX9_isVersion_0 rfl (lv_at hl 0 rfl) ?_
  refine lv_iload_n hx hb dX9_isVersion_1 rfl (lv_at hl 1 rfl) ?_
  refine m_callVE (ci := 9) (As := [.int (nI j)]) (rest := []) (c_M_isPaper_t l D ty L ad _ a dn pn en qn mz nw lo tr j hM hj9 hpn) ⟨hx, hb, hml, hown, hts⟩ (cwV 1 hts gX9_isVersion_X9_isPaper rfl rfl rfl (by decide +kernel) ⟨Nat.le_of_ble_eq_true rfl, Nat.le_of_ble_eq_true rfl⟩) hB (hL 1000 (by decide)) h_1000 rfl rfl hl.1 rfl (Nat.le_of_ble_eq_true rfl) dX9_isVersion_2 ⟨Nat.le_of_ble_eq_true rfl, Nat.le_of_ble_eq_true rfl⟩ (fun H locs hB => ?_)
  refine b_if_eq_f 28 hx hb dX9_isVersion_5 (by decide) (by decide) ?_
  refine lv_iload_n hx hb dX9_isVersion_8 rfl (lv_at hl 2 rfl) ?_
  refine lv_iconst (v := 0) hx hb dX9_isVersion_9 (by decide) ?_
  refine lv_aload_n hx hb dX9_isVersion_10 rfl (lv_at hl 0 rfl) ?_
  refine m_get (C := RX9) (T := TX9) (N := 33) (ci := 9) hx hb hts in_X9_isVersion_X9 hown hB (hL 1000 (by decide)) h_1000 rfl 10 (by decide) (hts (.fieldLink RX9 32 "PaperRoomModel" "versions" "[I") (by decide +kernel)) (fun _ h9 => h9) rfl dX9_isVersion_11 ?_
  refine lv_iload_n hx hb dX9_isVersion_14 rfl (lv_at hl 1 rfl) ?_
  refine n_iald hx hb hB (hL 1011 (by decide)) h_1011 j rfl (by omega) (by omega) dX9_isVersion_15 ?_
  refine b_topi (w := nI vj) (hvj) ?_
  refine lv_iconst (v := 1) hx hb dX9_isVersion_16 (by decide) ?_
  refine lv_isub hx hb dX9_isVersion_17 ?_
  refine m_callSE (As := [.int v, .int 0, .int ((nI vj) - 1)]) (rest := []) (c_M_in_f l D ty L ad _ _ _ _ (by omega)) ⟨hx, hb, hml, hown, hts⟩ (va_cwS 3 hts gX9_isVersion_X9_in rfl rfl rfl (by decide +kernel) ⟨Nat.le_of_ble_eq_true rfl, Nat.le_of_ble_eq_true rfl⟩) hB rfl hl.1 rfl (Nat.le_of_ble_eq_true rfl) dX9_isVersion_18 ⟨Nat.le_of_ble_eq_true rfl, Nat.le_of_ble_eq_true rfl⟩ (fun H locs hB => ?_)
  refine b_if_eq_t 28 hx hb dX9_isVersion_21 (by decide) (by decide) ?_
  refine lv_iconst (v := 0) hx hb dX9_isVersion_28 (by decide) ?_
  exact m_zret hx hb hrt hlocks hB (Nat.le_refl _) (Nat.le_refl _) dX9_isVersion_29 rfl ⟨rfl, rfl, rfl, rfl⟩
set_option maxHeartbeats 1000000 in
set_option maxRecDepth 100000 in
theorem c_M_isVersion_p (l : Launch) (D : va_G) (ty : Nat → ClassId) (L : List Nat) (ad : Nat → Nat) (g : Nat → va_E) (a : Nat → Nat → Int32) (dn pn en qn mz : Nat) (nw lo : Int32) (tr : Int64) (i v : Int32) (hM : RM ty L ad g a dn pn en qn mz nw lo tr) (hi : ¬ (0 ≤ i.toInt ∧ i.toInt < pn)) (hpn : pn ≤ 8) : m_E l yX9_isVersion wsX9_isVersion 2 43 D ty [.ref (ad 1000), .int i, .int v] L ad g (some (.int 0)) g := by
  intro sz
  refine Met.ofW (cc := cX9_isVersion) (maxL := 3) (ret := (some .boolean)) (by decide) rfl ?_
  intro p e s m args below meth c s₁ B hml hv
  have hx := B.exec
  have hb := B.bytes
  have hrt := B.returns
  have hts := atoms_spec (ws := wsX9_isVersion) B.pre
  have hown : s.vm.findClass RX9 = some m.cls := findClass_of_methodNamed B.named
  have hlocks := B.notSynchronized
  obtain ⟨rfl, hB⟩ := m_start hv
  generalize va_A (m_w L ad g) sz = A at hB ⊢
  generalize s.heap = H at hB ⊢
  generalize ([] : List Loc) = locs at hB ⊢
  have hl := lv_entry ([.ref (ad 1000), .int i, .int v]) (n := 3) (Nat.le_of_ble_eq_true rfl)
  rw [lg_entry_eq]
  generalize (lg_sl ([.ref (ad 1000), .int i, .int v]) ++ List.replicate (3 - (lg_sl ([.ref (ad 1000), .int i, .int v])).length) Slot.unset).toArray = ls at hl ⊢
  have hl : lv_has ls 3 [(0, .ref (ad 1000)), (1, .int i), (2, .int v)] := hl
  obtain ⟨hL, h_1000, h_1002, h_1004, h_1005, h_1007, h_1008, h_1009, h_1010, h_1011, h_1012, h_1013, h_1014, h_1015, h_1016, h_1019, h_1020, h_1021, h_1022, h_1024, h_1025, h_1026, h_1027, h_1028, h_1029, h_1030, h_1032⟩ := id hM
  refine lv_aload_n hx hb dX9_isVersion_0 rfl (lv_at hl 0 rfl) ?_
  refine lv_iload_n hx hb dX9_isVersion_1 rfl (lv_at hl 1 rfl) ?_
  refine m_callVE (ci := 9) (As := [.int i]) (rest := []) (c_M_isPaper_f l D ty L ad _ a dn pn en qn mz nw lo tr _ hM hi hpn) ⟨hx, hb, hml, hown, hts⟩ (cwV 1 hts gX9_isVersion_X9_isPaper rfl rfl rfl (by decide +kernel) ⟨Nat.le_of_ble_eq_true rfl, Nat.le_of_ble_eq_true rfl⟩) hB (hL 1000 (by decide)) h_1000 rfl rfl hl.1 rfl (Nat.le_of_ble_eq_true rfl) dX9_isVersion_2 ⟨Nat.le_of_ble_eq_true rfl, Nat.le_of_ble_eq_true rfl⟩ (fun H locs hB => ?_)
  refine b_if_eq_t 28 hx hb dX9_isVersion_5 (by decide) (by decide) ?_
  refine lv_iconst (v := 0) hx hb dX9_isVersion_28 (by decide) ?_
  exact m_zret hx hb hrt hlocks hB (Nat.le_refl _) (Nat.le_refl _) dX9_isVersion_29 rfl ⟨rfl, rfl, rfl, rfl⟩
set_option maxRecDepth 20000 in
theorem in_X9_clear_X9 : ∀ w ∈ wsX90, w ∈ wsX9_clear := by decide +kernel
set_option maxHeartbeats 1000000 in
set_option maxRecDepth 100000 in
theorem c_M_clear (l : Launch) (D : va_G) (ty : Nat → ClassId) (L : List Nat) (ad : Nat → Nat) (g : Nat → va_E) (a : Nat → Nat → Int32) (dn pn en qn mz : Nat) (nw lo : Int32) (tr : Int64)  (hM : RM ty L ad g a dn pn en qn mz nw lo tr)  : m_C l yX9_clear wsX9_clear 0 0 0 0 D ty [.ref (ad 1000)] L ad g (fun v1 L1 ad1 g1 => v1 = (some (.int (nI dn))) ∧ L1 = L ∧ ad1 = ad ∧ (∀ x, x < 1000 → g1 x = g x) ∧ RM ty L ad g1 a 0 pn en qn mz nw lo tr) := by
  intro sz
  refine Met.ofW (cc := cX9_clear) (maxL := 2) (ret := (some .int)) (by decide) rfl ?_
  intro p e s m args below meth c s₁ B hml hv
  have hx := B.exec
  have hb := B.bytes
  have hrt := B.returns
  have hts := atoms_spec (ws := wsX9_clear) B.pre
  have hown : s.vm.findClass RX9 = some m.cls := findClass_of_methodNamed B.named
  have hlocks := B.notSynchronized
  obtain ⟨rfl, hB⟩ := m_start hv
  generalize va_A (m_w L ad g) sz = A at hB ⊢
  generalize s.heap = H at hB ⊢
  generalize ([] : List Loc) = locs at hB ⊢
  have hl := lv_entry ([.ref (ad 1000)]) (n := 2) (Nat.le_of_ble_eq_true rfl)
  rw [lg_entry_eq]
  generalize (lg_sl ([.ref (ad 1000)]) ++ List.replicate (2 - (lg_sl ([.ref (ad 1000)])).length) Slot.unset).toArray = ls at hl ⊢
  have hl : lv_has ls 2 [(0, .ref (ad 1000))] := hl
  obtain ⟨hL, h_1000, h_1002, h_1004, h_1005, h_1007, h_1008, h_1009, h_1010, h_1011, h_1012, h_1013, h_1014, h_1015, h_1016, h_1019, h_1020, h_1021, h_1022, h_1024, h_1025, h_1026, h_1027, h_1028, h_1029, h_1030, h_1032⟩ := id hM
  refine lv_aload_n hx hb dX9_clear_0 rfl (lv_at hl 0 rfl) ?_
  refine m_get (C := RX9) (T := TX9) (N := 33) (ci := 9) hx hb hts in_X9_clear_X9 hown hB (hL 1000 (by decide)) h_1000 rfl 0 (by decide) (hts (.fieldLink RX9 101 "PaperRoomModel" "drafted" "I") (by decide +kernel)) (fun _ h9 => h9) rfl dX9_clear_1 ?_
  refine lv_istore_n (lv' := [(1, .int (nI dn)), (0, .ref (ad 1000))]) hx hb dX9_clear_4 rfl hl (by decide) rfl (fun ls hl => ?_)
  refine lv_aload_n hx hb dX9_clear_5 rfl (lv_at hl 1 rfl) ?_
  refine lv_iconst (v := 0) hx hb dX9_clear_6 (by decide) ?_
  refine m_put (C := RX9) (T := TX9) (N := 33) (ci := 9) (v := .int 0) (ft := .int) hx hb hts in_X9_clear_X9 tyX9 tyX9_ok nmX9 hown hB (hL 1000 (by decide)) h_1000 rfl 0 (by decide) (hts (.fieldLink RX9 101 "PaperRoomModel" "drafted" "I") (by decide +kernel)) (fun _ h9 => h9) rfl (by decide +kernel) rfl rfl (Nat.le_of_ble_eq_true rfl) dX9_clear_7 (fun H locs hB => ?_)
  replace hB : m_B D ty A s L ad (va_up g 1000 (.inr (9, [.int 0, .ref (ad 1002), .int nw, .ref (ad 1004), .ref (ad 1005), .int (nI pn), .ref (ad 1007), .ref (ad 1008), .ref (ad 1009), .ref (ad 1010), .ref (ad 1011), .ref (ad 1012), .ref (ad 1013), .ref (ad 1014), .ref (ad 1015), .ref (ad 1016), .int (nI en), .int lo, .ref (ad 1019), .ref (ad 1020), .ref (ad 1021), .ref (ad 1022), .int (nI qn), .ref (ad 1024), .ref (ad 1025), .ref (ad 1026), .ref (ad 1027), .ref (ad 1028), .ref (ad 1029), .ref (ad 1030), .long tr, .ref (ad 1032), .int (nI mz)]))) H locs := hB
  refine lv_iload_n hx hb dX9_clear_10 rfl (lv_at hl 0 rfl) ?_
  exact m_iret hx hb hrt hlocks hB (Nat.le_refl _) (Nat.le_refl _) dX9_clear_11 ⟨rfl, rfl, rfl, (fun x hx => ((va_up_ne _ _ (by omega)).trans rfl)), ⟨hL, (va_up_self _ _ _), ((va_up_ne _ _ (by decide)).trans h_1002), ((va_up_ne _ _ (by decide)).trans h_1004), ((va_up_ne _ _ (by decide)).trans h_1005), ((va_up_ne _ _ (by decide)).trans h_1007), ((va_up_ne _ _ (by decide)).trans h_1008), ((va_up_ne _ _ (by decide)).trans h_1009), ((va_up_ne _ _ (by decide)).trans h_1010), ((va_up_ne _ _ (by decide)).trans h_1011), ((va_up_ne _ _ (by decide)).trans h_1012), ((va_up_ne _ _ (by decide)).trans h_1013), ((va_up_ne _ _ (by decide)).trans h_1014), ((va_up_ne _ _ (by decide)).trans h_1015), ((va_up_ne _ _ (by decide)).trans h_1016), ((va_up_ne _ _ (by decide)).trans h_1019), ((va_up_ne _ _ (by decide)).trans h_1020), ((va_up_ne _ _ (by decide)).trans h_1021), ((va_up_ne _ _ (by decide)).trans h_1022), ((va_up_ne _ _ (by decide)).trans h_1024), ((va_up_ne _ _ (by decide)).trans h_1025), ((va_up_ne _ _ (by decide)).trans h_1026), ((va_up_ne _ _ (by decide)).trans h_1027), ((va_up_ne _ _ (by decide)).trans h_1028), ((va_up_ne _ _ (by decide)).trans h_1029), ((va_up_ne _ _ (by decide)).trans h_1030), ((va_up_ne _ _ (by decide)).trans h_1032)⟩⟩
set_option maxRecDepth 20000 in
theorem in_X9_trace_X9 : ∀ w ∈ wsX90, w ∈ wsX9_trace := by decide +kernel
set_option maxHeartbeats 1000000 in
set_option maxRecDepth 100000 in
theorem c_M_trace (l : Launch) (D : va_G) (ty : Nat → ClassId) (L : List Nat) (ad : Nat → Nat) (g : Nat → va_E) (a : Nat → Nat → Int32) (dn pn en qn mz : Nat) (nw lo : Int32) (tr : Int64)  (hM : RM ty L ad g a dn pn en qn mz nw lo tr)  : m_E l yX9_trace wsX9_trace 0 0 D ty [.ref (ad 1000)] L ad g (some (.long tr)) g := by
  intro sz
  refine Met.ofW (cc := cX9_trace) (maxL := 1) (ret := (some .long)) (by decide) rfl ?_
  intro p e s m args below meth c s₁ B hml hv
  have hx := B.exec
  have hb := B.bytes
  have hrt := B.returns
  have hts := atoms_spec (ws := wsX9_trace) B.pre
  have hown : s.vm.findClass RX9 = some m.cls := findClass_of_methodNamed B.named
  have hlocks := B.notSynchronized
  obtain ⟨rfl, hB⟩ := m_start hv
  generalize va_A (m_w L ad g) sz = A at hB ⊢
  generalize s.heap = H at hB ⊢
  generalize ([] : List Loc) = locs at hB ⊢
  have hl := lv_entry ([.ref (ad 1000)]) (n := 1) (Nat.le_of_ble_eq_true rfl)
  rw [lg_entry_eq]
  generalize (lg_sl ([.ref (ad 1000)]) ++ List.replicate (1 - (lg_sl ([.ref (ad 1000)])).length) Slot.unset).toArray = ls at hl ⊢
  have hl : lv_has ls 1 [(0, .ref (ad 1000))] := hl
  obtain ⟨hL, h_1000, h_1002, h_1004, h_1005, h_1007, h_1008, h_1009, h_1010, h_1011, h_1012, h_1013, h_1014, h_1015, h_1016, h_1019, h_1020, h_1021, h_1022, h_1024, h_1025, h_1026, h_1027, h_1028, h_1029, h_1030, h_1032⟩ := id hM
  refine lv_aload_n hx hb dX9_trace_0 rfl (lv_at hl 0 rfl) ?_
  refine m_get (C := RX9) (T := TX9) (N := 33) (ci := 9) hx hb hts in_X9_trace_X9 hown hB (hL 1000 (by decide)) h_1000 rfl 30 (by decide) (hts (.fieldLink RX9 116 "PaperRoomModel" "trace" "J") (by decide +kernel)) (fun _ h9 => h9) rfl dX9_trace_1 ?_
  exact m_lret hx hb hrt hlocks hB (Nat.le_refl _) (Nat.le_refl _) dX9_trace_4 ⟨rfl, rfl, rfl, rfl⟩
set_option maxRecDepth 20000 in
theorem in_X9_count_X9 : ∀ w ∈ wsX90, w ∈ wsX9_count := by decide +kernel
set_option maxHeartbeats 1000000 in
set_option maxRecDepth 100000 in
theorem c_M_count_0 (l : Launch) (D : va_G) (ty : Nat → ClassId) (L : List Nat) (ad : Nat → Nat) (g : Nat → va_E) (a : Nat → Nat → Int32) (dn pn en qn mz : Nat) (nw lo : Int32) (tr : Int64)  (hM : RM ty L ad g a dn pn en qn mz nw lo tr)  : m_E l yX9_count wsX9_count 0 0 D ty [.ref (ad 1000), .int 0] L ad g (some (.int (nI pn))) g := by
  intro sz
  refine Met.ofW (cc := cX9_count) (maxL := 2) (ret := (some .int)) (by decide) rfl ?_
  intro p e s m args below meth c s₁ B hml hv
  have hx := B.exec
  have hb := B.bytes
  have hrt := B.returns
  have hts := atoms_spec (ws := wsX9_count) B.pre
  have hown : s.vm.findClass RX9 = some m.cls := findClass_of_methodNamed B.named
  have hlocks := B.notSynchronized
  obtain ⟨rfl, hB⟩ := m_start hv
  generalize va_A (m_w L ad g) sz = A at hB ⊢
  generalize s.heap = H at hB ⊢
  generalize ([] : List Loc) = locs at hB ⊢
  have hl := lv_entry ([.ref (ad 1000), .int 0]) (n := 2) (Nat.le_of_ble_eq_true rfl)
  rw [lg_entry_eq]
  generalize (lg_sl ([.ref (ad 1000), .int 0]) ++ List.replicate (2 - (lg_sl ([.ref (ad 1000), .int 0])).length) Slot.unset).toArray = ls at hl ⊢
  have hl : lv_has ls 2 [(0, .ref (ad 1000)), (1, .int 0)] := hl
  obtain ⟨hL, h_1000, h_1002, h_1004, h_1005, h_1007, h_1008, h_1009, h_1010, h_1011, h_1012, h_1013, h_1014, h_1015, h_1016, h_1019, h_1020, h_1021, h_1022, h_1024, h_1025, h_1026, h_1027, h_1028, h_1029, h_1030, h_1032⟩ := id hM
  refine lv_iload_n hx hb dX9_count_0 rfl (lv_at hl 1 rfl) ?_
  refine lv_tableIn (off := 39) (tgt := 40) hx hb dX9_count_1 (by decide) (by decide) (by decide) (by decide) ?_
  refine lv_aload_n hx hb dX9_count_40 rfl (lv_at hl 0 rfl) ?_
  refine m_get (C := RX9) (T := TX9) (N := 33) (ci := 9) hx hb hts in_X9_count_X9 hown hB (hL 1000 (by decide)) h_1000 rfl 5 (by decide) (hts (.fieldLink RX9 90 "PaperRoomModel" "papers" "I") (by decide +kernel)) (fun _ h9 => h9) rfl dX9_count_41 ?_
  exact m_iret hx hb hrt hlocks hB (Nat.le_refl _) (Nat.le_refl _) dX9_count_44 ⟨rfl, rfl, rfl, rfl⟩
set_option maxHeartbeats 1000000 in
set_option maxRecDepth 100000 in
theorem c_M_count_1 (l : Launch) (D : va_G) (ty : Nat → ClassId) (L : List Nat) (ad : Nat → Nat) (g : Nat → va_E) (a : Nat → Nat → Int32) (dn pn en qn mz : Nat) (nw lo : Int32) (tr : Int64)  (hM : RM ty L ad g a dn pn en qn mz nw lo tr)  : m_E l yX9_count wsX9_count 0 0 D ty [.ref (ad 1000), .int 1] L ad g (some (.int nw)) g := by
  intro sz
  refine Met.ofW (cc := cX9_count) (maxL := 2) (ret := (some .int)) (by decide) rfl ?_
  intro p e s m args below meth c s₁ B hml hv
  have hx := B.exec
  have hb := B.bytes
  have hrt := B.returns
  have hts := atoms_spec (ws := wsX9_count) B.pre
  have hown : s.vm.findClass RX9 = some m.cls := findClass_of_methodNamed B.named
  have hlocks := B.notSynchronized
  obtain ⟨rfl, hB⟩ := m_start hv
  generalize va_A (m_w L ad g) sz = A at hB ⊢
  generalize s.heap = H at hB ⊢
  generalize ([] : List Loc) = locs at hB ⊢
  have hl := lv_entry ([.ref (ad 1000), .int 1]) (n := 2) (Nat.le_of_ble_eq_true rfl)
  rw [lg_entry_eq]
  generalize (lg_sl ([.ref (ad 1000), .int 1]) ++ List.replicate (2 - (lg_sl ([.ref (ad 1000), .int 1])).length) Slot.unset).toArray = ls at hl ⊢
  have hl : lv_has ls 2 [(0, .ref (ad 1000)), (1, .int 1)] := hl
  obtain ⟨hL, h_1000, h_1002, h_1004, h_1005, h_1007, h_1008, h_1009, h_1010, h_1011, h_1012, h_1013, h_1014, h_1015, h_1016, h_1019, h_1020, h_1021, h_1022, h_1024, h_1025, h_1026, h_1027, h_1028, h_1029, h_1030, h_1032⟩ := id hM
  refine lv_iload_n hx hb dX9_count_0 rfl (lv_at hl 1 rfl) ?_
  refine lv_tableIn (off := 44) (tgt := 45) hx hb dX9_count_1 (by decide) (by decide) (by decide) (by decide) ?_
  refine lv_aload_n hx hb dX9_count_45 rfl (lv_at hl 0 rfl) ?_
  refine m_get (C := RX9) (T := TX9) (N := 33) (ci := 9) hx hb hts in_X9_count_X9 hown hB (hL 1000 (by decide)) h_1000 rfl 2 (by decide) (hts (.fieldLink RX9 86 "PaperRoomModel" "now" "I") (by decide +kernel)) (fun _ h9 => h9) rfl dX9_count_46 ?_
  exact m_iret hx hb hrt hlocks hB (Nat.le_refl _) (Nat.le_refl _) dX9_count_49 ⟨rfl, rfl, rfl, rfl⟩
set_option maxHeartbeats 1000000 in
set_option maxRecDepth 100000 in
theorem c_M_count_2 (l : Launch) (D : va_G) (ty : Nat → ClassId) (L : List Nat) (ad : Nat → Nat) (g : Nat → va_E) (a : Nat → Nat → Int32) (dn pn en qn mz : Nat) (nw lo : Int32) (tr : Int64)  (hM : RM ty L ad g a dn pn en qn mz nw lo tr)  : m_E l yX9_count wsX9_count 0 0 D ty [.ref (ad 1000), .int 2] L ad g (some (.int (nI dn))) g := by
  intro sz
  refine Met.ofW (cc := cX9_count) (maxL := 2) (ret := (some .int)) (by decide) rfl ?_
  intro p e s m args below meth c s₁ B hml hv
  have hx := B.exec
  have hb := B.bytes
  have hrt := B.returns
  have hts := atoms_spec (ws := wsX9_count) B.pre
  have hown : s.vm.findClass RX9 = some m.cls := findClass_of_methodNamed B.named
  have hlocks := B.notSynchronized
  obtain ⟨rfl, hB⟩ := m_start hv
  generalize va_A (m_w L ad g) sz = A at hB ⊢
  generalize s.heap = H at hB ⊢
  generalize ([] : List Loc) = locs at hB ⊢
  have hl := lv_entry ([.ref (ad 1000), .int 2]) (n := 2) (Nat.le_of_ble_eq_true rfl)
  rw [lg_entry_eq]
  generalize (lg_sl ([.ref (ad 1000), .int 2]) ++ List.replicate (2 - (lg_sl ([.ref (ad 1000), .int 2])).length) Slot.unset).toArray = ls at hl ⊢
  have hl : lv_has ls 2 [(0, .ref (ad 1000)), (1, .int 2)] := hl
  obtain ⟨hL, h_1000, h_1002, h_1004, h_1005, h_1007, h_1008, h_1009, h_1010, h_1011, h_1012, h_1013, h_1014, h_1015, h_1016, h_1019, h_1020, h_1021, h_1022, h_1024, h_1025, h_1026, h_1027, h_1028, h_1029, h_1030, h_1032⟩ := id hM
  refine lv_iload_n hx hb dX9_count_0 rfl (lv_at hl 1 rfl) ?_
  refine lv_tableIn (off := 49) (tgt := 50) hx hb dX9_count_1 (by decide) (by decide) (by decide) (by decide) ?_
  refine lv_aload_n hx hb dX9_count_50 rfl (lv_at hl 0 rfl) ?_
  refine m_get (C := RX9) (T := TX9) (N := 33) (ci := 9) hx hb hts in_X9_count_X9 hown hB (hL 1000 (by decide)) h_1000 rfl 0 (by decide) (hts (.fieldLink RX9 101 "PaperRoomModel" "drafted" "I") (by decide +kernel)) (fun _ h9 => h9) rfl dX9_count_51 ?_
  exact m_iret hx hb hrt hlocks hB (Nat.le_refl _) (Nat.le_refl _) dX9_count_54 ⟨rfl, rfl, rfl, rfl⟩
set_option maxHeartbeats 1000000 in
set_option maxRecDepth 100000 in
theorem c_M_count_3 (l : Launch) (D : va_G) (ty : Nat → ClassId) (L : List Nat) (ad : Nat → Nat) (g : Nat → va_E) (a : Nat → Nat → Int32) (dn pn en qn mz : Nat) (nw lo : Int32) (tr : Int64)  (hM : RM ty L ad g a dn pn en qn mz nw lo tr)  : m_E l yX9_count wsX9_count 0 0 D ty [.ref (ad 1000), .int 3] L ad g (some (.int (nI en))) g := by
  intro sz
  refine Met.ofW (cc := cX9_count) (maxL := 2) (ret := (some .int)) (by decide) rfl ?_
  intro p e s m args below meth c s₁ B hml hv
  have hx := B.exec
  have hb := B.bytes
  have hrt := B.returns
  have hts := atoms_spec (ws := wsX9_count) B.pre
  have hown : s.vm.findClass RX9 = some m.cls := findClass_of_methodNamed B.named
  have hlocks := B.notSynchronized
  obtain ⟨rfl, hB⟩ := m_start hv
  generalize va_A (m_w L ad g) sz = A at hB ⊢
  generalize s.heap = H at hB ⊢
  generalize ([] : List Loc) = locs at hB ⊢
  have hl := lv_entry ([.ref (ad 1000), .int 3]) (n := 2) (Nat.le_of_ble_eq_true rfl)
  rw [lg_entry_eq]
  generalize (lg_sl ([.ref (ad 1000), .int 3]) ++ List.replicate (2 - (lg_sl ([.ref (ad 1000), .int 3])).length) Slot.unset).toArray = ls at hl ⊢
  have hl : lv_has ls 2 [(0, .ref (ad 1000)), (1, .int 3)] := hl
  obtain ⟨hL, h_1000, h_1002, h_1004, h_1005, h_1007, h_1008, h_1009, h_1010, h_1011, h_1012, h_1013, h_1014, h_1015, h_1016, h_1019, h_1020, h_1021, h_1022, h_1024, h_1025, h_1026, h_1027, h_1028, h_1029, h_1030, h_1032⟩ := id hM
  refine lv_iload_n hx hb dX9_count_0 rfl (lv_at hl 1 rfl) ?_
  refine lv_tableIn (off := 54) (tgt := 55) hx hb dX9_count_1 (by decide) (by decide) (by decide) (by decide) ?_
  refine lv_aload_n hx hb dX9_count_55 rfl (lv_at hl 0 rfl) ?_
  refine m_get (C := RX9) (T := TX9) (N := 33) (ci := 9) hx hb hts in_X9_count_X9 hown hB (hL 1000 (by decide)) h_1000 rfl 16 (by decide) (hts (.fieldLink RX9 134 "PaperRoomModel" "entries" "I") (by decide +kernel)) (fun _ h9 => h9) rfl dX9_count_56 ?_
  exact m_iret hx hb hrt hlocks hB (Nat.le_refl _) (Nat.le_refl _) dX9_count_59 ⟨rfl, rfl, rfl, rfl⟩
set_option maxHeartbeats 1000000 in
set_option maxRecDepth 100000 in
theorem c_M_count_4 (l : Launch) (D : va_G) (ty : Nat → ClassId) (L : List Nat) (ad : Nat → Nat) (g : Nat → va_E) (a : Nat → Nat → Int32) (dn pn en qn mz : Nat) (nw lo : Int32) (tr : Int64)  (hM : RM ty L ad g a dn pn en qn mz nw lo tr)  : m_E l yX9_count wsX9_count 0 0 D ty [.ref (ad 1000), .int 4] L ad g (some (.int lo)) g := by
  intro sz
  refine Met.ofW (cc := cX9_count) (maxL := 2) (ret := (some .int)) (by decide) rfl ?_
  intro p e s m args below meth c s₁ B hml hv
  have hx := B.exec
  have hb := B.bytes
  have hrt := B.returns
  have hts := atoms_spec (ws := wsX9_count) B.pre
  have hown : s.vm.findClass RX9 = some m.cls := findClass_of_methodNamed B.named
  have hlocks := B.notSynchronized
  obtain ⟨rfl, hB⟩ := m_start hv
  generalize va_A (m_w L ad g) sz = A at hB ⊢
  generalize s.heap = H at hB ⊢
  generalize ([] : List Loc) = locs at hB ⊢
  have hl := lv_entry ([.ref (ad 1000), .int 4]) (n := 2) (Nat.le_of_ble_eq_true rfl)
  rw [lg_entry_eq]
  generalize (lg_sl ([.ref (ad 1000), .int 4]) ++ List.replicate (2 - (lg_sl ([.ref (ad 1000), .int 4])).length) Slot.unset).toArray = ls at hl ⊢
  have hl : lv_has ls 2 [(0, .ref (ad 1000)), (1, .int 4)] := hl
  obtain ⟨hL, h_1000, h_1002, h_1004, h_1005, h_1007, h_1008, h_1009, h_1010, h_1011, h_1012, h_1013, h_1014, h_1015, h_1016, h_1019, h_1020, h_1021, h_1022, h_1024, h_1025, h_1026, h_1027, h_1028, h_1029, h_1030, h_1032⟩ := id hM
  refine lv_iload_n hx hb dX9_count_0 rfl (lv_at hl 1 rfl) ?_
  refine lv_tableIn (off := 59) (tgt := 60) hx hb dX9_count_1 (by decide) (by decide) (by decide) (by decide) ?_
  refine lv_aload_n hx hb dX9_count_60 rfl (lv_at hl 0 rfl) ?_
  refine m_get (C := RX9) (T := TX9) (N := 33) (ci := 9) hx hb hts in_X9_count_X9 hown hB (hL 1000 (by decide)) h_1000 rfl 17 (by decide) (hts (.fieldLink RX9 137 "PaperRoomModel" "lost" "I") (by decide +kernel)) (fun _ h9 => h9) rfl dX9_count_61 ?_
  exact m_iret hx hb hrt hlocks hB (Nat.le_refl _) (Nat.le_refl _) dX9_count_64 ⟨rfl, rfl, rfl, rfl⟩
set_option maxHeartbeats 1000000 in
set_option maxRecDepth 100000 in
theorem c_M_count_5 (l : Launch) (D : va_G) (ty : Nat → ClassId) (L : List Nat) (ad : Nat → Nat) (g : Nat → va_E) (a : Nat → Nat → Int32) (dn pn en qn mz : Nat) (nw lo : Int32) (tr : Int64)  (hM : RM ty L ad g a dn pn en qn mz nw lo tr)  : m_E l yX9_count wsX9_count 0 0 D ty [.ref (ad 1000), .int 5] L ad g (some (.int (nI qn))) g := by
  intro sz
  refine Met.ofW (cc := cX9_count) (maxL := 2) (ret := (some .int)) (by decide) rfl ?_
  intro p e s m args below meth c s₁ B hml hv
  have hx := B.exec
  have hb := B.bytes
  have hrt := B.returns
  have hts := atoms_spec (ws := wsX9_count) B.pre
  have hown : s.vm.findClass RX9 = some m.cls := findClass_of_methodNamed B.named
  have hlocks := B.notSynchronized
  obtain ⟨rfl, hB⟩ := m_start hv
  generalize va_A (m_w L ad g) sz = A at hB ⊢
  generalize s.heap = H at hB ⊢
  generalize ([] : List Loc) = locs at hB ⊢
  have hl := lv_entry ([.ref (ad 1000), .int 5]) (n := 2) (Nat.le_of_ble_eq_true rfl)
  rw [lg_entry_eq]
  generalize (lg_sl ([.ref (ad 1000), .int 5]) ++ List.replicate (2 - (lg_sl ([.ref (ad 1000), .int 5])).length) Slot.unset).toArray = ls at hl ⊢
  have hl : lv_has ls 2 [(0, .ref (ad 1000)), (1, .int 5)] := hl
  obtain ⟨hL, h_1000, h_1002, h_1004, h_1005, h_1007, h_1008, h_1009, h_1010, h_1011, h_1012, h_1013, h_1014, h_1015, h_1016, h_1019, h_1020, h_1021, h_1022, h_1024, h_1025, h_1026, h_1027, h_1028, h_1029, h_1030, h_1032⟩ := id hM
  refine lv_iload_n hx hb dX9_count_0 rfl (lv_at hl 1 rfl) ?_
  refine lv_tableIn (off := 64) (tgt := 65) hx hb dX9_count_1 (by decide) (by decide) (by decide) (by decide) ?_
  refine lv_aload_n hx hb dX9_count_65 rfl (lv_at hl 0 rfl) ?_
  refine m_get (C := RX9) (T := TX9) (N := 33) (ci := 9) hx hb hts in_X9_count_X9 hown hB (hL 1000 (by decide)) h_1000 rfl 22 (by decide) (hts (.fieldLink RX9 153 "PaperRoomModel" "questions" "I") (by decide +kernel)) (fun _ h9 => h9) rfl dX9_count_66 ?_
  exact m_iret hx hb hrt hlocks hB (Nat.le_refl _) (Nat.le_refl _) dX9_count_69 ⟨rfl, rfl, rfl, rfl⟩
set_option maxHeartbeats 1000000 in
set_option maxRecDepth 100000 in
theorem c_M_count_x (l : Launch) (D : va_G) (ty : Nat → ClassId) (L : List Nat) (ad : Nat → Nat) (g : Nat → va_E) (a : Nat → Nat → Int32) (dn pn en qn mz : Nat) (nw lo : Int32) (tr : Int64) (w : Int32) (hM : RM ty L ad g a dn pn en qn mz nw lo tr) (hw : w.toInt < 0 ∨ 5 < w.toInt) : m_E l yX9_count wsX9_count 0 0 D ty [.ref (ad 1000), .int w] L ad g (some (.int (-1))) g := by
  intro sz
  refine Met.ofW (cc := cX9_count) (maxL := 2) (ret := (some .int)) (by decide) rfl ?_
  intro p e s m args below meth c s₁ B hml hv
  have hx := B.exec
  have hb := B.bytes
  have hrt := B.returns
  have hts := atoms_spec (ws := wsX9_count) B.pre
  have hown : s.vm.findClass RX9 = some m.cls := findClass_of_methodNamed B.named
  have hlocks := B.notSynchronized
  obtain ⟨rfl, hB⟩ := m_start hv
  generalize va_A (m_w L ad g) sz = A at hB ⊢
  generalize s.heap = H at hB ⊢
  generalize ([] : List Loc) = locs at hB ⊢
  have hl := lv_entry ([.ref (ad 1000), .int w]) (n := 2) (Nat.le_of_ble_eq_true rfl)
  rw [lg_entry_eq]
  generalize (lg_sl ([.ref (ad 1000), .int w]) ++ List.replicate (2 - (lg_sl ([.ref (ad 1000), .int w])).length) Slot.unset).toArray = ls at hl ⊢
  have hl : lv_has ls 2 [(0, .ref (ad 1000)), (1, .int w)] := hl
  obtain ⟨hL, h_1000, h_1002, h_1004, h_1005, h_1007, h_1008, h_1009, h_1010, h_1011, h_1012, h_1013, h_1014, h_1015, h_1016, h_1019, h_1020, h_1021, h_1022, h_1024, h_1025, h_1026, h_1027, h_1028, h_1029, h_1030, h_1032⟩ := id hM
  refine lv_iload_n hx hb dX9_count_0 rfl (lv_at hl 1 rfl) ?_
  refine lv_tableOut (tgt := 70) hx hb dX9_count_1 (by omega) (by decide) ?_
  refine lv_iconst (v := (-1)) hx hb dX9_count_70 (by decide) ?_
  exact m_iret hx hb hrt hlocks hB (Nat.le_refl _) (Nat.le_refl _) dX9_count_71 ⟨rfl, rfl, rfl, rfl⟩
set_option maxHeartbeats 1000000 in
set_option maxRecDepth 100000 in
theorem c_M_withdraw_bad (l : Launch) (D : va_G) (ty : Nat → ClassId) (L : List Nat) (ad : Nat → Nat) (g : Nat → va_E) (a : Nat → Nat → Int32) (dn pn en qn mz : Nat) (nw lo : Int32) (tr : Int64) (i : Int32) (hM : RM ty L ad g a dn pn en qn mz nw lo tr) (hi : ¬ (0 ≤ i.toInt ∧ i.toInt < pn)) (hpn : pn ≤ 8) : m_E l yX9_withdraw wsX9_withdraw 2 43 D ty [.ref (ad 1000), .int i] L ad g (some (.int (-1))) g := by
  intro sz
  refine Met.ofW (cc := cX9_withdraw) (maxL := 2) (ret := (some .int)) (by decide) rfl ?_
  intro p e s m args below meth c s₁ B hml hv
  have hx := B.exec
  have hb := B.bytes
  have hrt := B.returns
  have hts := atoms_spec (ws := wsX9_withdraw) B.pre
  have hown : s.vm.findClass RX9 = some m.cls := findClass_of_methodNamed B.named
  have hlocks := B.notSynchronized
  obtain ⟨rfl, hB⟩ := m_start hv
  generalize va_A (m_w L ad g) sz = A at hB ⊢
  generalize s.heap = H at hB ⊢
  generalize ([] : List Loc) = locs at hB ⊢
  have hl := lv_entry ([.ref (ad 1000), .int i]) (n := 2) (Nat.le_of_ble_eq_true rfl)
  rw [lg_entry_eq]
  generalize (lg_sl ([.ref (ad 1000), .int i]) ++ List.replicate (2 - (lg_sl ([.ref (ad 1000), .int i])).length) Slot.unset).toArray = ls at hl ⊢
  have hl : lv_has ls 2 [(0, .ref (ad 1000)), (1, .int i)] := hl
  obtain ⟨hL, h_1000, h_1002, h_1004, h_1005, h_1007, h_1008, h_1009, h_1010, h_1011, h_1012, h_1013, h_1014, h_1015, h_1016, h_1019, h_1020, h_1021, h_1022, h_1024, h_1025, h_1026, h_1027, h_1028, h_1029, h_1030, h_1032⟩ := id hM
  refine lv_aload_n hx hb dX9_withdraw_0 rfl (lv_at hl 0 rfl) ?_
  refine lv_iload_n hx hb dX9_withdraw_1 rfl (lv_at hl 1 rfl) ?_
  refine m_callVE (ci := 9) (As := [.int i]) (rest := []) (c_M_isPaper_f l D ty L ad _ a dn pn en qn mz nw lo tr _ hM hi hpn) ⟨hx, hb, hml, hown, hts⟩ (cwV 1 hts gX9_withdraw_X9_isPaper rfl rfl rfl (by decide +kernel) ⟨Nat.le_of_ble_eq_true rfl, Nat.le_of_ble_eq_true rfl⟩) hB (hL 1000 (by decide)) h_1000 rfl rfl hl.1 rfl (Nat.le_of_ble_eq_true rfl) dX9_withdraw_2 ⟨Nat.le_of_ble_eq_true rfl, Nat.le_of_ble_eq_true rfl⟩ (fun H locs hB => ?_)
  refine b_if_ne_f 10 hx hb dX9_withdraw_5 (by decide) (by decide) ?_
  refine lv_iconst (v := (-1)) hx hb dX9_withdraw_8 (by decide) ?_
  exact m_iret hx hb hrt hlocks hB (Nat.le_refl _) (Nat.le_refl _) dX9_withdraw_9 ⟨rfl, rfl, rfl, rfl⟩
set_option maxRecDepth 20000 in
theorem in_X9_withdraw_X9 : ∀ w ∈ wsX90, w ∈ wsX9_withdraw := by decide +kernel
set_option maxHeartbeats 1000000 in
set_option maxRecDepth 100000 in
theorem c_M_withdraw_state (l : Launch) (D : va_G) (ty : Nat → ClassId) (L : List Nat) (ad : Nat → Nat) (g : Nat → va_E) (a : Nat → Nat → Int32) (dn pn en qn mz : Nat) (nw lo : Int32) (tr : Int64) (j : Nat) (hM : RM ty L ad g a dn pn en qn mz nw lo tr) (hj9 : j < pn) (hpn : pn ≤ 8) (hw : a 9 j = 1) : m_E l yX9_withdraw wsX9_withdraw 2 43 D ty [.ref (ad 1000), .int (nI j)] L ad g (some (.int (-2))) g := by
  intro sz
  refine Met.ofW (cc := cX9_withdraw) (maxL := 2) (ret := (some .int)) (by decide) rfl ?_
  intro p e s m args below meth c s₁ B hml hv
  have hx := B.exec
  have hb := B.bytes
  have hrt := B.returns
  have hts := atoms_spec (ws := wsX9_withdraw) B.pre
  have hown : s.vm.findClass RX9 = some m.cls := findClass_of_methodNamed B.named
  have hlocks := B.notSynchronized
  obtain ⟨rfl, hB⟩ := m_start hv
  generalize va_A (m_w L ad g) sz = A at hB ⊢
  generalize s.heap = H at hB ⊢
  generalize ([] : List Loc) = locs at hB ⊢
  have hl := lv_entry ([.ref (ad 1000), .int (nI j)]) (n := 2) (Nat.le_of_ble_eq_true rfl)
  rw [lg_entry_eq]
  generalize (lg_sl ([.ref (ad 1000), .int (nI j)]) ++ List.replicate (2 - (lg_sl ([.ref (ad 1000), .int (nI j)])).length) Slot.unset).toArray = ls at hl ⊢
  have hl : lv_has ls 2 [(0, .ref (ad 1000)), (1, .int (nI j))] := hl
  obtain ⟨hL, h_1000, h_1002, h_1004, h_1005, h_1007, h_1008, h_1009, h_1010, h_1011, h_1012, h_1013, h_1014, h_1015, h_1016, h_1019, h_1020, h_1021, h_1022, h_1024, h_1025, h_1026, h_1027, h_1028, h_1029, h_1030, h_1032⟩ := id hM
  refine lv_aload_n hx hb dX9_withdraw_0 rfl (lv_at hl 0 rfl) ?_
  refine lv_iload_n hx hb dX9_withdraw_1 rfl (lv_at hl 1 rfl) ?_
  refine m_callVE (ci := 9) (As := [.int (nI j)]) (rest := []) (c_M_isPaper_t l D ty L ad _ a dn pn en qn mz nw lo tr j hM hj9 hpn) ⟨hx, hb, hml, hown, hts⟩ (cwV 1 hts gX9_withdraw_X9_isPaper rfl rfl rfl (by decide +kernel) ⟨Nat.le_of_ble_eq_true rfl, Nat.le_of_ble_eq_true rfl⟩) hB (hL 1000 (by decide)) h_1000 rfl rfl hl.1 rfl (Nat.le_of_ble_eq_true rfl) dX9_withdraw_2 ⟨Nat.le_of_ble_eq_true rfl, Nat.le_of_ble_eq_true rfl⟩ (fun H locs hB => ?_)
  refine b_if_ne_t 10 hx hb dX9_withdraw_5 (by decide) (by decide) ?_
  refine lv_aload_n hx hb dX9_withdraw_10 rfl (lv_at hl 0 rfl) ?_
  refine m_get (C := RX9) (T := TX9) (N := 33) (ci := 9) hx hb hts in_X9_withdraw_X9 hown hB (hL 1000 (by decide)) h_1000 rfl 9 (by decide) (hts (.fieldLink RX9 28 "PaperRoomModel" "isWithdrawn" "[Z") (by decide +kernel)) (fun _ h9 => h9) rfl dX9_withdraw_11 ?_
  refine lv_iload_n hx hb dX9_withdraw_14 rfl (lv_at hl 1 rfl) ?_
  refine n_zald hx hb hB (hL 1010 (by decide)) h_1010 j rfl (by omega) (by omega) dX9_withdraw_15 ?_
  refine b_if_eq_f 22 hx hb dX9_withdraw_16 (by decide) (by rw [hw]; decide) ?_
  refine lv_bipush (v := (-2)) hx hb dX9_withdraw_19 (by decide) ?_
  exact m_iret hx hb hrt hlocks hB (Nat.le_refl _) (Nat.le_refl _) dX9_withdraw_21 ⟨rfl, rfl, rfl, rfl⟩
set_option maxHeartbeats 1000000 in
set_option maxRecDepth 100000 in
theorem c_M_withdraw_ok (l : Launch) (D : va_G) (ty : Nat → ClassId) (L : List Nat) (ad : Nat → Nat) (g : Nat → va_E) (a : Nat → Nat → Int32) (dn pn en qn mz : Nat) (nw lo : Int32) (tr : Int64) (j : Nat) (hM : RM ty L ad g a dn pn en qn mz nw lo tr) (hj9 : j < pn) (hpn : pn ≤ 8) (hw : a 9 j = 0) : m_C l yX9_withdraw wsX9_withdraw 2 43 0 0 D ty [.ref (ad 1000), .int (nI j)] L ad g (fun v1 L1 ad1 g1 => v1 = (some (.int 1)) ∧ L1 = L ∧ ad1 = ad ∧ (∀ x, x < 1000 → g1 x = g x) ∧ RM ty L ad g1 (va_up a 9 (upd (a 9) j (vp_nar .boolean 1))) dn pn en qn mz nw lo tr) := by
  intro sz
  refine Met.ofW (cc := cX9_withdraw) (maxL := 2) (ret := (some .int)) (by decide) rfl ?_
  intro p e s m args below meth c s₁ B hml hv
  have hx := B.exec
  have hb := B.bytes
  have hrt := B.returns
  have hts := atoms_spec (ws := wsX9_withdraw) B.pre
  have hown : s.vm.findClass RX9 = some m.cls := findClass_of_methodNamed B.named
  have hlocks := B.notSynchronized
  obtain ⟨rfl, hB⟩ := m_start hv
  generalize va_A (m_w L ad g) sz = A at hB ⊢
  generalize s.heap = H at hB ⊢
  generalize ([] : List Loc) = locs at hB ⊢
  have hl := lv_entry ([.ref (ad 1000), .int (nI j)]) (n := 2) (Nat.le_of_ble_eq_true rfl)
  rw [lg_entry_eq]
  generalize (lg_sl ([.ref (ad 1000), .int (nI j)]) ++ List.replicate (2 - (lg_sl ([.ref (ad 1000), .int (nI j)])).length) Slot.unset).toArray = ls at hl ⊢
  have hl : lv_has ls 2 [(0, .ref (ad 1000)), (1, .int (nI j))] := hl
  obtain ⟨hL, h_1000, h_1002, h_1004, h_1005, h_1007, h_1008, h_1009, h_1010, h_1011, h_1012, h_1013, h_1014, h_1015, h_1016, h_1019, h_1020, h_1021, h_1022, h_1024, h_1025, h_1026, h_1027, h_1028, h_1029, h_1030, h_1032⟩ := id hM
  refine lv_aload_n hx hb dX9_withdraw_0 rfl (lv_at hl 0 rfl) ?_
  refine lv_iload_n hx hb dX9_withdraw_1 rfl (lv_at hl 1 rfl) ?_
  refine m_callVE (ci := 9) (As := [.int (nI j)]) (rest := []) (c_M_isPaper_t l D ty L ad _ a dn pn en qn mz nw lo tr j hM hj9 hpn) ⟨hx, hb, hml, hown, hts⟩ (cwV 1 hts gX9_withdraw_X9_isPaper rfl rfl rfl (by decide +kernel) ⟨Nat.le_of_ble_eq_true rfl, Nat.le_of_ble_eq_true rfl⟩) hB (hL 1000 (by decide)) h_1000 rfl rfl hl.1 rfl (Nat.le_of_ble_eq_true rfl) dX9_withdraw_2 ⟨Nat.le_of_ble_eq_true rfl, Nat.le_of_ble_eq_true rfl⟩ (fun H locs hB => ?_)
  refine b_if_ne_t 10 hx hb dX9_withdraw_5 (by decide) (by decide) ?_
  refine lv_aload_n hx hb dX9_withdraw_10 rfl (lv_at hl 0 rfl) ?_
  refine m_get (C := RX9) (T := TX9) (N := 33) (ci := 9) hx hb hts in_X9_withdraw_X9 hown hB (hL 1000 (by decide)) h_1000 rfl 9 (by decide) (hts (.fieldLink RX9 28 "PaperRoomModel" "isWithdrawn" "[Z") (by decide +kernel)) (fun _ h9 => h9) rfl dX9_withdraw_11 ?_
  refine lv_iload_n hx hb dX9_withdraw_14 rfl (lv_at hl 1 rfl) ?_
  refine n_zald hx hb hB (hL 1010 (by decide)) h_1010 j rfl (by omega) (by omega) dX9_withdraw_15 ?_
  refine b_if_eq_t 22 hx hb dX9_withdraw_16 (by decide) (by rw [hw]; decide) ?_
  refine lv_aload_n hx hb dX9_withdraw_22 rfl (lv_at hl 0 rfl) ?_
  refine m_get (C := RX9) (T := TX9) (N := 33) (ci := 9) hx hb hts in_X9_withdraw_X9 hown hB (hL 1000 (by decide)) h_1000 rfl 9 (by decide) (hts (.fieldLink RX9 28 "PaperRoomModel" "isWithdrawn" "[Z") (by decide +kernel)) (fun _ h9 => h9) rfl dX9_withdraw_23 ?_
  refine lv_iload_n hx hb dX9_withdraw_26 rfl (lv_at hl 1 rfl) ?_
  refine lv_iconst (v := 1) hx hb dX9_withdraw_27 (by decide) ?_
  refine n_zast hx hb hB (hL 1010 (by decide)) h_1010 j rfl (by omega) (by omega) dX9_withdraw_28 (fun H locs hB => ?_)
  replace hB : m_B D ty A s L ad (va_up g 1010 (.inl (ty 3, 8, .inl (upd (a 9) j (vp_nar .boolean 1))))) H locs := hB
  refine lv_iconst (v := 1) hx hb dX9_withdraw_29 (by decide) ?_
  exact m_iret hx hb hrt hlocks hB (Nat.le_refl _) (Nat.le_refl _) dX9_withdraw_30 ⟨rfl, rfl, rfl, (fun x hx => ((va_up_ne _ _ (by omega)).trans rfl)), ⟨hL, ((va_up_ne _ _ (by decide)).trans h_1000), ((va_up_ne _ _ (by decide)).trans h_1002), ((va_up_ne _ _ (by decide)).trans h_1004), ((va_up_ne _ _ (by decide)).trans h_1005), ((va_up_ne _ _ (by decide)).trans h_1007), ((va_up_ne _ _ (by decide)).trans h_1008), ((va_up_ne _ _ (by decide)).trans h_1009), (va_up_self _ _ _), ((va_up_ne _ _ (by decide)).trans h_1011), ((va_up_ne _ _ (by decide)).trans h_1012), ((va_up_ne _ _ (by decide)).trans h_1013), ((va_up_ne _ _ (by decide)).trans h_1014), ((va_up_ne _ _ (by decide)).trans h_1015), ((va_up_ne _ _ (by decide)).trans h_1016), ((va_up_ne _ _ (by decide)).trans h_1019), ((va_up_ne _ _ (by decide)).trans h_1020), ((va_up_ne _ _ (by decide)).trans h_1021), ((va_up_ne _ _ (by decide)).trans h_1022), ((va_up_ne _ _ (by decide)).trans h_1024), ((va_up_ne _ _ (by decide)).trans h_1025), ((va_up_ne _ _ (by decide)).trans h_1026), ((va_up_ne _ _ (by decide)).trans h_1027), ((va_up_ne _ _ (by decide)).trans h_1028), ((va_up_ne _ _ (by decide)).trans h_1029), ((va_up_ne _ _ (by decide)).trans h_1030), ((va_up_ne _ _ (by decide)).trans h_1032)⟩⟩
