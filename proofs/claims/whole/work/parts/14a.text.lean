set_option maxRecDepth 20000 in
theorem in_X7_length_X7 : ∀ w ∈ wsX70, w ∈ wsX7_length := by decide +kernel
set_option maxHeartbeats 1000000 in
set_option maxRecDepth 100000 in
theorem c_Text_length (l : Launch) (D : va_G) (ty : Nat → ClassId) (L : List Nat) (ad : Nat → Nat) (g : Nat → va_E) (t ro a bl n : Nat) (m_t : t ∈ L) (m_ro : ro ∈ L) (h_t : g t = .inr (7, [.ref (ad ro), .ref (ad bl)])) (h_ro : g ro = .inr (5, [.ref (ad a), .int (nI n)])) : m_E l yX7_length wsX7_length 1 20 D ty [.ref (ad t)] L ad g (some (.int (nI n))) g := by
  intro sz
  refine Met.ofW (cc := cX7_length) (maxL := 1) (ret := (some .int)) (by decide) rfl ?_
  intro p e s m args below meth c s₁ B hml hv
  have hx := B.exec
  have hb := B.bytes
  have hrt := B.returns
  have hts := atoms_spec (ws := wsX7_length) B.pre
  have hown : s.vm.findClass RX7 = some m.cls := findClass_of_methodNamed B.named
  have hlocks := B.notSynchronized
  obtain ⟨rfl, hB⟩ := m_start hv
  generalize va_A (m_w L ad g) sz = A at hB ⊢
  generalize s.heap = H at hB ⊢
  generalize ([] : List Loc) = locs at hB ⊢
  have hl := lv_entry ([.ref (ad t)]) (n := 1) (Nat.le_of_ble_eq_true rfl)
  rw [lg_entry_eq]
  generalize (lg_sl ([.ref (ad t)]) ++ List.replicate (1 - (lg_sl ([.ref (ad t)])).length) Slot.unset).toArray = ls at hl ⊢
  have hl : lv_has ls 1 [(0, .ref (ad t))] := hl
  refine lv_aload_n hx hb dX7_length_0 rfl (lv_at hl 0 rfl) ?_
  refine m_get (C := RX7) (T := TX7) (N := 2) (ci := 7) hx hb hts in_X7_length_X7 hown hB m_t h_t rfl 0 (by decide) (hts (.fieldLink RX7 18 "PaperRoom$Text" "row" "LPaperRoom$Row;") (by decide +kernel)) (fun _ h9 => h9) rfl dX7_length_1 ?_
  refine m_callVE (ci := 5) (As := []) (rest := []) (c_Row_length l D ty L ad g ro a n m_ro h_ro) ⟨hx, hb, hml, hown, hts⟩ (cwV 0 hts gX7_length_X5_length rfl rfl rfl (by decide +kernel) ⟨Nat.le_of_ble_eq_true rfl, Nat.le_of_ble_eq_true rfl⟩) hB m_ro h_ro rfl rfl hl.1 rfl (Nat.le_of_ble_eq_true rfl) dX7_length_4 ⟨Nat.le_of_ble_eq_true rfl, Nat.le_of_ble_eq_true rfl⟩ (fun H locs hB => ?_)
  exact m_iret hx hb hrt hlocks hB (Nat.le_refl _) (Nat.le_refl _) dX7_length_7 ⟨rfl, rfl, rfl, rfl⟩
set_option maxRecDepth 20000 in
theorem in_X7_isBlack_X7 : ∀ w ∈ wsX70, w ∈ wsX7_isBlack := by decide +kernel
set_option maxHeartbeats 1000000 in
set_option maxRecDepth 100000 in
theorem c_Text_isBlack (l : Launch) (D : va_G) (ty : Nat → ClassId) (L : List Nat) (ad : Nat → Nat) (g : Nat → va_E) (t ro a bl n : Nat) (bs bk : Nat → Int32) (k : Nat) (m_t : t ∈ L) (m_ro : ro ∈ L) (m_a : a ∈ L) (m_bl : bl ∈ L) (h_t : g t = .inr (7, [.ref (ad ro), .ref (ad bl)])) (h_ro : g ro = .inr (5, [.ref (ad a), .int (nI n)])) (h_a : g a = .inl (ty 2, n, .inl bs)) (h_bl : g bl = .inl (ty 3, n, .inl bk)) (hc : n ≤ 40) (hk : k < n) (hbk : bk k = 0 ∨ bk k = 1) : m_E l yX7_isBlack wsX7_isBlack 1 21 D ty [.ref (ad t), .int (nI k)] L ad g (some (.int (bk k))) g := by
  intro sz
  refine Met.ofW (cc := cX7_isBlack) (maxL := 2) (ret := (some .boolean)) (by decide) rfl ?_
  intro p e s m args below meth c s₁ B hml hv
  have hx := B.exec
  have hb := B.bytes
  have hrt := B.returns
  have hts := atoms_spec (ws := wsX7_isBlack) B.pre
  have hown : s.vm.findClass RX7 = some m.cls := findClass_of_methodNamed B.named
  have hlocks := B.notSynchronized
  obtain ⟨rfl, hB⟩ := m_start hv
  generalize va_A (m_w L ad g) sz = A at hB ⊢
  generalize s.heap = H at hB ⊢
  generalize ([] : List Loc) = locs at hB ⊢
  have hl := lv_entry ([.ref (ad t), .int (nI k)]) (n := 2) (Nat.le_of_ble_eq_true rfl)
  rw [lg_entry_eq]
  generalize (lg_sl ([.ref (ad t), .int (nI k)]) ++ List.replicate (2 - (lg_sl ([.ref (ad t), .int (nI k)])).length) Slot.unset).toArray = ls at hl ⊢
  have hl : lv_has ls 2 [(0, .ref (ad t)), (1, .int (nI k))] := hl
  have tI_n : (nI n).toInt = (n : Int) := nI_toInt (by omega)
  have tI_k : (nI k).toInt = (k : Int) := nI_toInt (by omega)
  rcases hbk with hbk | hbk
  · skip
    refine lv_iload_n hx hb dX7_isBlack_0 rfl (lv_at hl 1 rfl) ?_
    refine lv_aload_n hx hb dX7_isBlack_1 rfl (lv_at hl 0 rfl) ?_
    refine m_get (C := RX7) (T := TX7) (N := 2) (ci := 7) hx hb hts in_X7_isBlack_X7 hown hB m_t h_t rfl 1 (by decide) (hts (.fieldLink RX7 30 "PaperRoom$Text" "black" "[Z") (by decide +kernel)) (fun _ h9 => h9) rfl dX7_isBlack_2 ?_
    refine m_alen hx hb hB m_bl 3 h_bl rfl (v := nI n) rfl dX7_isBlack_5 ?_
    refine m_callSNE (As := [.int (nI k), .int (nI n)]) (rest := []) (c_isBelow_t l D ty L ad g _ _ (by omega) (by omega)) ⟨hx, hb, hml, hown, hts⟩ ⟨va_cnB 2 hts gX7_isBlack_X8_isBelow_n41 rfl rfl rfl hB.2.1.2.2.2.2.2.2.2.2 (hts (.initialized RX8) (by decide +kernel)) (by decide +kernel) ⟨Nat.le_of_ble_eq_true rfl, Nat.le_of_ble_eq_true rfl⟩, hts (.static yX8_isBelow) (by decide +kernel), trivial⟩ hB rfl hl.1 rfl (Nat.le_of_ble_eq_true rfl) dX7_isBlack_6 ⟨Nat.le_of_ble_eq_true rfl, Nat.le_of_ble_eq_true rfl⟩ (fun H locs hB => ?_)
    refine b_if_eq_f 25 hx hb dX7_isBlack_9 (by decide) (by decide) ?_
    refine lv_aload_n hx hb dX7_isBlack_12 rfl (lv_at hl 0 rfl) ?_
    refine m_get (C := RX7) (T := TX7) (N := 2) (ci := 7) hx hb hts in_X7_isBlack_X7 hown hB m_t h_t rfl 1 (by decide) (hts (.fieldLink RX7 30 "PaperRoom$Text" "black" "[Z") (by decide +kernel)) (fun _ h9 => h9) rfl dX7_isBlack_13 ?_
    refine lv_iload_n hx hb dX7_isBlack_16 rfl (lv_at hl 1 rfl) ?_
    refine n_zald hx hb hB m_bl h_bl k rfl (by omega) (by omega) dX7_isBlack_17 ?_
    refine b_if_eq_t 25 hx hb dX7_isBlack_18 (by decide) (by rw [hbk]; decide) ?_
    refine lv_iconst (v := 0) hx hb dX7_isBlack_25 (by decide) ?_
    exact m_zret hx hb hrt hlocks hB (Nat.le_refl _) (Nat.le_refl _) dX7_isBlack_26 rfl ⟨by rw [hbk], rfl, rfl, rfl⟩
  · skip
    refine lv_iload_n hx hb dX7_isBlack_0 rfl (lv_at hl 1 rfl) ?_
    refine lv_aload_n hx hb dX7_isBlack_1 rfl (lv_at hl 0 rfl) ?_
    refine m_get (C := RX7) (T := TX7) (N := 2) (ci := 7) hx hb hts in_X7_isBlack_X7 hown hB m_t h_t rfl 1 (by decide) (hts (.fieldLink RX7 30 "PaperRoom$Text" "black" "[Z") (by decide +kernel)) (fun _ h9 => h9) rfl dX7_isBlack_2 ?_
    refine m_alen hx hb hB m_bl 3 h_bl rfl (v := nI n) rfl dX7_isBlack_5 ?_
    refine m_callSNE (As := [.int (nI k), .int (nI n)]) (rest := []) (c_isBelow_t l D ty L ad g _ _ (by omega) (by omega)) ⟨hx, hb, hml, hown, hts⟩ ⟨va_cnB 2 hts gX7_isBlack_X8_isBelow_n41 rfl rfl rfl hB.2.1.2.2.2.2.2.2.2.2 (hts (.initialized RX8) (by decide +kernel)) (by decide +kernel) ⟨Nat.le_of_ble_eq_true rfl, Nat.le_of_ble_eq_true rfl⟩, hts (.static yX8_isBelow) (by decide +kernel), trivial⟩ hB rfl hl.1 rfl (Nat.le_of_ble_eq_true rfl) dX7_isBlack_6 ⟨Nat.le_of_ble_eq_true rfl, Nat.le_of_ble_eq_true rfl⟩ (fun H locs hB => ?_)
    refine b_if_eq_f 25 hx hb dX7_isBlack_9 (by decide) (by decide) ?_
    refine lv_aload_n hx hb dX7_isBlack_12 rfl (lv_at hl 0 rfl) ?_
    refine m_get (C := RX7) (T := TX7) (N := 2) (ci := 7) hx hb hts in_X7_isBlack_X7 hown hB m_t h_t rfl 1 (by decide) (hts (.fieldLink RX7 30 "PaperRoom$Text" "black" "[Z") (by decide +kernel)) (fun _ h9 => h9) rfl dX7_isBlack_13 ?_
    refine lv_iload_n hx hb dX7_isBlack_16 rfl (lv_at hl 1 rfl) ?_
    refine n_zald hx hb hB m_bl h_bl k rfl (by omega) (by omega) dX7_isBlack_17 ?_
    refine b_if_eq_f 25 hx hb dX7_isBlack_18 (by decide) (by rw [hbk]; decide) ?_
    refine lv_iconst (v := 1) hx hb dX7_isBlack_21 (by decide) ?_
    refine lv_goto (tgt := 26) hx hb dX7_isBlack_22 (by decide) ?_
    exact m_zret hx hb hrt hlocks hB (Nat.le_refl _) (Nat.le_refl _) dX7_isBlack_26 rfl ⟨by rw [hbk], rfl, rfl, rfl⟩
set_option maxRecDepth 20000 in
theorem in_X7_plain_X7 : ∀ w ∈ wsX70, w ∈ wsX7_plain := by decide +kernel
set_option maxHeartbeats 1000000 in
set_option maxRecDepth 100000 in
theorem c_Text_plain (l : Launch) (D : va_G) (ty : Nat → ClassId) (L : List Nat) (ad : Nat → Nat) (g : Nat → va_E) (t ro a bl n : Nat) (bs bk : Nat → Int32) (k : Nat) (m_t : t ∈ L) (m_ro : ro ∈ L) (m_a : a ∈ L) (m_bl : bl ∈ L) (h_t : g t = .inr (7, [.ref (ad ro), .ref (ad bl)])) (h_ro : g ro = .inr (5, [.ref (ad a), .int (nI n)])) (h_a : g a = .inl (ty 2, n, .inl bs)) (h_bl : g bl = .inl (ty 3, n, .inl bk)) (hc : n ≤ 40) (hk : k < n) (hbk : bk k = 0 ∨ bk k = 1) : m_E l yX7_plain wsX7_plain 2 42 D ty [.ref (ad t), .int (nI k)] L ad g (some (.int (pl (bs k) (bk k)))) g := by
  intro sz
  refine Met.ofW (cc := cX7_plain) (maxL := 2) (ret := (some .int)) (by decide) rfl ?_
  intro p e s m args below meth c s₁ B hml hv
  have hx := B.exec
  have hb := B.bytes
  have hrt := B.returns
  have hts := atoms_spec (ws := wsX7_plain) B.pre
  have hown : s.vm.findClass RX7 = some m.cls := findClass_of_methodNamed B.named
  have hlocks := B.notSynchronized
  obtain ⟨rfl, hB⟩ := m_start hv
  generalize va_A (m_w L ad g) sz = A at hB ⊢
  generalize s.heap = H at hB ⊢
  generalize ([] : List Loc) = locs at hB ⊢
  have hl := lv_entry ([.ref (ad t), .int (nI k)]) (n := 2) (Nat.le_of_ble_eq_true rfl)
  rw [lg_entry_eq]
  generalize (lg_sl ([.ref (ad t), .int (nI k)]) ++ List.replicate (2 - (lg_sl ([.ref (ad t), .int (nI k)])).length) Slot.unset).toArray = ls at hl ⊢
  have hl : lv_has ls 2 [(0, .ref (ad t)), (1, .int (nI k))] := hl
  have tI_n : (nI n).toInt = (n : Int) := nI_toInt (by omega)
  have tI_k : (nI k).toInt = (k : Int) := nI_toInt (by omega)
  have hbk0 := hbk
  rcases hbk with hbk | hbk
  · skip
    refine lv_aload_n hx hb dX7_plain_0 rfl (lv_at hl 0 rfl) ?_
    refine lv_iload_n hx hb dX7_plain_1 rfl (lv_at hl 1 rfl) ?_
    refine m_callVE (ci := 7) (As := [.int (nI k)]) (rest := []) (c_Text_isBlack l D ty L ad g t ro a bl n bs bk k m_t m_ro m_a m_bl h_t h_ro h_a h_bl hc hk hbk0) ⟨hx, hb, hml, hown, hts⟩ (cwV 1 hts gX7_plain_X7_isBlack rfl rfl rfl (by decide +kernel) ⟨Nat.le_of_ble_eq_true rfl, Nat.le_of_ble_eq_true rfl⟩) hB m_t h_t rfl rfl hl.1 rfl (Nat.le_of_ble_eq_true rfl) dX7_plain_2 ⟨Nat.le_of_ble_eq_true rfl, Nat.le_of_ble_eq_true rfl⟩ (fun H locs hB => ?_)
    refine b_if_eq_t 13 hx hb dX7_plain_5 (by decide) (by rw [hbk]; decide) ?_
    refine lv_aload_n hx hb dX7_plain_13 rfl (lv_at hl 0 rfl) ?_
    refine m_get (C := RX7) (T := TX7) (N := 2) (ci := 7) hx hb hts in_X7_plain_X7 hown hB m_t h_t rfl 0 (by decide) (hts (.fieldLink RX7 18 "PaperRoom$Text" "row" "LPaperRoom$Row;") (by decide +kernel)) (fun _ h9 => h9) rfl dX7_plain_14 ?_
    refine lv_iload_n hx hb dX7_plain_17 rfl (lv_at hl 1 rfl) ?_
    refine m_callVE (ci := 5) (As := [.int (nI k)]) (rest := []) (c_Row_get_t l D ty L ad g ro a n n bs k m_ro m_a h_ro h_a hk (Nat.le_refl _) (by omega)) ⟨hx, hb, hml, hown, hts⟩ (cwV 1 hts gX7_plain_X5_get rfl rfl rfl (by decide +kernel) ⟨Nat.le_of_ble_eq_true rfl, Nat.le_of_ble_eq_true rfl⟩) hB m_ro h_ro rfl rfl hl.1 rfl (Nat.le_of_ble_eq_true rfl) dX7_plain_18 ⟨Nat.le_of_ble_eq_true rfl, Nat.le_of_ble_eq_true rfl⟩ (fun H locs hB => ?_)
    exact m_iret hx hb hrt hlocks hB (Nat.le_refl _) (Nat.le_refl _) dX7_plain_21 ⟨by rw [hbk]; rfl, rfl, rfl, rfl⟩
  · skip
    refine lv_aload_n hx hb dX7_plain_0 rfl (lv_at hl 0 rfl) ?_
    refine lv_iload_n hx hb dX7_plain_1 rfl (lv_at hl 1 rfl) ?_
    refine m_callVE (ci := 7) (As := [.int (nI k)]) (rest := []) (c_Text_isBlack l D ty L ad g t ro a bl n bs bk k m_t m_ro m_a m_bl h_t h_ro h_a h_bl hc hk hbk0) ⟨hx, hb, hml, hown, hts⟩ (cwV 1 hts gX7_plain_X7_isBlack rfl rfl rfl (by decide +kernel) ⟨Nat.le_of_ble_eq_true rfl, Nat.le_of_ble_eq_true rfl⟩) hB m_t h_t rfl rfl hl.1 rfl (Nat.le_of_ble_eq_true rfl) dX7_plain_2 ⟨Nat.le_of_ble_eq_true rfl, Nat.le_of_ble_eq_true rfl⟩ (fun H locs hB => ?_)
    refine b_if_eq_f 13 hx hb dX7_plain_5 (by decide) (by rw [hbk]; decide) ?_
    refine lv_bipush (v := 35) hx hb dX7_plain_8 (by decide) ?_
    refine lv_goto (tgt := 21) hx hb dX7_plain_10 (by decide) ?_
    exact m_iret hx hb hrt hlocks hB (Nat.le_refl _) (Nat.le_refl _) dX7_plain_21 ⟨by rw [hbk]; rfl, rfl, rfl, rfl⟩
