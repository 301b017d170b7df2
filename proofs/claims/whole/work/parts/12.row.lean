set_option maxHeartbeats 1000000 in
set_option maxRecDepth 100000 in
theorem c_isBelow_t (l : Launch) (D : va_G) (ty : Nat → ClassId) (L : List Nat) (ad : Nat → Nat) (g : Nat → va_E) (x y : Int32) (h0 : 0 ≤ x.toInt) (h1 : x.toInt < y.toInt) : m_E l yX8_isBelow wsX8_isBelow 0 0 D ty [.int x, .int y] L ad g (some (.int 1)) g := by
  intro sz
  refine Met.ofW (cc := cX8_isBelow) (maxL := 2) (ret := (some .boolean)) (by decide) rfl ?_
  intro p e s m args below meth c s₁ B hml hv
  have hx := B.exec
  have hb := B.bytes
  have hrt := B.returns
  have hts := atoms_spec (ws := wsX8_isBelow) B.pre
  have hown : s.vm.findClass RX8 = some m.cls := findClass_of_methodNamed B.named
  have hlocks := B.notSynchronized
  obtain ⟨rfl, hB⟩ := m_start hv
  generalize va_A (m_w L ad g) sz = A at hB ⊢
  generalize s.heap = H at hB ⊢
  generalize ([] : List Loc) = locs at hB ⊢
  have hl := lv_entry ([.int x, .int y]) (n := 2) (Nat.le_of_ble_eq_true rfl)
  rw [lg_entry_eq]
  generalize (lg_sl ([.int x, .int y]) ++ List.replicate (2 - (lg_sl ([.int x, .int y])).length) Slot.unset).toArray = ls at hl ⊢
  have hl : lv_has ls 2 [(0, .int x), (1, .int y)] := hl
  refine lv_iload_n hx hb dX8_isBelow_0 rfl (lv_at hl 0 rfl) ?_
  refine b_if_lt_f 13 hx hb dX8_isBelow_1 (by decide) (by have := (by decide : (0 : Int32).toInt = 0); omega) ?_
  refine lv_iload_n hx hb dX8_isBelow_4 rfl (lv_at hl 0 rfl) ?_
  refine lv_iload_n hx hb dX8_isBelow_5 rfl (lv_at hl 1 rfl) ?_
  refine b_icmp_ge_f 13 hx hb dX8_isBelow_6 (by decide) (by omega) ?_
  refine lv_iconst (v := 1) hx hb dX8_isBelow_9 (by decide) ?_
  refine lv_goto (tgt := 14) hx hb dX8_isBelow_10 (by decide) ?_
  exact m_zret hx hb hrt hlocks hB (Nat.le_refl _) (Nat.le_refl _) dX8_isBelow_14 rfl ⟨rfl, rfl, rfl, rfl⟩
set_option maxHeartbeats 1000000 in
set_option maxRecDepth 100000 in
theorem c_isBelow_f (l : Launch) (D : va_G) (ty : Nat → ClassId) (L : List Nat) (ad : Nat → Nat) (g : Nat → va_E) (x y : Int32) (h : ¬ (0 ≤ x.toInt ∧ x.toInt < y.toInt)) : m_E l yX8_isBelow wsX8_isBelow 0 0 D ty [.int x, .int y] L ad g (some (.int 0)) g := by
  intro sz
  refine Met.ofW (cc := cX8_isBelow) (maxL := 2) (ret := (some .boolean)) (by decide) rfl ?_
  intro p e s m args below meth c s₁ B hml hv
  have hx := B.exec
  have hb := B.bytes
  have hrt := B.returns
  have hts := atoms_spec (ws := wsX8_isBelow) B.pre
  have hown : s.vm.findClass RX8 = some m.cls := findClass_of_methodNamed B.named
  have hlocks := B.notSynchronized
  obtain ⟨rfl, hB⟩ := m_start hv
  generalize va_A (m_w L ad g) sz = A at hB ⊢
  generalize s.heap = H at hB ⊢
  generalize ([] : List Loc) = locs at hB ⊢
  have hl := lv_entry ([.int x, .int y]) (n := 2) (Nat.le_of_ble_eq_true rfl)
  rw [lg_entry_eq]
  generalize (lg_sl ([.int x, .int y]) ++ List.replicate (2 - (lg_sl ([.int x, .int y])).length) Slot.unset).toArray = ls at hl ⊢
  have hl : lv_has ls 2 [(0, .int x), (1, .int y)] := hl
  refine lv_iload_n hx hb dX8_isBelow_0 rfl (lv_at hl 0 rfl) ?_
  refine b_if_lt 13 hx hb dX8_isBelow_1 (by decide) (fun c_1 => ?_) (fun c_1 => ?_)
  · skip
    refine lv_iconst (v := 0) hx hb dX8_isBelow_13 (by decide) ?_
    exact m_zret hx hb hrt hlocks hB (Nat.le_refl _) (Nat.le_refl _) dX8_isBelow_14 rfl ⟨rfl, rfl, rfl, rfl⟩
  · skip
    refine lv_iload_n hx hb dX8_isBelow_4 rfl (lv_at hl 0 rfl) ?_
    refine lv_iload_n hx hb dX8_isBelow_5 rfl (lv_at hl 1 rfl) ?_
    refine b_icmp_ge_t 13 hx hb dX8_isBelow_6 (by decide) (by omega) ?_
    refine lv_iconst (v := 0) hx hb dX8_isBelow_13 (by decide) ?_
    exact m_zret hx hb hrt hlocks hB (Nat.le_refl _) (Nat.le_refl _) dX8_isBelow_14 rfl ⟨rfl, rfl, rfl, rfl⟩
set_option maxRecDepth 20000 in
theorem in_X5_length_X5 : ∀ w ∈ wsX50, w ∈ wsX5_length := by decide +kernel
set_option maxHeartbeats 1000000 in
set_option maxRecDepth 100000 in
theorem c_Row_length (l : Launch) (D : va_G) (ty : Nat → ClassId) (L : List Nat) (ad : Nat → Nat) (g : Nat → va_E) (r a n : Nat) (m_r : r ∈ L) (h_r : g r = .inr (5, [.ref (ad a), .int (nI n)])) : m_E l yX5_length wsX5_length 0 0 D ty [.ref (ad r)] L ad g (some (.int (nI n))) g := by
  intro sz
  refine Met.ofW (cc := cX5_length) (maxL := 1) (ret := (some .int)) (by decide) rfl ?_
  intro p e s m args below meth c s₁ B hml hv
  have hx := B.exec
  have hb := B.bytes
  have hrt := B.returns
  have hts := atoms_spec (ws := wsX5_length) B.pre
  have hown : s.vm.findClass RX5 = some m.cls := findClass_of_methodNamed B.named
  have hlocks := B.notSynchronized
  obtain ⟨rfl, hB⟩ := m_start hv
  generalize va_A (m_w L ad g) sz = A at hB ⊢
  generalize s.heap = H at hB ⊢
  generalize ([] : List Loc) = locs at hB ⊢
  have hl := lv_entry ([.ref (ad r)]) (n := 1) (Nat.le_of_ble_eq_true rfl)
  rw [lg_entry_eq]
  generalize (lg_sl ([.ref (ad r)]) ++ List.replicate (1 - (lg_sl ([.ref (ad r)])).length) Slot.unset).toArray = ls at hl ⊢
  have hl : lv_has ls 1 [(0, .ref (ad r))] := hl
  refine lv_aload_n hx hb dX5_length_0 rfl (lv_at hl 0 rfl) ?_
  refine m_get (C := RX5) (T := TX5) (N := 2) (ci := 5) hx hb hts in_X5_length_X5 hown hB m_r h_r rfl 1 (by decide) (hts (.fieldLink RX5 21 "PaperRoom$Row" "length" "I") (by decide +kernel)) (fun _ h9 => h9) rfl dX5_length_1 ?_
  exact m_iret hx hb hrt hlocks hB (Nat.le_refl _) (Nat.le_refl _) dX5_length_4 ⟨rfl, rfl, rfl, rfl⟩
set_option maxRecDepth 20000 in
theorem in_X5_empty_X5 : ∀ w ∈ wsX50, w ∈ wsX5_empty := by decide +kernel
set_option maxHeartbeats 1000000 in
set_option maxRecDepth 100000 in
theorem c_Row_empty (l : Launch) (D : va_G) (ty : Nat → ClassId) (L : List Nat) (ad : Nat → Nat) (g : Nat → va_E) (r a n : Nat) (m_r : r ∈ L) (h_r : g r = .inr (5, [.ref (ad a), .int (nI n)])) : m_E l yX5_empty wsX5_empty 0 0 D ty [.ref (ad r)] L ad g none (va_up g r (.inr (5, [.ref (ad a), .int 0]))) := by
  intro sz
  refine Met.ofW (cc := cX5_empty) (maxL := 1) (ret := none) (by decide) rfl ?_
  intro p e s m args below meth c s₁ B hml hv
  have hx := B.exec
  have hb := B.bytes
  have hrt := B.returns
  have hts := atoms_spec (ws := wsX5_empty) B.pre
  have hown : s.vm.findClass RX5 = some m.cls := findClass_of_methodNamed B.named
  have hlocks := B.notSynchronized
  obtain ⟨rfl, hB⟩ := m_start hv
  generalize va_A (m_w L ad g) sz = A at hB ⊢
  generalize s.heap = H at hB ⊢
  generalize ([] : List Loc) = locs at hB ⊢
  have hl := lv_entry ([.ref (ad r)]) (n := 1) (Nat.le_of_ble_eq_true rfl)
  rw [lg_entry_eq]
  generalize (lg_sl ([.ref (ad r)]) ++ List.replicate (1 - (lg_sl ([.ref (ad r)])).length) Slot.unset).toArray = ls at hl ⊢
  have hl : lv_has ls 1 [(0, .ref (ad r))] := hl
  refine lv_aload_n hx hb dX5_empty_0 rfl (lv_at hl 0 rfl) ?_
  refine lv_iconst (v := 0) hx hb dX5_empty_1 (by decide) ?_
  refine m_put (C := RX5) (T := TX5) (N := 2) (ci := 5) (v := .int 0) (ft := .int) hx hb hts in_X5_empty_X5 tyX5 tyX5_ok nmX5 hown hB m_r h_r rfl 1 (by decide) (hts (.fieldLink RX5 21 "PaperRoom$Row" "length" "I") (by decide +kernel)) (fun _ h9 => h9) rfl (by decide +kernel) rfl rfl (Nat.le_of_ble_eq_true rfl) dX5_empty_2 (fun H locs hB => ?_)
  replace hB : m_B D ty A s L ad (va_up g r (.inr (5, [.ref (ad a), .int 0]))) H locs := hB
  exact m_vret hx hb hrt hlocks hB (Nat.le_refl _) (Nat.le_refl _) dX5_empty_5 ⟨rfl, rfl, rfl, rfl⟩
set_option maxRecDepth 20000 in
theorem in_X5_space_X5 : ∀ w ∈ wsX50, w ∈ wsX5_space := by decide +kernel
set_option maxHeartbeats 1000000 in
set_option maxRecDepth 100000 in
theorem c_Row_space (l : Launch) (D : va_G) (ty : Nat → ClassId) (L : List Nat) (ad : Nat → Nat) (g : Nat → va_E) (r a n cap : Nat) (bs : Nat → Int32) (m_r : r ∈ L) (m_a : a ∈ L) (h_r : g r = .inr (5, [.ref (ad a), .int (nI n)])) (h_a : g a = .inl (ty 2, cap, .inl bs)) (hn : n ≤ cap) : m_E l yX5_space wsX5_space 0 0 D ty [.ref (ad r)] L ad g (some (.int (nI (cap - n)))) g := by
  intro sz
  refine Met.ofW (cc := cX5_space) (maxL := 1) (ret := (some .int)) (by decide) rfl ?_
  intro p e s m args below meth c s₁ B hml hv
  have hx := B.exec
  have hb := B.bytes
  have hrt := B.returns
  have hts := atoms_spec (ws := wsX5_space) B.pre
  have hown : s.vm.findClass RX5 = some m.cls := findClass_of_methodNamed B.named
  have hlocks := B.notSynchronized
  obtain ⟨rfl, hB⟩ := m_start hv
  generalize va_A (m_w L ad g) sz = A at hB ⊢
  generalize s.heap = H at hB ⊢
  generalize ([] : List Loc) = locs at hB ⊢
  have hl := lv_entry ([.ref (ad r)]) (n := 1) (Nat.le_of_ble_eq_true rfl)
  rw [lg_entry_eq]
  generalize (lg_sl ([.ref (ad r)]) ++ List.replicate (1 - (lg_sl ([.ref (ad r)])).length) Slot.unset).toArray = ls at hl ⊢
  have hl : lv_has ls 1 [(0, .ref (ad r))] := hl
  refine lv_aload_n hx hb dX5_space_0 rfl (lv_at hl 0 rfl) ?_
  refine m_get (C := RX5) (T := TX5) (N := 2) (ci := 5) hx hb hts in_X5_space_X5 hown hB m_r h_r rfl 0 (by decide) (hts (.fieldLink RX5 15 "PaperRoom$Row" "bytes" "[B") (by decide +kernel)) (fun _ h9 => h9) rfl dX5_space_1 ?_
  refine m_alen hx hb hB m_a 2 h_a rfl (v := nI cap) rfl dX5_space_4 ?_
  refine lv_aload_n hx hb dX5_space_5 rfl (lv_at hl 0 rfl) ?_
  refine m_get (C := RX5) (T := TX5) (N := 2) (ci := 5) hx hb hts in_X5_space_X5 hown hB m_r h_r rfl 1 (by decide) (hts (.fieldLink RX5 21 "PaperRoom$Row" "length" "I") (by decide +kernel)) (fun _ h9 => h9) rfl dX5_space_6 ?_
  refine lv_isub hx hb dX5_space_9 ?_
  refine b_topi (w := nI (cap - n)) (pk_sub hn) ?_
  exact m_iret hx hb hrt hlocks hB (Nat.le_refl _) (Nat.le_refl _) dX5_space_10 ⟨rfl, rfl, rfl, rfl⟩
set_option maxRecDepth 20000 in
theorem in_X5_put_X5 : ∀ w ∈ wsX50, w ∈ wsX5_put := by decide +kernel
set_option maxHeartbeats 1000000 in
set_option maxRecDepth 100000 in
theorem c_Row_put (l : Launch) (D : va_G) (ty : Nat → ClassId) (L : List Nat) (ad : Nat → Nat) (g : Nat → va_E) (r a n cap : Nat) (bs : Nat → Int32) (b : Int32) (m_r : r ∈ L) (m_a : a ∈ L) (h_r : g r = .inr (5, [.ref (ad a), .int (nI n)])) (h_a : g a = .inl (ty 2, cap, .inl bs)) (ne : r ≠ a) (hn : n < cap) (hc : cap ≤ 1000) (hby : b.toInt8.toInt32 = b) : m_E l yX5_put wsX5_put 1 21 D ty [.ref (ad r), .int b] L ad g none (va_up (va_up g a (.inl (ty 2, cap, .inl (upd bs n b)))) r (.inr (5, [.ref (ad a), .int (nI (n + 1))]))) := by
  intro sz
  refine Met.ofW (cc := cX5_put) (maxL := 2) (ret := none) (by decide) rfl ?_
  intro p e s m args below meth c s₁ B hml hv
  have hx := B.exec
  have hb := B.bytes
  have hrt := B.returns
  have hts := atoms_spec (ws := wsX5_put) B.pre
  have hown : s.vm.findClass RX5 = some m.cls := findClass_of_methodNamed B.named
  have hlocks := B.notSynchronized
  obtain ⟨rfl, hB⟩ := m_start hv
  generalize va_A (m_w L ad g) sz = A at hB ⊢
  generalize s.heap = H at hB ⊢
  generalize ([] : List Loc) = locs at hB ⊢
  have hl := lv_entry ([.ref (ad r), .int b]) (n := 2) (Nat.le_of_ble_eq_true rfl)
  rw [lg_entry_eq]
  generalize (lg_sl ([.ref (ad r), .int b]) ++ List.replicate (2 - (lg_sl ([.ref (ad r), .int b])).length) Slot.unset).toArray = ls at hl ⊢
  have hl : lv_has ls 2 [(0, .ref (ad r)), (1, .int b)] := hl
  have tn : (nI n).toInt = (n : Int) := nI_toInt (by omega)
  have tc : (nI cap).toInt = (cap : Int) := nI_toInt (by omega)
  have hnb : vp_nar .byte b = b := by rw [← hby]; exact pk_vb b
  refine lv_aload_n hx hb dX5_put_0 rfl (lv_at hl 0 rfl) ?_
  refine m_get (C := RX5) (T := TX5) (N := 2) (ci := 5) hx hb hts in_X5_put_X5 hown hB m_r h_r rfl 1 (by decide) (hts (.fieldLink RX5 21 "PaperRoom$Row" "length" "I") (by decide +kernel)) (fun _ h9 => h9) rfl dX5_put_1 ?_
  refine lv_aload_n hx hb dX5_put_4 rfl (lv_at hl 0 rfl) ?_
  refine m_get (C := RX5) (T := TX5) (N := 2) (ci := 5) hx hb hts in_X5_put_X5 hown hB m_r h_r rfl 0 (by decide) (hts (.fieldLink RX5 15 "PaperRoom$Row" "bytes" "[B") (by decide +kernel)) (fun _ h9 => h9) rfl dX5_put_5 ?_
  refine m_alen hx hb hB m_a 2 h_a rfl (v := nI cap) rfl dX5_put_8 ?_
  refine m_callSNE (As := [.int (nI n), .int (nI cap)]) (rest := []) (c_isBelow_t l D ty L ad g _ _ (by omega) (by omega)) ⟨hx, hb, hml, hown, hts⟩ ⟨va_cnB 2 hts gX5_put_X8_isBelow_n25 rfl rfl rfl hB.2.1.2.2.2.2.2.2.1 (hts (.initialized RX8) (by decide +kernel)) (by decide +kernel) ⟨Nat.le_of_ble_eq_true rfl, Nat.le_of_ble_eq_true rfl⟩, hts (.static yX8_isBelow) (by decide +kernel), trivial⟩ hB rfl hl.1 rfl (Nat.le_of_ble_eq_true rfl) dX5_put_9 ⟨Nat.le_of_ble_eq_true rfl, Nat.le_of_ble_eq_true rfl⟩ (fun H locs hB => ?_)
  refine b_if_eq_f 36 hx hb dX5_put_12 (by decide) (by decide) ?_
  refine lv_aload_n hx hb dX5_put_15 rfl (lv_at hl 0 rfl) ?_
  refine m_get (C := RX5) (T := TX5) (N := 2) (ci := 5) hx hb hts in_X5_put_X5 hown hB m_r h_r rfl 0 (by decide) (hts (.fieldLink RX5 15 "PaperRoom$Row" "bytes" "[B") (by decide +kernel)) (fun _ h9 => h9) rfl dX5_put_16 ?_
  refine lv_aload_n hx hb dX5_put_19 rfl (lv_at hl 0 rfl) ?_
  refine m_get (C := RX5) (T := TX5) (N := 2) (ci := 5) hx hb hts in_X5_put_X5 hown hB m_r h_r rfl 1 (by decide) (hts (.fieldLink RX5 21 "PaperRoom$Row" "length" "I") (by decide +kernel)) (fun _ h9 => h9) rfl dX5_put_20 ?_
  refine lv_iload_n hx hb dX5_put_23 rfl (lv_at hl 1 rfl) ?_
  refine lv_i2b hx hb dX5_put_24 rfl ?_
  refine b_topi (w := b) (hby) ?_
  refine n_bast hx hb hB m_a h_a n rfl (by omega) (by omega) dX5_put_25 (fun H locs hB => ?_)
  replace hB : m_B D ty A s L ad (va_up g a (.inl (ty 2, cap, .inl (upd bs n (vp_nar .byte b))))) H locs := hB
  refine lv_aload_n hx hb dX5_put_26 rfl (lv_at hl 0 rfl) ?_
  refine lv_dup hx hb dX5_put_27 rfl ?_
  refine m_get (C := RX5) (T := TX5) (N := 2) (ci := 5) hx hb hts in_X5_put_X5 hown hB m_r ((va_up_ne _ _ ne).trans h_r) rfl 1 (by decide) (hts (.fieldLink RX5 21 "PaperRoom$Row" "length" "I") (by decide +kernel)) (fun _ h9 => h9) rfl dX5_put_28 ?_
  refine lv_iconst (v := 1) hx hb dX5_put_31 (by decide) ?_
  refine lv_iadd hx hb dX5_put_32 ?_
  refine b_topi (w := nI (n + 1)) (nI_add n 1) ?_
  refine m_put (C := RX5) (T := TX5) (N := 2) (ci := 5) (v := .int (nI (n + 1))) (ft := .int) hx hb hts in_X5_put_X5 tyX5 tyX5_ok nmX5 hown hB m_r ((va_up_ne _ _ ne).trans h_r) rfl 1 (by decide) (hts (.fieldLink RX5 21 "PaperRoom$Row" "length" "I") (by decide +kernel)) (fun _ h9 => h9) rfl (by decide +kernel) rfl rfl (Nat.le_of_ble_eq_true rfl) dX5_put_33 (fun H locs hB => ?_)
  replace hB : m_B D ty A s L ad (va_up (va_up g a (.inl (ty 2, cap, .inl (upd bs n (vp_nar .byte b))))) r (.inr (5, [.ref (ad a), .int (nI (n + 1))]))) H locs := hB
  exact m_vret hx hb hrt hlocks hB (Nat.le_refl _) (Nat.le_refl _) dX5_put_36 ⟨rfl, rfl, rfl, by rw [hnb]⟩
set_option maxRecDepth 20000 in
theorem in_X5_get_X5 : ∀ w ∈ wsX50, w ∈ wsX5_get := by decide +kernel
set_option maxHeartbeats 1000000 in
set_option maxRecDepth 100000 in
theorem c_Row_get_t (l : Launch) (D : va_G) (ty : Nat → ClassId) (L : List Nat) (ad : Nat → Nat) (g : Nat → va_E) (r a n cap : Nat) (bs : Nat → Int32) (k : Nat) (m_r : r ∈ L) (m_a : a ∈ L) (h_r : g r = .inr (5, [.ref (ad a), .int (nI n)])) (h_a : g a = .inl (ty 2, cap, .inl bs)) (hk : k < n) (hn : n ≤ cap) (hc : cap ≤ 1000) : m_E l yX5_get wsX5_get 1 21 D ty [.ref (ad r), .int (nI k)] L ad g (some (.int (bs k))) g := by
  intro sz
  refine Met.ofW (cc := cX5_get) (maxL := 2) (ret := (some .int)) (by decide) rfl ?_
  intro p e s m args below meth c s₁ B hml hv
  have hx := B.exec
  have hb := B.bytes
  have hrt := B.returns
  have hts := atoms_spec (ws := wsX5_get) B.pre
  have hown : s.vm.findClass RX5 = some m.cls := findClass_of_methodNamed B.named
  have hlocks := B.notSynchronized
  obtain ⟨rfl, hB⟩ := m_start hv
  generalize va_A (m_w L ad g) sz = A at hB ⊢
  generalize s.heap = H at hB ⊢
  generalize ([] : List Loc) = locs at hB ⊢
  have hl := lv_entry ([.ref (ad r), .int (nI k)]) (n := 2) (Nat.le_of_ble_eq_true rfl)
  rw [lg_entry_eq]
  generalize (lg_sl ([.ref (ad r), .int (nI k)]) ++ List.replicate (2 - (lg_sl ([.ref (ad r), .int (nI k)])).length) Slot.unset).toArray = ls at hl ⊢
  have hl : lv_has ls 2 [(0, .ref (ad r)), (1, .int (nI k))] := hl
  have tn : (nI n).toInt = (n : Int) := nI_toInt (by omega)
  have tc : (nI cap).toInt = (cap : Int) := nI_toInt (by omega)
  have tk : (nI k).toInt = (k : Int) := nI_toInt (by omega)
  refine lv_iload_n hx hb dX5_get_0 rfl (lv_at hl 1 rfl) ?_
  refine lv_aload_n hx hb dX5_get_1 rfl (lv_at hl 0 rfl) ?_
  refine m_get (C := RX5) (T := TX5) (N := 2) (ci := 5) hx hb hts in_X5_get_X5 hown hB m_r h_r rfl 1 (by decide) (hts (.fieldLink RX5 21 "PaperRoom$Row" "length" "I") (by decide +kernel)) (fun _ h9 => h9) rfl dX5_get_2 ?_
  refine m_callSNE (As := [.int (nI k), .int (nI n)]) (rest := []) (c_isBelow_t l D ty L ad g _ _ (by omega) (by omega)) ⟨hx, hb, hml, hown, hts⟩ ⟨va_cnB 2 hts gX5_get_X8_isBelow_n25 rfl rfl rfl hB.2.1.2.2.2.2.2.2.1 (hts (.initialized RX8) (by decide +kernel)) (by decide +kernel) ⟨Nat.le_of_ble_eq_true rfl, Nat.le_of_ble_eq_true rfl⟩, hts (.static yX8_isBelow) (by decide +kernel), trivial⟩ hB rfl hl.1 rfl (Nat.le_of_ble_eq_true rfl) dX5_get_5 ⟨Nat.le_of_ble_eq_true rfl, Nat.le_of_ble_eq_true rfl⟩ (fun H locs hB => ?_)
  refine b_if_eq_f 29 hx hb dX5_get_8 (by decide) (by decide) ?_
  refine lv_iload_n hx hb dX5_get_11 rfl (lv_at hl 1 rfl) ?_
  refine lv_aload_n hx hb dX5_get_12 rfl (lv_at hl 0 rfl) ?_
  refine m_get (C := RX5) (T := TX5) (N := 2) (ci := 5) hx hb hts in_X5_get_X5 hown hB m_r h_r rfl 0 (by decide) (hts (.fieldLink RX5 15 "PaperRoom$Row" "bytes" "[B") (by decide +kernel)) (fun _ h9 => h9) rfl dX5_get_13 ?_
  refine m_alen hx hb hB m_a 2 h_a rfl (v := nI cap) rfl dX5_get_16 ?_
  refine b_icmp_ge_f 29 hx hb dX5_get_17 (by decide) (by omega) ?_
  refine lv_aload_n hx hb dX5_get_20 rfl (lv_at hl 0 rfl) ?_
  refine m_get (C := RX5) (T := TX5) (N := 2) (ci := 5) hx hb hts in_X5_get_X5 hown hB m_r h_r rfl 0 (by decide) (hts (.fieldLink RX5 15 "PaperRoom$Row" "bytes" "[B") (by decide +kernel)) (fun _ h9 => h9) rfl dX5_get_21 ?_
  refine lv_iload_n hx hb dX5_get_24 rfl (lv_at hl 1 rfl) ?_
  refine n_bald hx hb hB m_a h_a k rfl (by omega) (by omega) dX5_get_25 ?_
  refine lv_goto (tgt := 31) hx hb dX5_get_26 (by decide) ?_
  exact m_iret hx hb hrt hlocks hB (Nat.le_refl _) (Nat.le_refl _) dX5_get_31 ⟨rfl, rfl, rfl, rfl⟩
set_option maxHeartbeats 1000000 in
set_option maxRecDepth 100000 in
theorem c_Row_get_f (l : Launch) (D : va_G) (ty : Nat → ClassId) (L : List Nat) (ad : Nat → Nat) (g : Nat → va_E) (r a n cap : Nat) (bs : Nat → Int32) (i : Int32) (m_r : r ∈ L) (m_a : a ∈ L) (h_r : g r = .inr (5, [.ref (ad a), .int (nI n)])) (h_a : g a = .inl (ty 2, cap, .inl bs)) (hi : ¬ (0 ≤ i.toInt ∧ i.toInt < (nI n).toInt)) : m_E l yX5_get wsX5_get 1 21 D ty [.ref (ad r), .int i] L ad g (some (.int (-9))) g := by
  intro sz
  refine Met.ofW (cc := cX5_get) (maxL := 2) (ret := (some .int)) (by decide) rfl ?_
  intro p e s m args below meth c s₁ B hml hv
  have hx := B.exec
  have hb := B.bytes
  have hrt := B.returns
  have hts := atoms_spec (ws := wsX5_get) B.pre
  have hown : s.vm.findClass RX5 = some m.cls := findClass_of_methodNamed B.named
  have hlocks := B.notSynchronized
  obtain ⟨rfl, hB⟩ := m_start hv
  generalize va_A (m_w L ad g) sz = A at hB ⊢
  generalize s.heap = H at hB ⊢
  generalize ([] : List Loc) = locs at hB ⊢
  have hl := lv_entry ([.ref (ad r), .int i]) (n := 2) (Nat.le_of_ble_eq_true rfl)
  rw [lg_entry_eq]
  generalize (lg_sl ([.ref (ad r), .int i]) ++ List.replicate (2 - (lg_sl ([.ref (ad r), .int i])).length) Slot.unset).toArray = ls at hl ⊢
  have hl : lv_has ls 2 [(0, .ref (ad r)), (1, .int i)] := hl
  refine lv_iload_n hx hb dX5_get_0 rfl (lv_at hl 1 rfl) ?_
  refine lv_aload_n hx hb dX5_get_1 rfl (lv_at hl 0 rfl) ?_
  refine m_get (C := RX5) (T := TX5) (N := 2) (ci := 5) hx hb hts in_X5_get_X5 hown hB m_r h_r rfl 1 (by decide) (hts (.fieldLink RX5 21 "PaperRoom$Row" "length" "I") (by decide +kernel)) (fun _ h9 => h9) rfl dX5_get_2 ?_
  refine m_callSNE (As := [.int i, .int (nI n)]) (rest := []) (c_isBelow_f l D ty L ad g _ _ hi) ⟨hx, hb, hml, hown, hts⟩ ⟨va_cnB 2 hts gX5_get_X8_isBelow_n25 rfl rfl rfl hB.2.1.2.2.2.2.2.2.1 (hts (.initialized RX8) (by decide +kernel)) (by decide +kernel) ⟨Nat.le_of_ble_eq_true rfl, Nat.le_of_ble_eq_true rfl⟩, hts (.static yX8_isBelow) (by decide +kernel), trivial⟩ hB rfl hl.1 rfl (Nat.le_of_ble_eq_true rfl) dX5_get_5 ⟨Nat.le_of_ble_eq_true rfl, Nat.le_of_ble_eq_true rfl⟩ (fun H locs hB => ?_)
  refine b_if_eq_t 29 hx hb dX5_get_8 (by decide) (by decide) ?_
  refine lv_bipush (v := (-9)) hx hb dX5_get_29 (by decide) ?_
  exact m_iret hx hb hrt hlocks hB (Nat.le_refl _) (Nat.le_refl _) dX5_get_31 ⟨rfl, rfl, rfl, rfl⟩
