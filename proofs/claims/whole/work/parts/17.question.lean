set_option maxHeartbeats 1000000 in
set_option maxRecDepth 100000 in
theorem c_fill (l : Launch) (D : va_G) (ty : Nat → ClassId) (L : List Nat) (ad : Nat → Nat) (g : Nat → va_E) (a n : Nat) (f : Nat → Int32) (v : Int32) (m_a : a ∈ L) (h_a : g a = .inl (ty 0, n, .inl f)) (hn : n ≤ 1000) : m_E l yJ7_fill_53178 wsJ7_fill_53178 0 0 D ty [.ref (ad a), .int v] L ad g none (va_up g a (.inl (ty 0, n, .inl (fl_f f v n)))) := by
  intro sz
  refine Met.ofW (cc := cJ7_fill_53178) (maxL := 4) (ret := none) (by decide) rfl ?_
  intro p e s m args below meth c s₁ B hml hv
  have hx := B.exec
  have hb := B.bytes
  have hrt := B.returns
  have hts := atoms_spec (ws := wsJ7_fill_53178) B.pre
  have hown : s.vm.findClass RJ7 = some m.cls := findClass_of_methodNamed B.named
  have hlocks := B.notSynchronized
  obtain ⟨rfl, hB⟩ := m_start hv
  generalize va_A (m_w L ad g) sz = A at hB ⊢
  generalize s.heap = H at hB ⊢
  generalize ([] : List Loc) = locs at hB ⊢
  have hl := lv_entry ([.ref (ad a), .int v]) (n := 4) (Nat.le_of_ble_eq_true rfl)
  rw [lg_entry_eq]
  generalize (lg_sl ([.ref (ad a), .int v]) ++ List.replicate (4 - (lg_sl ([.ref (ad a), .int v])).length) Slot.unset).toArray = ls at hl ⊢
  have hl : lv_has ls 4 [(0, .ref (ad a)), (1, .int v)] := hl
  have tI_n : (nI n).toInt = (n : Int) := nI_toInt (by omega)
  refine lv_iconst (v := 0) hx hb dJ7_fill_53178_0 (by decide) ?_
  refine lv_istore_n (lv' := [(2, .int 0), (0, .ref (ad a)), (1, .int v)]) hx hb dJ7_fill_53178_1 rfl hl (by decide) rfl (fun ls hl => ?_)
  refine lv_aload_n hx hb dJ7_fill_53178_2 rfl (lv_at hl 1 rfl) ?_
  refine m_alen hx hb hB m_a 0 h_a rfl (v := nI n) rfl dJ7_fill_53178_3 ?_
  refine lv_istore_n (lv' := [(3, .int (nI n)), (2, .int 0), (0, .ref (ad a)), (1, .int v)]) hx hb dJ7_fill_53178_4 rfl hl (by decide) rfl (fun ls hl => ?_)
  replace hl : lv_has ls 4 [(0, .ref (ad a)), (1, .int v), (2, .int 0), (3, .int (nI n))] := lv_sub hl [2, 3, 1, 0] rfl
  obtain ⟨k, hk0⟩ : ∃ k : Nat, k = 0 := ⟨0, rfl⟩
  replace hB : m_B D ty A s L ad (va_up g a (.inl (ty 0, n, .inl (fl_f f v k)))) H locs := by
    rw [hk0]
    rw [fl_0, up_same h_a]; exact hB
  replace hl : lv_has ls 4 [(0, .ref (ad a)), (1, .int v), (2, .int (nI k)), (3, .int (nI n))] := by rw [hk0]; exact hl
  obtain ⟨jz, hj⟩ : ∃ jz : Nat, k + jz = n := ⟨n - k, by omega⟩
  clear hk0
  induction jz generalizing k H locs ls with
  | zero =>
    have hje : k = n := by omega
    have tI_k : (nI k).toInt = (k : Int) := nI_toInt (by omega)
    refine lv_iload_n hx hb dJ7_fill_53178_5 rfl (lv_at hl 2 rfl) ?_
    refine lv_iload_n hx hb dJ7_fill_53178_6 rfl (lv_at hl 3 rfl) ?_
    refine b_icmp_ge_t 20 hx hb dJ7_fill_53178_7 (by decide) (by omega) ?_
    exact m_vret hx hb hrt hlocks hB (Nat.le_refl _) (Nat.le_refl _) dJ7_fill_53178_20 ⟨rfl, rfl, rfl, by rw [hje]⟩
  | succ jz ihj =>
    have hjl : k < n := by omega
    have tI_k : (nI k).toInt = (k : Int) := nI_toInt (by omega)
    refine lv_iload_n hx hb dJ7_fill_53178_5 rfl (lv_at hl 2 rfl) ?_
    refine lv_iload_n hx hb dJ7_fill_53178_6 rfl (lv_at hl 3 rfl) ?_
    refine b_icmp_ge_f 20 hx hb dJ7_fill_53178_7 (by decide) (by omega) ?_
    refine lv_aload_n hx hb dJ7_fill_53178_10 rfl (lv_at hl 0 rfl) ?_
    refine lv_iload_n hx hb dJ7_fill_53178_11 rfl (lv_at hl 2 rfl) ?_
    refine lv_iload_n hx hb dJ7_fill_53178_12 rfl (lv_at hl 1 rfl) ?_
    refine n_iast hx hb hB m_a (va_up_self _ _ _) k rfl (by omega) (by omega) dJ7_fill_53178_13 (fun H locs hB => ?_)
    replace hB : m_B D ty A s L ad (va_up (va_up g a (.inl (ty 0, n, .inl (fl_f f v k)))) a (.inl (ty 0, n, .inl (upd (fl_f f v k) k v)))) H locs := hB
    refine lv_iinc (v := nI (k + 1)) (lv' := [(2, .int (nI (k + 1))), (0, .ref (ad a)), (1, .int v), (3, .int (nI n))]) hx hb dJ7_fill_53178_14 hl (k := 2) rfl (nI_add k 1) (by decide) rfl (fun ls hl => ?_)
    refine lv_goto (tgt := 5) hx hb dJ7_fill_53178_17 (by decide) ?_
    have hB : m_B D ty A s L ad (va_up g a (.inl (ty 0, n, .inl (fl_f f v (k + 1))))) H locs := by
      rw [bx_uu, fl_1] at hB; exact hB
    have hl : lv_has ls 4 [(0, .ref (ad a)), (1, .int v), (2, .int (nI (k + 1))), (3, .int (nI n))] := lv_sub hl [1, 2, 0, 3] rfl
    apply ihj (k := (k + 1)) (H := H) (locs := locs) (ls := ls) <;> first | omega | exact hB | exact hl
set_option maxHeartbeats 1000000 in
set_option maxRecDepth 100000 in
theorem c_bitCount (l : Launch) (D : va_G) (ty : Nat → ClassId) (L : List Nat) (ad : Nat → Nat) (g : Nat → va_E) (x : Int32)  : m_E l yJ6_bitCount_0f7a4 wsJ6_bitCount_0f7a4 0 0 D ty [.int x] L ad g (some (.int (bc x))) g := by
  intro sz
  refine Met.ofW (cc := cJ6_bitCount_0f7a4) (maxL := 1) (ret := (some .int)) (by decide) rfl ?_
  intro p e s m args below meth c s₁ B hml hv
  have hx := B.exec
  have hb := B.bytes
  have hrt := B.returns
  have hts := atoms_spec (ws := wsJ6_bitCount_0f7a4) B.pre
  have hown : s.vm.findClass RJ6 = some m.cls := findClass_of_methodNamed B.named
  have hlocks := B.notSynchronized
  obtain ⟨rfl, hB⟩ := m_start hv
  generalize va_A (m_w L ad g) sz = A at hB ⊢
  generalize s.heap = H at hB ⊢
  generalize ([] : List Loc) = locs at hB ⊢
  have hl := lv_entry ([.int x]) (n := 1) (Nat.le_of_ble_eq_true rfl)
  rw [lg_entry_eq]
  generalize (lg_sl ([.int x]) ++ List.replicate (1 - (lg_sl ([.int x])).length) Slot.unset).toArray = ls at hl ⊢
  have hl : lv_has ls 1 [(0, .int x)] := hl
  refine lv_iload_n hx hb dJ6_bitCount_0f7a4_0 rfl (lv_at hl 0 rfl) ?_
  refine lv_iload_n hx hb dJ6_bitCount_0f7a4_1 rfl (lv_at hl 0 rfl) ?_
  refine lv_iconst (v := 1) hx hb dJ6_bitCount_0f7a4_2 (by decide) ?_
  refine lv_iushr hx hb dJ6_bitCount_0f7a4_3 rfl ?_
  refine lv_ldcw hx hb hown (hts (.constant RJ6 265 (1431655765)) (by decide +kernel)) dJ6_bitCount_0f7a4_4 ?_
  refine lv_iand hx hb dJ6_bitCount_0f7a4_7 ?_
  refine lv_isub hx hb dJ6_bitCount_0f7a4_8 ?_
  refine b_topi (w := bc1 x) (rfl) ?_
  refine lv_istore_n (lv' := [(0, .int (bc1 x))]) hx hb dJ6_bitCount_0f7a4_9 rfl hl (by decide) rfl (fun ls hl => ?_)
  refine lv_iload_n hx hb dJ6_bitCount_0f7a4_10 rfl (lv_at hl 0 rfl) ?_
  refine lv_ldcw hx hb hown (hts (.constant RJ6 266 (858993459)) (by decide +kernel)) dJ6_bitCount_0f7a4_11 ?_
  refine lv_iand hx hb dJ6_bitCount_0f7a4_14 ?_
  refine lv_iload_n hx hb dJ6_bitCount_0f7a4_15 rfl (lv_at hl 0 rfl) ?_
  refine lv_iconst (v := 2) hx hb dJ6_bitCount_0f7a4_16 (by decide) ?_
  refine lv_iushr hx hb dJ6_bitCount_0f7a4_17 rfl ?_
  refine lv_ldcw hx hb hown (hts (.constant RJ6 266 (858993459)) (by decide +kernel)) dJ6_bitCount_0f7a4_18 ?_
  refine lv_iand hx hb dJ6_bitCount_0f7a4_21 ?_
  refine lv_iadd hx hb dJ6_bitCount_0f7a4_22 ?_
  refine b_topi (w := bc2 (bc1 x)) (rfl) ?_
  refine lv_istore_n (lv' := [(0, .int (bc2 (bc1 x)))]) hx hb dJ6_bitCount_0f7a4_23 rfl hl (by decide) rfl (fun ls hl => ?_)
  refine lv_iload_n hx hb dJ6_bitCount_0f7a4_24 rfl (lv_at hl 0 rfl) ?_
  refine lv_iload_n hx hb dJ6_bitCount_0f7a4_25 rfl (lv_at hl 0 rfl) ?_
  refine lv_iconst (v := 4) hx hb dJ6_bitCount_0f7a4_26 (by decide) ?_
  refine lv_iushr hx hb dJ6_bitCount_0f7a4_27 rfl ?_
  refine lv_iadd hx hb dJ6_bitCount_0f7a4_28 ?_
  refine lv_ldcw hx hb hown (hts (.constant RJ6 267 (252645135)) (by decide +kernel)) dJ6_bitCount_0f7a4_29 ?_
  refine lv_iand hx hb dJ6_bitCount_0f7a4_32 ?_
  refine b_topi (w := bc3 (bc2 (bc1 x))) (rfl) ?_
  refine lv_istore_n (lv' := [(0, .int (bc3 (bc2 (bc1 x))))]) hx hb dJ6_bitCount_0f7a4_33 rfl hl (by decide) rfl (fun ls hl => ?_)
  refine lv_iload_n hx hb dJ6_bitCount_0f7a4_34 rfl (lv_at hl 0 rfl) ?_
  refine lv_iload_n hx hb dJ6_bitCount_0f7a4_35 rfl (lv_at hl 0 rfl) ?_
  refine lv_bipush (v := 8) hx hb dJ6_bitCount_0f7a4_36 (by decide) ?_
  refine lv_iushr hx hb dJ6_bitCount_0f7a4_38 rfl ?_
  refine lv_iadd hx hb dJ6_bitCount_0f7a4_39 ?_
  refine b_topi (w := bc4 (bc3 (bc2 (bc1 x)))) (rfl) ?_
  refine lv_istore_n (lv' := [(0, .int (bc4 (bc3 (bc2 (bc1 x)))))]) hx hb dJ6_bitCount_0f7a4_40 rfl hl (by decide) rfl (fun ls hl => ?_)
  refine lv_iload_n hx hb dJ6_bitCount_0f7a4_41 rfl (lv_at hl 0 rfl) ?_
  refine lv_iload_n hx hb dJ6_bitCount_0f7a4_42 rfl (lv_at hl 0 rfl) ?_
  refine lv_bipush (v := 16) hx hb dJ6_bitCount_0f7a4_43 (by decide) ?_
  refine lv_iushr hx hb dJ6_bitCount_0f7a4_45 rfl ?_
  refine lv_iadd hx hb dJ6_bitCount_0f7a4_46 ?_
  refine lv_istore_n (lv' := [(0, .int ((bc4 (bc3 (bc2 (bc1 x)))) + (((bc4 (bc3 (bc2 (bc1 x)))).toUInt32 >>> ((16 : Int32).toUInt32 &&& Int32.toUInt32 31)).toInt32)))]) hx hb dJ6_bitCount_0f7a4_47 rfl hl (by decide) rfl (fun ls hl => ?_)
  refine lv_iload_n hx hb dJ6_bitCount_0f7a4_48 rfl (lv_at hl 0 rfl) ?_
  refine lv_bipush (v := 63) hx hb dJ6_bitCount_0f7a4_49 (by decide) ?_
  refine lv_iand hx hb dJ6_bitCount_0f7a4_51 ?_
  refine b_topi (w := bc x) (rfl) ?_
  exact m_iret hx hb hrt hlocks hB (Nat.le_refl _) (Nat.le_refl _) dJ6_bitCount_0f7a4_52 ⟨rfl, rfl, rfl, rfl⟩
set_option maxRecDepth 20000 in
theorem in_X3_paperNumber_X3 : ∀ w ∈ wsX30, w ∈ wsX3_paperNumber := by decide +kernel
set_option maxHeartbeats 1000000 in
set_option maxRecDepth 100000 in
theorem c_Question_paperNumber (l : Launch) (D : va_G) (ty : Nat → ClassId) (L : List Nat) (ad : Nat → Nat) (g : Nat → va_E) (q : Nat) (pn tp ak rc sv : Int32) (m_q : q ∈ L) (h_q : g q = .inr (3, [.int pn, .int tp, .int ak, .int rc, .int sv])) : m_E l yX3_paperNumber wsX3_paperNumber 0 0 D ty [.ref (ad q)] L ad g (some (.int pn)) g := by
  intro sz
  refine Met.ofW (cc := cX3_paperNumber) (maxL := 1) (ret := (some .int)) (by decide) rfl ?_
  intro p e s m args below meth c s₁ B hml hv
  have hx := B.exec
  have hb := B.bytes
  have hrt := B.returns
  have hts := atoms_spec (ws := wsX3_paperNumber) B.pre
  have hown : s.vm.findClass RX3 = some m.cls := findClass_of_methodNamed B.named
  have hlocks := B.notSynchronized
  obtain ⟨rfl, hB⟩ := m_start hv
  generalize va_A (m_w L ad g) sz = A at hB ⊢
  generalize s.heap = H at hB ⊢
  generalize ([] : List Loc) = locs at hB ⊢
  have hl := lv_entry ([.ref (ad q)]) (n := 1) (Nat.le_of_ble_eq_true rfl)
  rw [lg_entry_eq]
  generalize (lg_sl ([.ref (ad q)]) ++ List.replicate (1 - (lg_sl ([.ref (ad q)])).length) Slot.unset).toArray = ls at hl ⊢
  have hl : lv_has ls 1 [(0, .ref (ad q))] := hl
  refine lv_aload_n hx hb dX3_paperNumber_0 rfl (lv_at hl 0 rfl) ?_
  refine m_get (C := RX3) (T := TX3) (N := 5) (ci := 3) hx hb hts in_X3_paperNumber_X3 hown hB m_q h_q rfl 0 (by decide) (hts (.fieldLink RX3 15 "PaperRoom$Question" "paperNumber" "I") (by decide +kernel)) (fun _ h9 => h9) rfl dX3_paperNumber_1 ?_
  exact m_iret hx hb hrt hlocks hB (Nat.le_refl _) (Nat.le_refl _) dX3_paperNumber_4 ⟨rfl, rfl, rfl, rfl⟩
set_option maxRecDepth 20000 in
theorem in_X3_topic_X3 : ∀ w ∈ wsX30, w ∈ wsX3_topic := by decide +kernel
set_option maxHeartbeats 1000000 in
set_option maxRecDepth 100000 in
theorem c_Question_topic (l : Launch) (D : va_G) (ty : Nat → ClassId) (L : List Nat) (ad : Nat → Nat) (g : Nat → va_E) (q : Nat) (pn tp ak rc sv : Int32) (m_q : q ∈ L) (h_q : g q = .inr (3, [.int pn, .int tp, .int ak, .int rc, .int sv])) : m_E l yX3_topic wsX3_topic 0 0 D ty [.ref (ad q)] L ad g (some (.int tp)) g := by
  intro sz
  refine Met.ofW (cc := cX3_topic) (maxL := 1) (ret := (some .int)) (by decide) rfl ?_
  intro p e s m args below meth c s₁ B hml hv
  have hx := B.exec
  have hb := B.bytes
  have hrt := B.returns
  have hts := atoms_spec (ws := wsX3_topic) B.pre
  have hown : s.vm.findClass RX3 = some m.cls := findClass_of_methodNamed B.named
  have hlocks := B.notSynchronized
  obtain ⟨rfl, hB⟩ := m_start hv
  generalize va_A (m_w L ad g) sz = A at hB ⊢
  generalize s.heap = H at hB ⊢
  generalize ([] : List Loc) = locs at hB ⊢
  have hl := lv_entry ([.ref (ad q)]) (n := 1) (Nat.le_of_ble_eq_true rfl)
  rw [lg_entry_eq]
  generalize (lg_sl ([.ref (ad q)]) ++ List.replicate (1 - (lg_sl ([.ref (ad q)])).length) Slot.unset).toArray = ls at hl ⊢
  have hl : lv_has ls 1 [(0, .ref (ad q))] := hl
  refine lv_aload_n hx hb dX3_topic_0 rfl (lv_at hl 0 rfl) ?_
  refine m_get (C := RX3) (T := TX3) (N := 5) (ci := 3) hx hb hts in_X3_topic_X3 hown hB m_q h_q rfl 1 (by decide) (hts (.fieldLink RX3 18 "PaperRoom$Question" "topic" "I") (by decide +kernel)) (fun _ h9 => h9) rfl dX3_topic_1 ?_
  exact m_iret hx hb hrt hlocks hB (Nat.le_refl _) (Nat.le_refl _) dX3_topic_4 ⟨rfl, rfl, rfl, rfl⟩
set_option maxRecDepth 20000 in
theorem in_X3_askers_X3 : ∀ w ∈ wsX30, w ∈ wsX3_askers := by decide +kernel
set_option maxHeartbeats 1000000 in
set_option maxRecDepth 100000 in
theorem c_Question_askers (l : Launch) (D : va_G) (ty : Nat → ClassId) (L : List Nat) (ad : Nat → Nat) (g : Nat → va_E) (q : Nat) (pn tp ak rc sv : Int32) (m_q : q ∈ L) (h_q : g q = .inr (3, [.int pn, .int tp, .int ak, .int rc, .int sv])) : m_E l yX3_askers wsX3_askers 0 0 D ty [.ref (ad q)] L ad g (some (.int ak)) g := by
  intro sz
  refine Met.ofW (cc := cX3_askers) (maxL := 1) (ret := (some .int)) (by decide) rfl ?_
  intro p e s m args below meth c s₁ B hml hv
  have hx := B.exec
  have hb := B.bytes
  have hrt := B.returns
  have hts := atoms_spec (ws := wsX3_askers) B.pre
  have hown : s.vm.findClass RX3 = some m.cls := findClass_of_methodNamed B.named
  have hlocks := B.notSynchronized
  obtain ⟨rfl, hB⟩ := m_start hv
  generalize va_A (m_w L ad g) sz = A at hB ⊢
  generalize s.heap = H at hB ⊢
  generalize ([] : List Loc) = locs at hB ⊢
  have hl := lv_entry ([.ref (ad q)]) (n := 1) (Nat.le_of_ble_eq_true rfl)
  rw [lg_entry_eq]
  generalize (lg_sl ([.ref (ad q)]) ++ List.replicate (1 - (lg_sl ([.ref (ad q)])).length) Slot.unset).toArray = ls at hl ⊢
  have hl : lv_has ls 1 [(0, .ref (ad q))] := hl
  refine lv_aload_n hx hb dX3_askers_0 rfl (lv_at hl 0 rfl) ?_
  refine m_get (C := RX3) (T := TX3) (N := 5) (ci := 3) hx hb hts in_X3_askers_X3 hown hB m_q h_q rfl 2 (by decide) (hts (.fieldLink RX3 21 "PaperRoom$Question" "askers" "I") (by decide +kernel)) (fun _ h9 => h9) rfl dX3_askers_1 ?_
  exact m_iret hx hb hrt hlocks hB (Nat.le_refl _) (Nat.le_refl _) dX3_askers_4 ⟨rfl, rfl, rfl, rfl⟩
set_option maxRecDepth 20000 in
theorem in_X3_reach_X3 : ∀ w ∈ wsX30, w ∈ wsX3_reach := by decide +kernel
set_option maxHeartbeats 1000000 in
set_option maxRecDepth 100000 in
theorem c_Question_reach (l : Launch) (D : va_G) (ty : Nat → ClassId) (L : List Nat) (ad : Nat → Nat) (g : Nat → va_E) (q : Nat) (pn tp ak rc sv : Int32) (m_q : q ∈ L) (h_q : g q = .inr (3, [.int pn, .int tp, .int ak, .int rc, .int sv])) : m_E l yX3_reach wsX3_reach 0 0 D ty [.ref (ad q)] L ad g (some (.int rc)) g := by
  intro sz
  refine Met.ofW (cc := cX3_reach) (maxL := 1) (ret := (some .int)) (by decide) rfl ?_
  intro p e s m args below meth c s₁ B hml hv
  have hx := B.exec
  have hb := B.bytes
  have hrt := B.returns
  have hts := atoms_spec (ws := wsX3_reach) B.pre
  have hown : s.vm.findClass RX3 = some m.cls := findClass_of_methodNamed B.named
  have hlocks := B.notSynchronized
  obtain ⟨rfl, hB⟩ := m_start hv
  generalize va_A (m_w L ad g) sz = A at hB ⊢
  generalize s.heap = H at hB ⊢
  generalize ([] : List Loc) = locs at hB ⊢
  have hl := lv_entry ([.ref (ad q)]) (n := 1) (Nat.le_of_ble_eq_true rfl)
  rw [lg_entry_eq]
  generalize (lg_sl ([.ref (ad q)]) ++ List.replicate (1 - (lg_sl ([.ref (ad q)])).length) Slot.unset).toArray = ls at hl ⊢
  have hl : lv_has ls 1 [(0, .ref (ad q))] := hl
  refine lv_aload_n hx hb dX3_reach_0 rfl (lv_at hl 0 rfl) ?_
  refine m_get (C := RX3) (T := TX3) (N := 5) (ci := 3) hx hb hts in_X3_reach_X3 hown hB m_q h_q rfl 3 (by decide) (hts (.fieldLink RX3 9 "PaperRoom$Question" "reach" "I") (by decide +kernel)) (fun _ h9 => h9) rfl dX3_reach_1 ?_
  exact m_iret hx hb hrt hlocks hB (Nat.le_refl _) (Nat.le_refl _) dX3_reach_4 ⟨rfl, rfl, rfl, rfl⟩
set_option maxRecDepth 20000 in
theorem in_X3_settled_X3 : ∀ w ∈ wsX30, w ∈ wsX3_settled := by decide +kernel
set_option maxHeartbeats 1000000 in
set_option maxRecDepth 100000 in
theorem c_Question_settled (l : Launch) (D : va_G) (ty : Nat → ClassId) (L : List Nat) (ad : Nat → Nat) (g : Nat → va_E) (q : Nat) (pn tp ak rc sv : Int32) (m_q : q ∈ L) (h_q : g q = .inr (3, [.int pn, .int tp, .int ak, .int rc, .int sv])) : m_E l yX3_settled wsX3_settled 0 0 D ty [.ref (ad q)] L ad g (some (.int sv)) g := by
  intro sz
  refine Met.ofW (cc := cX3_settled) (maxL := 1) (ret := (some .int)) (by decide) rfl ?_
  intro p e s m args below meth c s₁ B hml hv
  have hx := B.exec
  have hb := B.bytes
  have hrt := B.returns
  have hts := atoms_spec (ws := wsX3_settled) B.pre
  have hown : s.vm.findClass RX3 = some m.cls := findClass_of_methodNamed B.named
  have hlocks := B.notSynchronized
  obtain ⟨rfl, hB⟩ := m_start hv
  generalize va_A (m_w L ad g) sz = A at hB ⊢
  generalize s.heap = H at hB ⊢
  generalize ([] : List Loc) = locs at hB ⊢
  have hl := lv_entry ([.ref (ad q)]) (n := 1) (Nat.le_of_ble_eq_true rfl)
  rw [lg_entry_eq]
  generalize (lg_sl ([.ref (ad q)]) ++ List.replicate (1 - (lg_sl ([.ref (ad q)])).length) Slot.unset).toArray = ls at hl ⊢
  have hl : lv_has ls 1 [(0, .ref (ad q))] := hl
  refine lv_aload_n hx hb dX3_settled_0 rfl (lv_at hl 0 rfl) ?_
  refine m_get (C := RX3) (T := TX3) (N := 5) (ci := 3) hx hb hts in_X3_settled_X3 hown hB m_q h_q rfl 4 (by decide) (hts (.fieldLink RX3 24 "PaperRoom$Question" "settled" "I") (by decide +kernel)) (fun _ h9 => h9) rfl dX3_settled_1 ?_
  exact m_iret hx hb hrt hlocks hB (Nat.le_refl _) (Nat.le_refl _) dX3_settled_4 ⟨rfl, rfl, rfl, rfl⟩
set_option maxRecDepth 20000 in
theorem in_X3_isOn_X3 : ∀ w ∈ wsX30, w ∈ wsX3_isOn := by decide +kernel
set_option maxHeartbeats 1000000 in
set_option maxRecDepth 100000 in
theorem c_Question_isOn (l : Launch) (D : va_G) (ty : Nat → ClassId) (L : List Nat) (ad : Nat → Nat) (g : Nat → va_E) (q : Nat) (pn tp ak rc sv : Int32) (p2 t2 : Int32) (m_q : q ∈ L) (h_q : g q = .inr (3, [.int pn, .int tp, .int ak, .int rc, .int sv])) : m_E l yX3_isOn wsX3_isOn 0 0 D ty [.ref (ad q), .int p2, .int t2] L ad g (some (.int (zb (decide (pn = p2 ∧ tp = t2))))) g := by
  intro sz
  refine Met.ofW (cc := cX3_isOn) (maxL := 3) (ret := (some .boolean)) (by decide) rfl ?_
  intro p e s m args below meth c s₁ B hml hv
  have hx := B.exec
  have hb := B.bytes
  have hrt := B.returns
  have hts := atoms_spec (ws := wsX3_isOn) B.pre
  have hown : s.vm.findClass RX3 = some m.cls := findClass_of_methodNamed B.named
  have hlocks := B.notSynchronized
  obtain ⟨rfl, hB⟩ := m_start hv
  generalize va_A (m_w L ad g) sz = A at hB ⊢
  generalize s.heap = H at hB ⊢
  generalize ([] : List Loc) = locs at hB ⊢
  have hl := lv_entry ([.ref (ad q), .int p2, .int t2]) (n := 3) (Nat.le_of_ble_eq_true rfl)
  rw [lg_entry_eq]
  generalize (lg_sl ([.ref (ad q), .int p2, .int t2]) ++ List.replicate (3 - (lg_sl ([.ref (ad q), .int p2, .int t2])).length) Slot.unset).toArray = ls at hl ⊢
  have hl : lv_has ls 3 [(0, .ref (ad q)), (1, .int p2), (2, .int t2)] := hl
  by_cases h1 : pn = p2
  · skip
    by_cases h2 : tp = t2
    · skip
      refine lv_aload_n hx hb dX3_isOn_0 rfl (lv_at hl 0 rfl) ?_
      refine m_get (C := RX3) (T := TX3) (N := 5) (ci := 3) hx hb hts in_X3_isOn_X3 hown hB m_q h_q rfl 0 (by decide) (hts (.fieldLink RX3 15 "PaperRoom$Question" "paperNumber" "I") (by decide +kernel)) (fun _ h9 => h9) rfl dX3_isOn_1 ?_
      refine lv_iload_n hx hb dX3_isOn_4 rfl (lv_at hl 1 rfl) ?_
      refine b_icmp_ne_f 20 hx hb dX3_isOn_5 (by decide) (by rw [h1]) ?_
      refine lv_aload_n hx hb dX3_isOn_8 rfl (lv_at hl 0 rfl) ?_
      refine m_get (C := RX3) (T := TX3) (N := 5) (ci := 3) hx hb hts in_X3_isOn_X3 hown hB m_q h_q rfl 1 (by decide) (hts (.fieldLink RX3 18 "PaperRoom$Question" "topic" "I") (by decide +kernel)) (fun _ h9 => h9) rfl dX3_isOn_9 ?_
      refine lv_iload_n hx hb dX3_isOn_12 rfl (lv_at hl 2 rfl) ?_
      refine b_icmp_ne_f 20 hx hb dX3_isOn_13 (by decide) (by rw [h2]) ?_
      refine lv_iconst (v := 1) hx hb dX3_isOn_16 (by decide) ?_
      refine lv_goto (tgt := 21) hx hb dX3_isOn_17 (by decide) ?_
      exact m_zret hx hb hrt hlocks hB (Nat.le_refl _) (Nat.le_refl _) dX3_isOn_21 rfl ⟨zt (dt ⟨h1, h2⟩), rfl, rfl, rfl⟩
    · skip
      refine lv_aload_n hx hb dX3_isOn_0 rfl (lv_at hl 0 rfl) ?_
      refine m_get (C := RX3) (T := TX3) (N := 5) (ci := 3) hx hb hts in_X3_isOn_X3 hown hB m_q h_q rfl 0 (by decide) (hts (.fieldLink RX3 15 "PaperRoom$Question" "paperNumber" "I") (by decide +kernel)) (fun _ h9 => h9) rfl dX3_isOn_1 ?_
      refine lv_iload_n hx hb dX3_isOn_4 rfl (lv_at hl 1 rfl) ?_
      refine b_icmp_ne_f 20 hx hb dX3_isOn_5 (by decide) (by rw [h1]) ?_
      refine lv_aload_n hx hb dX3_isOn_8 rfl (lv_at hl 0 rfl) ?_
      refine m_get (C := RX3) (T := TX3) (N := 5) (ci := 3) hx hb hts in_X3_isOn_X3 hown hB m_q h_q rfl 1 (by decide) (hts (.fieldLink RX3 18 "PaperRoom$Question" "topic" "I") (by decide +kernel)) (fun _ h9 => h9) rfl dX3_isOn_9 ?_
      refine lv_iload_n hx hb dX3_isOn_12 rfl (lv_at hl 2 rfl) ?_
      refine b_icmp_ne_t 20 hx hb dX3_isOn_13 (by decide) (fun h9 => h2 ((i_eq _ _).mpr h9)) ?_
      refine lv_iconst (v := 0) hx hb dX3_isOn_20 (by decide) ?_
      exact m_zret hx hb hrt hlocks hB (Nat.le_refl _) (Nat.le_refl _) dX3_isOn_21 rfl ⟨zf (df (fun h => h2 h.2)), rfl, rfl, rfl⟩
  · skip
    refine lv_aload_n hx hb dX3_isOn_0 rfl (lv_at hl 0 rfl) ?_
    refine m_get (C := RX3) (T := TX3) (N := 5) (ci := 3) hx hb hts in_X3_isOn_X3 hown hB m_q h_q rfl 0 (by decide) (hts (.fieldLink RX3 15 "PaperRoom$Question" "paperNumber" "I") (by decide +kernel)) (fun _ h9 => h9) rfl dX3_isOn_1 ?_
    refine lv_iload_n hx hb dX3_isOn_4 rfl (lv_at hl 1 rfl) ?_
    refine b_icmp_ne_t 20 hx hb dX3_isOn_5 (by decide) (fun h9 => h1 ((i_eq _ _).mpr h9)) ?_
    refine lv_iconst (v := 0) hx hb dX3_isOn_20 (by decide) ?_
    exact m_zret hx hb hrt hlocks hB (Nat.le_refl _) (Nat.le_refl _) dX3_isOn_21 rfl ⟨zf (df (fun h => h1 h.1)), rfl, rfl, rfl⟩
set_option maxRecDepth 20000 in
theorem in_X3_join_X3 : ∀ w ∈ wsX30, w ∈ wsX3_join := by decide +kernel
set_option maxHeartbeats 1000000 in
set_option maxRecDepth 100000 in
theorem c_Question_join (l : Launch) (D : va_G) (ty : Nat → ClassId) (L : List Nat) (ad : Nat → Nat) (g : Nat → va_E) (q : Nat) (pn tp ak rc sv : Int32) (b : Int32) (m_q : q ∈ L) (h_q : g q = .inr (3, [.int pn, .int tp, .int ak, .int rc, .int sv])) : m_E l yX3_join wsX3_join 0 0 D ty [.ref (ad q), .int b] L ad g none (va_up g q (.inr (3, [.int pn, .int tp, .int (ak ||| (1 <<< (b &&& 31))), .int rc, .int sv]))) := by
  intro sz
  refine Met.ofW (cc := cX3_join) (maxL := 2) (ret := none) (by decide) rfl ?_
  intro p e s m args below meth c s₁ B hml hv
  have hx := B.exec
  have hb := B.bytes
  have hrt := B.returns
  have hts := atoms_spec (ws := wsX3_join) B.pre
  have hown : s.vm.findClass RX3 = some m.cls := findClass_of_methodNamed B.named
  have hlocks := B.notSynchronized
  obtain ⟨rfl, hB⟩ := m_start hv
  generalize va_A (m_w L ad g) sz = A at hB ⊢
  generalize s.heap = H at hB ⊢
  generalize ([] : List Loc) = locs at hB ⊢
  have hl := lv_entry ([.ref (ad q), .int b]) (n := 2) (Nat.le_of_ble_eq_true rfl)
  rw [lg_entry_eq]
  generalize (lg_sl ([.ref (ad q), .int b]) ++ List.replicate (2 - (lg_sl ([.ref (ad q), .int b])).length) Slot.unset).toArray = ls at hl ⊢
  have hl : lv_has ls 2 [(0, .ref (ad q)), (1, .int b)] := hl
  refine lv_aload_n hx hb dX3_join_0 rfl (lv_at hl 0 rfl) ?_
  refine lv_dup hx hb dX3_join_1 rfl ?_
  refine m_get (C := RX3) (T := TX3) (N := 5) (ci := 3) hx hb hts in_X3_join_X3 hown hB m_q h_q rfl 2 (by decide) (hts (.fieldLink RX3 21 "PaperRoom$Question" "askers" "I") (by decide +kernel)) (fun _ h9 => h9) rfl dX3_join_2 ?_
  refine lv_iconst (v := 1) hx hb dX3_join_5 (by decide) ?_
  refine lv_iload_n hx hb dX3_join_6 rfl (lv_at hl 1 rfl) ?_
  refine lv_ishl hx hb dX3_join_7 ?_
  refine lv_ior hx hb dX3_join_8 ?_
  refine m_put (C := RX3) (T := TX3) (N := 5) (ci := 3) (v := .int (ak ||| (1 <<< (b &&& 31)))) (ft := .int) hx hb hts in_X3_join_X3 tyX3 tyX3_ok nmX3 hown hB m_q h_q rfl 2 (by decide) (hts (.fieldLink RX3 21 "PaperRoom$Question" "askers" "I") (by decide +kernel)) (fun _ h9 => h9) rfl (by decide +kernel) rfl rfl (Nat.le_of_ble_eq_true rfl) dX3_join_9 (fun H locs hB => ?_)
  replace hB : m_B D ty A s L ad (va_up g q (.inr (3, [.int pn, .int tp, .int (ak ||| (1 <<< (b &&& 31))), .int rc, .int sv]))) H locs := hB
  exact m_vret hx hb hrt hlocks hB (Nat.le_refl _) (Nat.le_refl _) dX3_join_12 ⟨rfl, rfl, rfl, rfl⟩
set_option maxRecDepth 20000 in
theorem in_X3_settle_X3 : ∀ w ∈ wsX30, w ∈ wsX3_settle := by decide +kernel
set_option maxHeartbeats 1000000 in
set_option maxRecDepth 100000 in
theorem c_Question_settle (l : Launch) (D : va_G) (ty : Nat → ClassId) (L : List Nat) (ad : Nat → Nat) (g : Nat → va_E) (q : Nat) (pn tp ak rc sv : Int32) (v w : Int32) (m_q : q ∈ L) (h_q : g q = .inr (3, [.int pn, .int tp, .int ak, .int rc, .int sv])) : m_E l yX3_settle wsX3_settle 0 0 D ty [.ref (ad q), .int v, .int w] L ad g none (va_up g q (.inr (3, [.int pn, .int tp, .int ak, .int w, .int v]))) := by
  intro sz
  refine Met.ofW (cc := cX3_settle) (maxL := 3) (ret := none) (by decide) rfl ?_
  intro p e s m args below meth c s₁ B hml hv
  have hx := B.exec
  have hb := B.bytes
  have hrt := B.returns
  have hts := atoms_spec (ws := wsX3_settle) B.pre
  have hown : s.vm.findClass RX3 = some m.cls := findClass_of_methodNamed B.named
  have hlocks := B.notSynchronized
  obtain ⟨rfl, hB⟩ := m_start hv
  generalize va_A (m_w L ad g) sz = A at hB ⊢
  generalize s.heap = H at hB ⊢
  generalize ([] : List Loc) = locs at hB ⊢
  have hl := lv_entry ([.ref (ad q), .int v, .int w]) (n := 3) (Nat.le_of_ble_eq_true rfl)
  rw [lg_entry_eq]
  generalize (lg_sl ([.ref (ad q), .int v, .int w]) ++ List.replicate (3 - (lg_sl ([.ref (ad q), .int v, .int w])).length) Slot.unset).toArray = ls at hl ⊢
  have hl : lv_has ls 3 [(0, .ref (ad q)), (1, .int v), (2, .int w)] := hl
  refine lv_aload_n hx hb dX3_settle_0 rfl (lv_at hl 0 rfl) ?_
  refine lv_iload_n hx hb dX3_settle_1 rfl (lv_at hl 1 rfl) ?_
  refine m_put (C := RX3) (T := TX3) (N := 5) (ci := 3) (v := .int v) (ft := .int) hx hb hts in_X3_settle_X3 tyX3 tyX3_ok nmX3 hown hB m_q h_q rfl 4 (by decide) (hts (.fieldLink RX3 24 "PaperRoom$Question" "settled" "I") (by decide +kernel)) (fun _ h9 => h9) rfl (by decide +kernel) rfl rfl (Nat.le_of_ble_eq_true rfl) dX3_settle_2 (fun H locs hB => ?_)
  replace hB : m_B D ty A s L ad (va_up g q (.inr (3, [.int pn, .int tp, .int ak, .int rc, .int v]))) H locs := hB
  refine lv_aload_n hx hb dX3_settle_5 rfl (lv_at hl 0 rfl) ?_
  refine lv_iload_n hx hb dX3_settle_6 rfl (lv_at hl 2 rfl) ?_
  refine m_put (C := RX3) (T := TX3) (N := 5) (ci := 3) (v := .int w) (ft := .int) hx hb hts in_X3_settle_X3 tyX3 tyX3_ok nmX3 hown hB m_q (va_up_self _ _ _) rfl 3 (by decide) (hts (.fieldLink RX3 9 "PaperRoom$Question" "reach" "I") (by decide +kernel)) (fun _ h9 => h9) rfl (by decide +kernel) rfl rfl (Nat.le_of_ble_eq_true rfl) dX3_settle_7 (fun H locs hB => ?_)
  replace hB : m_B D ty A s L ad (va_up (va_up g q (.inr (3, [.int pn, .int tp, .int ak, .int rc, .int v]))) q (.inr (3, [.int pn, .int tp, .int ak, .int w, .int v]))) H locs := hB
  exact m_vret hx hb hrt hlocks hB (Nat.le_refl _) (Nat.le_refl _) dX3_settle_10 ⟨rfl, rfl, rfl, bx_uu _ _ _ _⟩
set_option maxRecDepth 20000 in
theorem in_X3_isAnswered_X3 : ∀ w ∈ wsX30, w ∈ wsX3_isAnswered := by decide +kernel
set_option maxHeartbeats 1000000 in
set_option maxRecDepth 100000 in
theorem c_Question_isAnswered (l : Launch) (D : va_G) (ty : Nat → ClassId) (L : List Nat) (ad : Nat → Nat) (g : Nat → va_E) (q : Nat) (pn tp ak rc sv : Int32) (m_q : q ∈ L) (h_q : g q = .inr (3, [.int pn, .int tp, .int ak, .int rc, .int sv])) : m_E l yX3_isAnswered wsX3_isAnswered 0 0 D ty [.ref (ad q)] L ad g (some (.int (zb (decide (¬ rc = 0))))) g := by
  intro sz
  refine Met.ofW (cc := cX3_isAnswered) (maxL := 1) (ret := (some .boolean)) (by decide) rfl ?_
  intro p e s m args below meth c s₁ B hml hv
  have hx := B.exec
  have hb := B.bytes
  have hrt := B.returns
  have hts := atoms_spec (ws := wsX3_isAnswered) B.pre
  have hown : s.vm.findClass RX3 = some m.cls := findClass_of_methodNamed B.named
  have hlocks := B.notSynchronized
  obtain ⟨rfl, hB⟩ := m_start hv
  generalize va_A (m_w L ad g) sz = A at hB ⊢
  generalize s.heap = H at hB ⊢
  generalize ([] : List Loc) = locs at hB ⊢
  have hl := lv_entry ([.ref (ad q)]) (n := 1) (Nat.le_of_ble_eq_true rfl)
  rw [lg_entry_eq]
  generalize (lg_sl ([.ref (ad q)]) ++ List.replicate (1 - (lg_sl ([.ref (ad q)])).length) Slot.unset).toArray = ls at hl ⊢
  have hl : lv_has ls 1 [(0, .ref (ad q))] := hl
  by_cases h1 : rc = 0
  · skip
    refine lv_aload_n hx hb dX3_isAnswered_0 rfl (lv_at hl 0 rfl) ?_
    refine m_get (C := RX3) (T := TX3) (N := 5) (ci := 3) hx hb hts in_X3_isAnswered_X3 hown hB m_q h_q rfl 3 (by decide) (hts (.fieldLink RX3 9 "PaperRoom$Question" "reach" "I") (by decide +kernel)) (fun _ h9 => h9) rfl dX3_isAnswered_1 ?_
    refine b_if_eq_t 11 hx hb dX3_isAnswered_4 (by decide) (by rw [h1]; decide) ?_
    refine lv_iconst (v := 0) hx hb dX3_isAnswered_11 (by decide) ?_
    exact m_zret hx hb hrt hlocks hB (Nat.le_refl _) (Nat.le_refl _) dX3_isAnswered_12 rfl ⟨zf (df (fun h => h h1)), rfl, rfl, rfl⟩
  · skip
    refine lv_aload_n hx hb dX3_isAnswered_0 rfl (lv_at hl 0 rfl) ?_
    refine m_get (C := RX3) (T := TX3) (N := 5) (ci := 3) hx hb hts in_X3_isAnswered_X3 hown hB m_q h_q rfl 3 (by decide) (hts (.fieldLink RX3 9 "PaperRoom$Question" "reach" "I") (by decide +kernel)) (fun _ h9 => h9) rfl dX3_isAnswered_1 ?_
    refine b_if_eq_f 11 hx hb dX3_isAnswered_4 (by decide) (fun h9 => h1 ((i_eq _ _).mpr h9)) ?_
    refine lv_iconst (v := 1) hx hb dX3_isAnswered_7 (by decide) ?_
    refine lv_goto (tgt := 12) hx hb dX3_isAnswered_8 (by decide) ?_
    exact m_zret hx hb hrt hlocks hB (Nat.le_refl _) (Nat.le_refl _) dX3_isAnswered_12 rfl ⟨zt (dt h1), rfl, rfl, rfl⟩
set_option maxRecDepth 20000 in
theorem in_X3_isFor_X3 : ∀ w ∈ wsX30, w ∈ wsX3_isFor := by decide +kernel
set_option maxHeartbeats 1000000 in
set_option maxRecDepth 100000 in
theorem c_Question_isFor (l : Launch) (D : va_G) (ty : Nat → ClassId) (L : List Nat) (ad : Nat → Nat) (g : Nat → va_E) (q : Nat) (pn tp ak rc sv : Int32) (b : Int32) (m_q : q ∈ L) (h_q : g q = .inr (3, [.int pn, .int tp, .int ak, .int rc, .int sv])) : m_E l yX3_isFor wsX3_isFor 0 0 D ty [.ref (ad q), .int b] L ad g (some (.int (zb (decide (rc = 2 ∨ (ak >>> (b &&& 31)) &&& 1 = 1))))) g := by
  intro sz
  refine Met.ofW (cc := cX3_isFor) (maxL := 2) (ret := (some .boolean)) (by decide) rfl ?_
  intro p e s m args below meth c s₁ B hml hv
  have hx := B.exec
  have hb := B.bytes
  have hrt := B.returns
  have hts := atoms_spec (ws := wsX3_isFor) B.pre
  have hown : s.vm.findClass RX3 = some m.cls := findClass_of_methodNamed B.named
  have hlocks := B.notSynchronized
  obtain ⟨rfl, hB⟩ := m_start hv
  generalize va_A (m_w L ad g) sz = A at hB ⊢
  generalize s.heap = H at hB ⊢
  generalize ([] : List Loc) = locs at hB ⊢
  have hl := lv_entry ([.ref (ad q), .int b]) (n := 2) (Nat.le_of_ble_eq_true rfl)
  rw [lg_entry_eq]
  generalize (lg_sl ([.ref (ad q), .int b]) ++ List.replicate (2 - (lg_sl ([.ref (ad q), .int b])).length) Slot.unset).toArray = ls at hl ⊢
  have hl : lv_has ls 2 [(0, .ref (ad q)), (1, .int b)] := hl
  by_cases h1 : rc = 2
  · skip
    refine lv_aload_n hx hb dX3_isFor_0 rfl (lv_at hl 0 rfl) ?_
    refine m_get (C := RX3) (T := TX3) (N := 5) (ci := 3) hx hb hts in_X3_isFor_X3 hown hB m_q h_q rfl 3 (by decide) (hts (.fieldLink RX3 9 "PaperRoom$Question" "reach" "I") (by decide +kernel)) (fun _ h9 => h9) rfl dX3_isFor_1 ?_
    refine lv_iconst (v := 2) hx hb dX3_isFor_4 (by decide) ?_
    refine b_icmp_eq_t 20 hx hb dX3_isFor_5 (by decide) (by rw [h1]) ?_
    refine lv_iconst (v := 1) hx hb dX3_isFor_20 (by decide) ?_
    refine lv_goto (tgt := 25) hx hb dX3_isFor_21 (by decide) ?_
    exact m_zret hx hb hrt hlocks hB (Nat.le_refl _) (Nat.le_refl _) dX3_isFor_25 rfl ⟨zt (dt (Or.inl h1)), rfl, rfl, rfl⟩
  · skip
    by_cases h2 : (ak >>> (b &&& 31)) &&& 1 = 1
    · skip
      refine lv_aload_n hx hb dX3_isFor_0 rfl (lv_at hl 0 rfl) ?_
      refine m_get (C := RX3) (T := TX3) (N := 5) (ci := 3) hx hb hts in_X3_isFor_X3 hown hB m_q h_q rfl 3 (by decide) (hts (.fieldLink RX3 9 "PaperRoom$Question" "reach" "I") (by decide +kernel)) (fun _ h9 => h9) rfl dX3_isFor_1 ?_
      refine lv_iconst (v := 2) hx hb dX3_isFor_4 (by decide) ?_
      refine b_icmp_eq_f 20 hx hb dX3_isFor_5 (by decide) (fun h9 => h1 ((i_eq _ _).mpr h9)) ?_
      refine lv_aload_n hx hb dX3_isFor_8 rfl (lv_at hl 0 rfl) ?_
      refine m_get (C := RX3) (T := TX3) (N := 5) (ci := 3) hx hb hts in_X3_isFor_X3 hown hB m_q h_q rfl 2 (by decide) (hts (.fieldLink RX3 21 "PaperRoom$Question" "askers" "I") (by decide +kernel)) (fun _ h9 => h9) rfl dX3_isFor_9 ?_
      refine lv_iload_n hx hb dX3_isFor_12 rfl (lv_at hl 1 rfl) ?_
      refine lv_ishr hx hb dX3_isFor_13 ?_
      refine lv_iconst (v := 1) hx hb dX3_isFor_14 (by decide) ?_
      refine lv_iand hx hb dX3_isFor_15 ?_
      refine lv_iconst (v := 1) hx hb dX3_isFor_16 (by decide) ?_
      refine b_icmp_ne_f 24 hx hb dX3_isFor_17 (by decide) (by rw [h2]) ?_
      refine lv_iconst (v := 1) hx hb dX3_isFor_20 (by decide) ?_
      refine lv_goto (tgt := 25) hx hb dX3_isFor_21 (by decide) ?_
      exact m_zret hx hb hrt hlocks hB (Nat.le_refl _) (Nat.le_refl _) dX3_isFor_25 rfl ⟨zt (dt (Or.inr h2)), rfl, rfl, rfl⟩
    · skip
      refine lv_aload_n hx hb dX3_isFor_0 rfl (lv_at hl 0 rfl) ?_
      refine m_get (C := RX3) (T := TX3) (N := 5) (ci := 3) hx hb hts in_X3_isFor_X3 hown hB m_q h_q rfl 3 (by decide) (hts (.fieldLink RX3 9 "PaperRoom$Question" "reach" "I") (by decide +kernel)) (fun _ h9 => h9) rfl dX3_isFor_1 ?_
      refine lv_iconst (v := 2) hx hb dX3_isFor_4 (by decide) ?_
      refine b_icmp_eq_f 20 hx hb dX3_isFor_5 (by decide) (fun h9 => h1 ((i_eq _ _).mpr h9)) ?_
      refine lv_aload_n hx hb dX3_isFor_8 rfl (lv_at hl 0 rfl) ?_
      refine m_get (C := RX3) (T := TX3) (N := 5) (ci := 3) hx hb hts in_X3_isFor_X3 hown hB m_q h_q rfl 2 (by decide) (hts (.fieldLink RX3 21 "PaperRoom$Question" "askers" "I") (by decide +kernel)) (fun _ h9 => h9) rfl dX3_isFor_9 ?_
      refine lv_iload_n hx hb dX3_isFor_12 rfl (lv_at hl 1 rfl) ?_
      refine lv_ishr hx hb dX3_isFor_13 ?_
      refine lv_iconst (v := 1) hx hb dX3_isFor_14 (by decide) ?_
      refine lv_iand hx hb dX3_isFor_15 ?_
      refine lv_iconst (v := 1) hx hb dX3_isFor_16 (by decide) ?_
      refine b_icmp_ne_t 24 hx hb dX3_isFor_17 (by decide) (fun h9 => h2 ((i_eq _ _).mpr h9)) ?_
      refine lv_iconst (v := 0) hx hb dX3_isFor_24 (by decide) ?_
      exact m_zret hx hb hrt hlocks hB (Nat.le_refl _) (Nat.le_refl _) dX3_isFor_25 rfl ⟨zf (df (fun h => h.elim h1 h2)), rfl, rfl, rfl⟩
