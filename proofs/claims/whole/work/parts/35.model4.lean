set_option maxRecDepth 20000 in
theorem in_X9_comes_X9 : ∀ w ∈ wsX90, w ∈ wsX9_comes := by decide +kernel
set_option maxHeartbeats 1000000 in
set_option maxRecDepth 100000 in
theorem c_M_comes (l : Launch) (D : va_G) (ty : Nat → ClassId) (L : List Nat) (ad : Nat → Nat) (g : Nat → va_E) (a : Nat → Nat → Int32) (dn pn en qn mz : Nat) (nw lo : Int32) (tr : Int64) (j vj : Nat) (hM : RM ty L ad g a dn pn en qn mz nw lo tr) (hj8 : j < 8) (hvj : a 10 j = nI vj) (hv4 : vj < 4) (hdn : dn ≤ 40) : m_C l yX9_comes wsX9_comes 0 0 0 0 D ty [.ref (ad 1000), .int (nI j)] L ad g (fun v1 L1 ad1 g1 => v1 = none ∧ L1 = L ∧ ad1 = ad ∧ (∀ x, x < 1000 → g1 x = g x) ∧ RM ty L ad g1 (cmA a dn j vj) 0 pn en qn mz nw lo tr) := by
  intro sz
  refine Met.ofW (cc := cX9_comes) (maxL := 4) (ret := none) (by decide) rfl ?_
  intro p e s m args below meth c s₁ B hml hv
  have hx := B.exec
  have hb := B.bytes
  have hrt := B.returns
  have hts := atoms_spec (ws := wsX9_comes) B.pre
  have hown : s.vm.findClass RX9 = some m.cls := findClass_of_methodNamed B.named
  have hlocks := B.notSynchronized
  obtain ⟨rfl, hB⟩ := m_start hv
  generalize va_A (m_w L ad g) sz = A at hB ⊢
  generalize s.heap = H at hB ⊢
  generalize ([] : List Loc) = locs at hB ⊢
  have hl := lv_entry ([.ref (ad 1000), .int (nI j)]) (n := 4) (Nat.le_of_ble_eq_true rfl)
  rw [lg_entry_eq]
  generalize (lg_sl ([.ref (ad 1000), .int (nI j)]) ++ List.replicate (4 - (lg_sl ([.ref (ad 1000), .int (nI j)])).length) Slot.unset).toArray = ls at hl ⊢
  have hl : lv_has ls 4 [(0, .ref (ad 1000)), (1, .int (nI j))] := hl
  obtain ⟨hL, h_1000, h_1002, h_1004, h_1005, h_1007, h_1008, h_1009, h_1010, h_1011, h_1012, h_1013, h_1014, h_1015, h_1016, h_1019, h_1020, h_1021, h_1022, h_1024, h_1025, h_1026, h_1027, h_1028, h_1029, h_1030, h_1032⟩ := id hM
  refine lv_iconst (v := 4) hx hb dX9_comes_0 (by decide) ?_
  refine lv_iload_n hx hb dX9_comes_1 rfl (lv_at hl 1 rfl) ?_
  refine lv_imul hx hb dX9_comes_2 ?_
  refine b_topi (w := nI (4 * j)) (pk_mul 4 j) ?_
  refine lv_aload_n hx hb dX9_comes_3 rfl (lv_at hl 0 rfl) ?_
  refine m_get (C := RX9) (T := TX9) (N := 33) (ci := 9) hx hb hts in_X9_comes_X9 hown hB (hL 1000 (by decide)) h_1000 rfl 10 (by decide) (hts (.fieldLink RX9 32 "PaperRoomModel" "versions" "[I") (by decide +kernel)) (fun _ h9 => h9) rfl dX9_comes_4 ?_
  refine lv_iload_n hx hb dX9_comes_7 rfl (lv_at hl 1 rfl) ?_
  refine n_iald hx hb hB (hL 1011 (by decide)) h_1011 j rfl (by omega) (by omega) dX9_comes_8 ?_
  refine b_topi (w := nI vj) (hvj) ?_
  refine lv_iadd hx hb dX9_comes_9 ?_
  refine b_topi (w := nI ((4 * j) + vj)) (nI_add (4 * j) vj) ?_
  refine lv_istore_n (lv' := [(2, .int (nI ((4 * j) + vj))), (0, .ref (ad 1000)), (1, .int (nI j))]) hx hb dX9_comes_10 rfl hl (by decide) rfl (fun ls hl => ?_)
  refine lv_aload_n hx hb dX9_comes_11 rfl (lv_at hl 1 rfl) ?_
  refine m_get (C := RX9) (T := TX9) (N := 33) (ci := 9) hx hb hts in_X9_comes_X9 hown hB (hL 1000 (by decide)) h_1000 rfl 11 (by decide) (hts (.fieldLink RX9 35 "PaperRoomModel" "size" "[I") (by decide +kernel)) (fun _ h9 => h9) rfl dX9_comes_12 ?_
  refine lv_iload_n hx hb dX9_comes_15 rfl (lv_at hl 0 rfl) ?_
  refine lv_aload_n hx hb dX9_comes_16 rfl (lv_at hl 1 rfl) ?_
  refine m_get (C := RX9) (T := TX9) (N := 33) (ci := 9) hx hb hts in_X9_comes_X9 hown hB (hL 1000 (by decide)) h_1000 rfl 0 (by decide) (hts (.fieldLink RX9 101 "PaperRoomModel" "drafted" "I") (by decide +kernel)) (fun _ h9 => h9) rfl dX9_comes_17 ?_
  refine n_iast hx hb hB (hL 1012 (by decide)) h_1012 ((4 * j) + vj) rfl (by omega) (by omega) dX9_comes_20 (fun H locs hB => ?_)
  replace hB : m_B D ty A s L ad (va_up g 1012 (.inl (ty 0, 32, .inl (upd (a 11) ((4 * j) + vj) (nI dn))))) H locs := hB
  refine lv_iconst (v := 0) hx hb dX9_comes_21 (by decide) ?_
  refine lv_istore_n (lv' := [(3, .int 0), (2, .int (nI ((4 * j) + vj))), (0, .ref (ad 1000)), (1, .int (nI j))]) hx hb dX9_comes_22 rfl hl (by decide) rfl (fun ls hl => ?_)
  obtain ⟨gB, hgB⟩ : ∃ z, z = (va_up g 1012 (.inl (ty 0, 32, .inl (upd (a 11) ((4 * j) + vj) (nI dn))))) := ⟨_, rfl⟩
  rw [← hgB] at hB
  have FgB_1000 : gB 1000 = .inr (9, [.int (nI dn), .ref (ad 1002), .int nw, .ref (ad 1004), .ref (ad 1005), .int (nI pn), .ref (ad 1007), .ref (ad 1008), .ref (ad 1009), .ref (ad 1010), .ref (ad 1011), .ref (ad 1012), .ref (ad 1013), .ref (ad 1014), .ref (ad 1015), .ref (ad 1016), .int (nI en), .int lo, .ref (ad 1019), .ref (ad 1020), .ref (ad 1021), .ref (ad 1022), .int (nI qn), .ref (ad 1024), .ref (ad 1025), .ref (ad 1026), .ref (ad 1027), .ref (ad 1028), .ref (ad 1029), .ref (ad 1030), .long tr, .ref (ad 1032), .int (nI mz)]) := by rw [hgB]; exact ((va_up_ne _ _ (by decide)).trans h_1000)
  have FgB_1002 : gB 1002 = .inl (ty 0, 40, .inl (a 1)) := by rw [hgB]; exact ((va_up_ne _ _ (by decide)).trans h_1002)
  have FgB_1004 : gB 1004 = .inl (ty 0, 12, .inl (a 3)) := by rw [hgB]; exact ((va_up_ne _ _ (by decide)).trans h_1004)
  have FgB_1005 : gB 1005 = .inl (ty 0, 12, .inl (a 4)) := by rw [hgB]; exact ((va_up_ne _ _ (by decide)).trans h_1005)
  have FgB_1007 : gB 1007 = .inl (ty 0, 8, .inl (a 6)) := by rw [hgB]; exact ((va_up_ne _ _ (by decide)).trans h_1007)
  have FgB_1008 : gB 1008 = .inl (ty 0, 8, .inl (a 7)) := by rw [hgB]; exact ((va_up_ne _ _ (by decide)).trans h_1008)
  have FgB_1009 : gB 1009 = .inl (ty 0, 8, .inl (a 8)) := by rw [hgB]; exact ((va_up_ne _ _ (by decide)).trans h_1009)
  have FgB_1010 : gB 1010 = .inl (ty 3, 8, .inl (a 9)) := by rw [hgB]; exact ((va_up_ne _ _ (by decide)).trans h_1010)
  have FgB_1011 : gB 1011 = .inl (ty 0, 8, .inl (a 10)) := by rw [hgB]; exact ((va_up_ne _ _ (by decide)).trans h_1011)
  have FgB_1012 : gB 1012 = .inl (ty 0, 32, .inl (upd (a 11) ((4 * j) + vj) (nI dn))) := by rw [hgB]; exact (va_up_self _ _ _)
  have FgB_1013 : gB 1013 = .inl (ty 0, 1280, .inl (a 12)) := by rw [hgB]; exact ((va_up_ne _ _ (by decide)).trans h_1013)
  have FgB_1014 : gB 1014 = .inl (ty 3, 1280, .inl (a 13)) := by rw [hgB]; exact ((va_up_ne _ _ (by decide)).trans h_1014)
  have FgB_1015 : gB 1015 = .inl (ty 0, 6, .inl (a 14)) := by rw [hgB]; exact ((va_up_ne _ _ (by decide)).trans h_1015)
  have FgB_1016 : gB 1016 = .inl (ty 0, 480, .inl (a 15)) := by rw [hgB]; exact ((va_up_ne _ _ (by decide)).trans h_1016)
  have FgB_1019 : gB 1019 = .inl (ty 0, 200, .inl (a 18)) := by rw [hgB]; exact ((va_up_ne _ _ (by decide)).trans h_1019)
  have FgB_1020 : gB 1020 = .inl (ty 0, 200, .inl (a 19)) := by rw [hgB]; exact ((va_up_ne _ _ (by decide)).trans h_1020)
  have FgB_1021 : gB 1021 = .inl (ty 0, 200, .inl (a 20)) := by rw [hgB]; exact ((va_up_ne _ _ (by decide)).trans h_1021)
  have FgB_1022 : gB 1022 = .inl (ty 0, 200, .inl (a 21)) := by rw [hgB]; exact ((va_up_ne _ _ (by decide)).trans h_1022)
  have FgB_1024 : gB 1024 = .inl (ty 0, 30, .inl (a 23)) := by rw [hgB]; exact ((va_up_ne _ _ (by decide)).trans h_1024)
  have FgB_1025 : gB 1025 = .inl (ty 0, 30, .inl (a 24)) := by rw [hgB]; exact ((va_up_ne _ _ (by decide)).trans h_1025)
  have FgB_1026 : gB 1026 = .inl (ty 0, 30, .inl (a 25)) := by rw [hgB]; exact ((va_up_ne _ _ (by decide)).trans h_1026)
  have FgB_1027 : gB 1027 = .inl (ty 0, 30, .inl (a 26)) := by rw [hgB]; exact ((va_up_ne _ _ (by decide)).trans h_1027)
  have FgB_1028 : gB 1028 = .inl (ty 0, 30, .inl (a 27)) := by rw [hgB]; exact ((va_up_ne _ _ (by decide)).trans h_1028)
  have FgB_1029 : gB 1029 = .inl (ty 0, 6, .inl (a 28)) := by rw [hgB]; exact ((va_up_ne _ _ (by decide)).trans h_1029)
  have FgB_1030 : gB 1030 = .inl (ty 0, 6, .inl (a 29)) := by rw [hgB]; exact ((va_up_ne _ _ (by decide)).trans h_1030)
  have FgB_1032 : gB 1032 = .inl (ty 0, 80, .inl (a 31)) := by rw [hgB]; exact ((va_up_ne _ _ (by decide)).trans h_1032)
  have RgB : ∀ x, x < 1000 → gB x = g x := by intro x hx; rw [hgB]; exact ((va_up_ne _ _ (by omega)).trans rfl)
  have tI_dn : (nI dn).toInt = (dn : Int) := nI_toInt (by omega)
  replace hl : lv_has ls 4 [(0, .ref (ad 1000)), (1, .int (nI j)), (2, .int (nI ((4 * j) + vj))), (3, .int 0)] := lv_sub hl [2, 3, 1, 0] rfl
  obtain ⟨k, hk0⟩ : ∃ k : Nat, k = 0 := ⟨0, rfl⟩
  replace hB : m_B D ty A s L ad (va_up (va_up gB 1013 (.inl (ty 0, 1280, .inl (pb (a 12) (a 1) (40 * (4 * j + vj)) k)))) 1014 (.inl (ty 3, 1280, .inl (pb (a 13) (fun _ => 0) (40 * (4 * j + vj)) k)))) H locs := by
    rw [hk0]
    show m_B D ty A s L ad (va_up (va_up gB 1013 (.inl (ty 0, 1280, .inl (a 12)))) 1014 (.inl (ty 3, 1280, .inl (a 13)))) H locs; rw [up_same (f := gB) FgB_1013, up_same (f := gB) FgB_1014]; exact hB
  replace hl : lv_has ls 4 [(0, .ref (ad 1000)), (1, .int (nI j)), (2, .int (nI ((4 * j) + vj))), (3, .int (nI k))] := by rw [hk0]; exact hl
  obtain ⟨jz, hj⟩ : ∃ jz : Nat, k + jz = dn := ⟨dn - k, by omega⟩
  clear hk0
  induction jz generalizing k H locs ls with
  | zero =>
    have hje : k = dn := by omega
    have tI_k : (nI k).toInt = (k : Int) := nI_toInt (by omega)
    refine lv_iload_n hx hb dX9_comes_23 rfl (lv_at hl 3 rfl) ?_
    refine lv_aload_n hx hb dX9_comes_24 rfl (lv_at hl 0 rfl) ?_
    refine m_get (C := RX9) (T := TX9) (N := 33) (ci := 9) hx hb hts in_X9_comes_X9 hown hB (hL 1000 (by decide)) ((va_up_ne _ _ (by decide)).trans ((va_up_ne _ _ (by decide)).trans FgB_1000)) rfl 0 (by decide) (hts (.fieldLink RX9 101 "PaperRoomModel" "drafted" "I") (by decide +kernel)) (fun _ h9 => h9) rfl dX9_comes_25 ?_
    refine b_icmp_ge_t 66 hx hb dX9_comes_28 (by decide) (by omega) ?_
    subst hje
    refine lv_aload_n hx hb dX9_comes_66 rfl (lv_at hl 0 rfl) ?_
    refine m_get (C := RX9) (T := TX9) (N := 33) (ci := 9) hx hb hts in_X9_comes_X9 hown hB (hL 1000 (by decide)) ((va_up_ne _ _ (by decide)).trans ((va_up_ne _ _ (by decide)).trans FgB_1000)) rfl 10 (by decide) (hts (.fieldLink RX9 32 "PaperRoomModel" "versions" "[I") (by decide +kernel)) (fun _ h9 => h9) rfl dX9_comes_67 ?_
    refine lv_iload_n hx hb dX9_comes_70 rfl (lv_at hl 1 rfl) ?_
    refine lv_dup2_11 hx hb dX9_comes_71 rfl rfl ?_
    refine n_iald hx hb hB (hL 1011 (by decide)) ((va_up_ne _ _ (by decide)).trans ((va_up_ne _ _ (by decide)).trans FgB_1011)) j rfl (by omega) (by omega) dX9_comes_72 ?_
    refine b_topi (w := nI vj) (hvj) ?_
    refine lv_iconst (v := 1) hx hb dX9_comes_73 (by decide) ?_
    refine lv_iadd hx hb dX9_comes_74 ?_
    refine b_topi (w := nI (vj + 1)) (nI_add vj 1) ?_
    refine n_iast hx hb hB (hL 1011 (by decide)) ((va_up_ne _ _ (by decide)).trans ((va_up_ne _ _ (by decide)).trans FgB_1011)) j rfl (by omega) (by omega) dX9_comes_75 (fun H locs hB => ?_)
    replace hB : m_B D ty A s L ad (va_up (va_up (va_up gB 1013 (.inl (ty 0, 1280, .inl (pb (a 12) (a 1) (40 * (4 * j + vj)) k)))) 1014 (.inl (ty 3, 1280, .inl (pb (a 13) (fun _ => 0) (40 * (4 * j + vj)) k)))) 1011 (.inl (ty 0, 8, .inl (upd (a 10) j (nI (vj + 1)))))) H locs := hB
    refine lv_aload_n hx hb dX9_comes_76 rfl (lv_at hl 0 rfl) ?_
    refine lv_iconst (v := 0) hx hb dX9_comes_77 (by decide) ?_
    refine m_put (C := RX9) (T := TX9) (N := 33) (ci := 9) (v := .int 0) (ft := .int) hx hb hts in_X9_comes_X9 tyX9 tyX9_ok nmX9 hown hB (hL 1000 (by decide)) ((va_up_ne _ _ (by decide)).trans ((va_up_ne _ _ (by decide)).trans ((va_up_ne _ _ (by decide)).trans FgB_1000))) rfl 0 (by decide) (hts (.fieldLink RX9 101 "PaperRoomModel" "drafted" "I") (by decide +kernel)) (fun _ h9 => h9) rfl (by decide +kernel) rfl rfl (Nat.le_of_ble_eq_true rfl) dX9_comes_78 (fun H locs hB => ?_)
    replace hB : m_B D ty A s L ad (va_up (va_up (va_up (va_up gB 1013 (.inl (ty 0, 1280, .inl (pb (a 12) (a 1) (40 * (4 * j + vj)) k)))) 1014 (.inl (ty 3, 1280, .inl (pb (a 13) (fun _ => 0) (40 * (4 * j + vj)) k)))) 1011 (.inl (ty 0, 8, .inl (upd (a 10) j (nI (vj + 1)))))) 1000 (.inr (9, [.int 0, .ref (ad 1002), .int nw, .ref (ad 1004), .ref (ad 1005), .int (nI pn), .ref (ad 1007), .ref (ad 1008), .ref (ad 1009), .ref (ad 1010), .ref (ad 1011), .ref (ad 1012), .ref (ad 1013), .ref (ad 1014), .ref (ad 1015), .ref (ad 1016), .int (nI en), .int lo, .ref (ad 1019), .ref (ad 1020), .ref (ad 1021), .ref (ad 1022), .int (nI qn), .ref (ad 1024), .ref (ad 1025), .ref (ad 1026), .ref (ad 1027), .ref (ad 1028), .ref (ad 1029), .ref (ad 1030), .long tr, .ref (ad 1032), .int (nI mz)]))) H locs := hB
    exact m_vret hx hb hrt hlocks hB (Nat.le_refl _) (Nat.le_refl _) dX9_comes_81 ⟨rfl, rfl, rfl, (fun x hx => ((va_up_ne _ _ (by omega)).trans ((va_up_ne _ _ (by omega)).trans ((va_up_ne _ _ (by omega)).trans ((va_up_ne _ _ (by omega)).trans (RgB x hx)))))), ⟨hL, (va_up_self _ _ _), ((va_up_ne _ _ (by decide)).trans ((va_up_ne _ _ (by decide)).trans ((va_up_ne _ _ (by decide)).trans ((va_up_ne _ _ (by decide)).trans FgB_1002)))), ((va_up_ne _ _ (by decide)).trans ((va_up_ne _ _ (by decide)).trans ((va_up_ne _ _ (by decide)).trans ((va_up_ne _ _ (by decide)).trans FgB_1004)))), ((va_up_ne _ _ (by decide)).trans ((va_up_ne _ _ (by decide)).trans ((va_up_ne _ _ (by decide)).trans ((va_up_ne _ _ (by decide)).trans FgB_1005)))), ((va_up_ne _ _ (by decide)).trans ((va_up_ne _ _ (by decide)).trans ((va_up_ne _ _ (by decide)).trans ((va_up_ne _ _ (by decide)).trans FgB_1007)))), ((va_up_ne _ _ (by decide)).trans ((va_up_ne _ _ (by decide)).trans ((va_up_ne _ _ (by decide)).trans ((va_up_ne _ _ (by decide)).trans FgB_1008)))), ((va_up_ne _ _ (by decide)).trans ((va_up_ne _ _ (by decide)).trans ((va_up_ne _ _ (by decide)).trans ((va_up_ne _ _ (by decide)).trans FgB_1009)))), ((va_up_ne _ _ (by decide)).trans ((va_up_ne _ _ (by decide)).trans ((va_up_ne _ _ (by decide)).trans ((va_up_ne _ _ (by decide)).trans FgB_1010)))), ((va_up_ne _ _ (by decide)).trans (va_up_self _ _ _)), ((va_up_ne _ _ (by decide)).trans ((va_up_ne _ _ (by decide)).trans ((va_up_ne _ _ (by decide)).trans ((va_up_ne _ _ (by decide)).trans FgB_1012)))), ((va_up_ne _ _ (by decide)).trans ((va_up_ne _ _ (by decide)).trans ((va_up_ne _ _ (by decide)).trans (va_up_self _ _ _)))), ((va_up_ne _ _ (by decide)).trans ((va_up_ne _ _ (by decide)).trans (va_up_self _ _ _))), ((va_up_ne _ _ (by decide)).trans ((va_up_ne _ _ (by decide)).trans ((va_up_ne _ _ (by decide)).trans ((va_up_ne _ _ (by decide)).trans FgB_1015)))), ((va_up_ne _ _ (by decide)).trans ((va_up_ne _ _ (by decide)).trans ((va_up_ne _ _ (by decide)).trans ((va_up_ne _ _ (by decide)).trans FgB_1016)))), ((va_up_ne _ _ (by decide)).trans ((va_up_ne _ _ (by decide)).trans ((va_up_ne _ _ (by decide)).trans ((va_up_ne _ _ (by decide)).trans FgB_1019)))), ((va_up_ne _ _ (by decide)).trans ((va_up_ne _ _ (by decide)).trans ((va_up_ne _ _ (by decide)).trans ((va_up_ne _ _ (by decide)).trans FgB_1020)))), ((va_up_ne _ _ (by decide)).trans ((va_up_ne _ _ (by decide)).trans ((va_up_ne _ _ (by decide)).trans ((va_up_ne _ _ (by decide)).trans FgB_1021)))), ((va_up_ne _ _ (by decide)).trans ((va_up_ne _ _ (by decide)).trans ((va_up_ne _ _ (by decide)).trans ((va_up_ne _ _ (by decide)).trans FgB_1022)))), ((va_up_ne _ _ (by decide)).trans ((va_up_ne _ _ (by decide)).trans ((va_up_ne _ _ (by decide)).trans ((va_up_ne _ _ (by decide)).trans FgB_1024)))), ((va_up_ne _ _ (by decide)).trans ((va_up_ne _ _ (by decide)).trans ((va_up_ne _ _ (by decide)).trans ((va_up_ne _ _ (by decide)).trans FgB_1025)))), ((va_up_ne _ _ (by decide)).trans ((va_up_ne _ _ (by decide)).trans ((va_up_ne _ _ (by decide)).trans ((va_up_ne _ _ (by decide)).trans FgB_1026)))), ((va_up_ne _ _ (by decide)).trans ((va_up_ne _ _ (by decide)).trans ((va_up_ne _ _ (by decide)).trans ((va_up_ne _ _ (by decide)).trans FgB_1027)))), ((va_up_ne _ _ (by decide)).trans ((va_up_ne _ _ (by decide)).trans ((va_up_ne _ _ (by decide)).trans ((va_up_ne _ _ (by decide)).trans FgB_1028)))), ((va_up_ne _ _ (by decide)).trans ((va_up_ne _ _ (by decide)).trans ((va_up_ne _ _ (by decide)).trans ((va_up_ne _ _ (by decide)).trans FgB_1029)))), ((va_up_ne _ _ (by decide)).trans ((va_up_ne _ _ (by decide)).trans ((va_up_ne _ _ (by decide)).trans ((va_up_ne _ _ (by decide)).trans FgB_1030)))), ((va_up_ne _ _ (by decide)).trans ((va_up_ne _ _ (by decide)).trans ((va_up_ne _ _ (by decide)).trans ((va_up_ne _ _ (by decide)).trans FgB_1032))))⟩⟩
  | succ jz ihj =>
    have hjl : k < dn := by omega
    have tI_k : (nI k).toInt = (k : Int) := nI_toInt (by omega)
    refine lv_iload_n hx hb dX9_comes_23 rfl (lv_at hl 3 rfl) ?_
    refine lv_aload_n hx hb dX9_comes_24 rfl (lv_at hl 0 rfl) ?_
    refine m_get (C := RX9) (T := TX9) (N := 33) (ci := 9) hx hb hts in_X9_comes_X9 hown hB (hL 1000 (by decide)) ((va_up_ne _ _ (by decide)).trans ((va_up_ne _ _ (by decide)).trans FgB_1000)) rfl 0 (by decide) (hts (.fieldLink RX9 101 "PaperRoomModel" "drafted" "I") (by decide +kernel)) (fun _ h9 => h9) rfl dX9_comes_25 ?_
    refine b_icmp_ge_f 66 hx hb dX9_comes_28 (by decide) (by omega) ?_
    refine lv_aload_n hx hb dX9_comes_31 rfl (lv_at hl 0 rfl) ?_
    refine m_get (C := RX9) (T := TX9) (N := 33) (ci := 9) hx hb hts in_X9_comes_X9 hown hB (hL 1000 (by decide)) ((va_up_ne _ _ (by decide)).trans ((va_up_ne _ _ (by decide)).trans FgB_1000)) rfl 12 (by decide) (hts (.fieldLink RX9 38 "PaperRoomModel" "text" "[I") (by decide +kernel)) (fun _ h9 => h9) rfl dX9_comes_32 ?_
    refine lv_bipush (v := 40) hx hb dX9_comes_35 (by decide) ?_
    refine lv_iload_n hx hb dX9_comes_37 rfl (lv_at hl 2 rfl) ?_
    refine lv_imul hx hb dX9_comes_38 ?_
    refine b_topi (w := nI (40 * ((4 * j) + vj))) (pk_mul 40 ((4 * j) + vj)) ?_
    refine lv_iload_n hx hb dX9_comes_39 rfl (lv_at hl 3 rfl) ?_
    refine lv_iadd hx hb dX9_comes_40 ?_
    refine b_topi (w := nI ((40 * ((4 * j) + vj)) + k)) (nI_add (40 * ((4 * j) + vj)) k) ?_
    refine lv_aload_n hx hb dX9_comes_41 rfl (lv_at hl 0 rfl) ?_
    refine m_get (C := RX9) (T := TX9) (N := 33) (ci := 9) hx hb hts in_X9_comes_X9 hown hB (hL 1000 (by decide)) ((va_up_ne _ _ (by decide)).trans ((va_up_ne _ _ (by decide)).trans FgB_1000)) rfl 1 (by decide) (hts (.fieldLink RX9 7 "PaperRoomModel" "draft" "[I") (by decide +kernel)) (fun _ h9 => h9) rfl dX9_comes_42 ?_
    refine lv_iload_n hx hb dX9_comes_45 rfl (lv_at hl 3 rfl) ?_
    refine n_iald hx hb hB (hL 1002 (by decide)) ((va_up_ne _ _ (by decide)).trans ((va_up_ne _ _ (by decide)).trans FgB_1002)) k rfl (by omega) (by omega) dX9_comes_46 ?_
    refine n_iast hx hb hB (hL 1013 (by decide)) ((va_up_ne _ _ (by decide)).trans (va_up_self _ _ _)) ((40 * ((4 * j) + vj)) + k) rfl (by omega) (by omega) dX9_comes_47 (fun H locs hB => ?_)
    replace hB : m_B D ty A s L ad (va_up (va_up (va_up gB 1013 (.inl (ty 0, 1280, .inl (pb (a 12) (a 1) (40 * (4 * j + vj)) k)))) 1014 (.inl (ty 3, 1280, .inl (pb (a 13) (fun _ => 0) (40 * (4 * j + vj)) k)))) 1013 (.inl (ty 0, 1280, .inl (upd (pb (a 12) (a 1) (40 * (4 * j + vj)) k) ((40 * ((4 * j) + vj)) + k) ((a 1) k))))) H locs := hB
    refine lv_aload_n hx hb dX9_comes_48 rfl (lv_at hl 0 rfl) ?_
    refine m_get (C := RX9) (T := TX9) (N := 33) (ci := 9) hx hb hts in_X9_comes_X9 hown hB (hL 1000 (by decide)) ((va_up_ne _ _ (by decide)).trans ((va_up_ne _ _ (by decide)).trans ((va_up_ne _ _ (by decide)).trans FgB_1000))) rfl 13 (by decide) (hts (.fieldLink RX9 41 "PaperRoomModel" "isBlack" "[Z") (by decide +kernel)) (fun _ h9 => h9) rfl dX9_comes_49 ?_
    refine lv_bipush (v := 40) hx hb dX9_comes_52 (by decide) ?_
    refine lv_iload_n hx hb dX9_comes_54 rfl (lv_at hl 2 rfl) ?_
    refine lv_imul hx hb dX9_comes_55 ?_
    refine b_topi (w := nI (40 * ((4 * j) + vj))) (pk_mul 40 ((4 * j) + vj)) ?_
    refine lv_iload_n hx hb dX9_comes_56 rfl (lv_at hl 3 rfl) ?_
    refine lv_iadd hx hb dX9_comes_57 ?_
    refine b_topi (w := nI ((40 * ((4 * j) + vj)) + k)) (nI_add (40 * ((4 * j) + vj)) k) ?_
    refine lv_iconst (v := 0) hx hb dX9_comes_58 (by decide) ?_
    refine n_zast hx hb hB (hL 1014 (by decide)) ((va_up_ne _ _ (by decide)).trans (va_up_self _ _ _)) ((40 * ((4 * j) + vj)) + k) rfl (by omega) (by omega) dX9_comes_59 (fun H locs hB => ?_)
    replace hB : m_B D ty A s L ad (va_up (va_up (va_up (va_up gB 1013 (.inl (ty 0, 1280, .inl (pb (a 12) (a 1) (40 * (4 * j + vj)) k)))) 1014 (.inl (ty 3, 1280, .inl (pb (a 13) (fun _ => 0) (40 * (4 * j + vj)) k)))) 1013 (.inl (ty 0, 1280, .inl (upd (pb (a 12) (a 1) (40 * (4 * j + vj)) k) ((40 * ((4 * j) + vj)) + k) ((a 1) k))))) 1014 (.inl (ty 3, 1280, .inl (upd (pb (a 13) (fun _ => 0) (40 * (4 * j + vj)) k) ((40 * ((4 * j) + vj)) + k) (vp_nar .boolean 0))))) H locs := hB
    refine lv_iinc (v := nI (k + 1)) (lv' := [(3, .int (nI (k + 1))), (0, .ref (ad 1000)), (1, .int (nI j)), (2, .int (nI ((4 * j) + vj)))]) hx hb dX9_comes_60 hl (k := 3) rfl (nI_add k 1) (by decide) rfl (fun ls hl => ?_)
    refine lv_goto (tgt := 23) hx hb dX9_comes_63 (by decide) ?_
    have hB : m_B D ty A s L ad (va_up (va_up gB 1013 (.inl (ty 0, 1280, .inl (pb (a 12) (a 1) (40 * (4 * j + vj)) (k + 1))))) 1014 (.inl (ty 3, 1280, .inl (pb (a 13) (fun _ => 0) (40 * (4 * j + vj)) (k + 1))))) H locs := by
      rw [up_4 (by decide), z_0] at hB; exact hB
    have hl : lv_has ls 4 [(0, .ref (ad 1000)), (1, .int (nI j)), (2, .int (nI ((4 * j) + vj))), (3, .int (nI (k + 1)))] := lv_sub hl [1, 2, 3, 0] rfl
    apply ihj (k := (k + 1)) (H := H) (locs := locs) (ls := ls) <;> first | omega | exact hB | exact hl
set_option maxHeartbeats 1000000 in
set_option maxRecDepth 100000 in
theorem c_M_version_bad (l : Launch) (D : va_G) (ty : Nat → ClassId) (L : List Nat) (ad : Nat → Nat) (g : Nat → va_E) (a : Nat → Nat → Int32) (dn pn en qn mz : Nat) (nw lo : Int32) (tr : Int64) (i : Int32) (hM : RM ty L ad g a dn pn en qn mz nw lo tr) (hi : ¬ (0 ≤ i.toInt ∧ i.toInt < pn)) (hpn : pn ≤ 8) : m_E l yX9_version wsX9_version 2 43 D ty [.ref (ad 1000), .int i] L ad g (some (.int (-1))) g := by
  intro sz
  refine Met.ofW (cc := cX9_version) (maxL := 2) (ret := (some .int)) (by decide) rfl ?_
  intro p e s m args below meth c s₁ B hml hv
  have hx := B.exec
  have hb := B.bytes
  have hrt := B.returns
  have hts := atoms_spec (ws := wsX9_version) B.pre
  have hown : s.vm.findClass RX9 = some m.cls := findClass_of_methodNamed B.named
  have hlocks := B.notSynchronized
  obtain ⟨rfl, hB⟩ := m_start hv
  generalize va_A (m_w L ad g) sz = A at hB ⊢
  generalize s.heap = H at hB ⊢
  generalize ([] : List Loc) = locs at hB ⊢
  have hl := lv_entry ([.ref (ad 1000), .int i]) (n := 2) (Nat.le_of_ble_eq_true rfl)
  rw [lg_entry_eq]
  generalize (lg_sl ([.ref (ad 1000), .int i]) ++ List.replicate (2 - (lg_sl ([.ref (ad 1000), .int i])).length) Slot.unset).toArray = ls at hl ⊢
  have hl : lv_has ls 2 [(0, .ref (ad 1000)), (1, .int i)] := hl
  obtain ⟨hL, h_1000, h_1002, h_1004, h_1005, h_1007, h_1008, h_1009, h_1010, h_1011, h_1012, h_1013, h_1014, h_1015, h_1016, h_1019, h_1020, h_1021, h_1022, h_1024, h_1025, h_1026, h_1027, h_1028, h_1029, h_1030, h_1032⟩ := id hM
  refine lv_aload_n hx hb dX9_version_0 rfl (lv_at hl 0 rfl) ?_
  refine lv_iload_n hx hb dX9_version_1 rfl (lv_at hl 1 rfl) ?_
  refine m_callVE (ci := 9) (As := [.int i]) (rest := []) (c_M_isPaper_f l D ty L ad _ a dn pn en qn mz nw lo tr _ hM hi hpn) ⟨hx, hb, hml, hown, hts⟩ (cwV 1 hts gX9_version_X9_isPaper rfl rfl rfl (by decide +kernel) ⟨Nat.le_of_ble_eq_true rfl, Nat.le_of_ble_eq_true rfl⟩) hB (hL 1000 (by decide)) h_1000 rfl rfl hl.1 rfl (Nat.le_of_ble_eq_true rfl) dX9_version_2 ⟨Nat.le_of_ble_eq_true rfl, Nat.le_of_ble_eq_true rfl⟩ (fun H locs hB => ?_)
  refine b_if_ne_f 10 hx hb dX9_version_5 (by decide) (by decide) ?_
  refine lv_iconst (v := (-1)) hx hb dX9_version_8 (by decide) ?_
  exact m_iret hx hb hrt hlocks hB (Nat.le_refl _) (Nat.le_refl _) dX9_version_9 ⟨rfl, rfl, rfl, rfl⟩
set_option maxRecDepth 20000 in
theorem in_X9_version_X9 : ∀ w ∈ wsX90, w ∈ wsX9_version := by decide +kernel
set_option maxHeartbeats 1000000 in
set_option maxRecDepth 100000 in
theorem c_M_version_s1 (l : Launch) (D : va_G) (ty : Nat → ClassId) (L : List Nat) (ad : Nat → Nat) (g : Nat → va_E) (a : Nat → Nat → Int32) (dn pn en qn mz : Nat) (nw lo : Int32) (tr : Int64) (j : Nat) (hM : RM ty L ad g a dn pn en qn mz nw lo tr) (hj9 : j < pn) (hpn : pn ≤ 8) (hd : dn = 0) : m_E l yX9_version wsX9_version 2 43 D ty [.ref (ad 1000), .int (nI j)] L ad g (some (.int (-2))) g := by
  intro sz
  refine Met.ofW (cc := cX9_version) (maxL := 2) (ret := (some .int)) (by decide) rfl ?_
  intro p e s m args below meth c s₁ B hml hv
  have hx := B.exec
  have hb := B.bytes
  have hrt := B.returns
  have hts := atoms_spec (ws := wsX9_version) B.pre
  have hown : s.vm.findClass RX9 = some m.cls := findClass_of_methodNamed B.named
  have hlocks := B.notSynchronized
  obtain ⟨rfl, hB⟩ := m_start hv
  generalize va_A (m_w L ad g) sz = A at hB ⊢
  generalize s.heap = H at hB ⊢
  generalize ([] : List Loc) = locs at hB ⊢
  have hl := lv_entry ([.ref (ad 1000), .int (nI j)]) (n := 2) (Nat.le_of_ble_eq_true rfl)
  rw [lg_entry_eq]
  generalize (lg_sl ([.ref (ad 1000), .int (nI j)]) ++ List.replicate (2 - (lg_sl ([.ref (ad 1000), .int (nI j)])).length) Slot.unset).toArray = ls at hl ⊢
  have hl : lv_has ls 2 [(0, .ref (ad 1000)), (1, .int (nI j))] := hl
  obtain ⟨hL, h_1000, h_1002, h_1004, h_1005, h_1007, h_1008, h_1009, h_1010, h_1011, h_1012, h_1013, h_1014, h_1015, h_1016, h_1019, h_1020, h_1021, h_1022, h_1024, h_1025, h_1026, h_1027, h_1028, h_1029, h_1030, h_1032⟩ := id hM
  refine lv_aload_n hx hb dX9_version_0 rfl (lv_at hl 0 rfl) ?_
  refine lv_iload_n hx hb dX9_version_1 rfl (lv_at hl 1 rfl) ?_
  refine m_callVE (ci := 9) (As := [.int (nI j)]) (rest := []) (c_M_isPaper_t l D ty L ad _ a dn pn en qn mz nw lo tr j hM hj9 hpn) ⟨hx, hb, hml, hown, hts⟩ (cwV 1 hts gX9_version_X9_isPaper rfl rfl rfl (by decide +kernel) ⟨Nat.le_of_ble_eq_true rfl, Nat.le_of_ble_eq_true rfl⟩) hB (hL 1000 (by decide)) h_1000 rfl rfl hl.1 rfl (Nat.le_of_ble_eq_true rfl) dX9_version_2 ⟨Nat.le_of_ble_eq_true rfl, Nat.le_of_ble_eq_true rfl⟩ (fun H locs hB => ?_)
  refine b_if_ne_t 10 hx hb dX9_version_5 (by decide) (by decide) ?_
  refine lv_aload_n hx hb dX9_version_10 rfl (lv_at hl 0 rfl) ?_
  refine m_get (C := RX9) (T := TX9) (N := 33) (ci := 9) hx hb hts in_X9_version_X9 hown hB (hL 1000 (by decide)) h_1000 rfl 0 (by decide) (hts (.fieldLink RX9 101 "PaperRoomModel" "drafted" "I") (by decide +kernel)) (fun _ h9 => h9) rfl dX9_version_11 ?_
  refine b_if_eq_t 26 hx hb dX9_version_14 (by decide) (by rw [hd]; decide) ?_
  refine lv_bipush (v := (-2)) hx hb dX9_version_26 (by decide) ?_
  exact m_iret hx hb hrt hlocks hB (Nat.le_refl _) (Nat.le_refl _) dX9_version_28 ⟨rfl, rfl, rfl, rfl⟩
set_option maxHeartbeats 1000000 in
set_option maxRecDepth 100000 in
theorem c_M_version_s2 (l : Launch) (D : va_G) (ty : Nat → ClassId) (L : List Nat) (ad : Nat → Nat) (g : Nat → va_E) (a : Nat → Nat → Int32) (dn pn en qn mz : Nat) (nw lo : Int32) (tr : Int64) (j : Nat) (hM : RM ty L ad g a dn pn en qn mz nw lo tr) (hj9 : j < pn) (hpn : pn ≤ 8) (hd : 0 < dn) (hdn : dn ≤ 40) (hw : a 9 j = 1) : m_E l yX9_version wsX9_version 2 43 D ty [.ref (ad 1000), .int (nI j)] L ad g (some (.int (-2))) g := by
  intro sz
  refine Met.ofW (cc := cX9_version) (maxL := 2) (ret := (some .int)) (by decide) rfl ?_
  intro p e s m args below meth c s₁ B hml hv
  have hx := B.exec
  have hb := B.bytes
  have hrt := B.returns
  have hts := atoms_spec (ws := wsX9_version) B.pre
  have hown : s.vm.findClass RX9 = some m.cls := findClass_of_methodNamed B.named
  have hlocks := B.notSynchronized
  obtain ⟨rfl, hB⟩ := m_start hv
  generalize va_A (m_w L ad g) sz = A at hB ⊢
  generalize s.heap = H at hB ⊢
  generalize ([] : List Loc) = locs at hB ⊢
  have hl := lv_entry ([.ref (ad 1000), .int (nI j)]) (n := 2) (Nat.le_of_ble_eq_true rfl)
  rw [lg_entry_eq]
  generalize (lg_sl ([.ref (ad 1000), .int (nI j)]) ++ List.replicate (2 - (lg_sl ([.ref (ad 1000), .int (nI j)])).length) Slot.unset).toArray = ls at hl ⊢
  have hl : lv_has ls 2 [(0, .ref (ad 1000)), (1, .int (nI j))] := hl
  obtain ⟨hL, h_1000, h_1002, h_1004, h_1005, h_1007, h_1008, h_1009, h_1010, h_1011, h_1012, h_1013, h_1014, h_1015, h_1016, h_1019, h_1020, h_1021, h_1022, h_1024, h_1025, h_1026, h_1027, h_1028, h_1029, h_1030, h_1032⟩ := id hM
  refine lv_aload_n hx hb dX9_version_0 rfl (lv_at hl 0 rfl) ?_
  refine lv_iload_n hx hb dX9_version_1 rfl (lv_at hl 1 rfl) ?_
  refine m_callVE (ci := 9) (As := [.int (nI j)]) (rest := []) (c_M_isPaper_t l D ty L ad _ a dn pn en qn mz nw lo tr j hM hj9 hpn) ⟨hx, hb, hml, hown, hts⟩ (cwV 1 hts gX9_version_X9_isPaper rfl rfl rfl (by decide +kernel) ⟨Nat.le_of_ble_eq_true rfl, Nat.le_of_ble_eq_true rfl⟩) hB (hL 1000 (by decide)) h_1000 rfl rfl hl.1 rfl (Nat.le_of_ble_eq_true rfl) dX9_version_2 ⟨Nat.le_of_ble_eq_true rfl, Nat.le_of_ble_eq_true rfl⟩ (fun H locs hB => ?_)
  refine b_if_ne_t 10 hx hb dX9_version_5 (by decide) (by decide) ?_
  refine lv_aload_n hx hb dX9_version_10 rfl (lv_at hl 0 rfl) ?_
  refine m_get (C := RX9) (T := TX9) (N := 33) (ci := 9) hx hb hts in_X9_version_X9 hown hB (hL 1000 (by decide)) h_1000 rfl 0 (by decide) (hts (.fieldLink RX9 101 "PaperRoomModel" "drafted" "I") (by decide +kernel)) (fun _ h9 => h9) rfl dX9_version_11 ?_
  refine b_if_eq_f 26 hx hb dX9_version_14 (by decide) (by rw [nI_toInt (by omega)]; omega) ?_
  refine lv_aload_n hx hb dX9_version_17 rfl (lv_at hl 0 rfl) ?_
  refine m_get (C := RX9) (T := TX9) (N := 33) (ci := 9) hx hb hts in_X9_version_X9 hown hB (hL 1000 (by decide)) h_1000 rfl 9 (by decide) (hts (.fieldLink RX9 28 "PaperRoomModel" "isWithdrawn" "[Z") (by decide +kernel)) (fun _ h9 => h9) rfl dX9_version_18 ?_
  refine lv_iload_n hx hb dX9_version_21 rfl (lv_at hl 1 rfl) ?_
  refine n_zald hx hb hB (hL 1010 (by decide)) h_1010 j rfl (by omega) (by omega) dX9_version_22 ?_
  refine b_if_eq_f 29 hx hb dX9_version_23 (by decide) (by rw [hw]; decide) ?_
  refine lv_bipush (v := (-2)) hx hb dX9_version_26 (by decide) ?_
  exact m_iret hx hb hrt hlocks hB (Nat.le_refl _) (Nat.le_refl _) dX9_version_28 ⟨rfl, rfl, rfl, rfl⟩
set_option maxHeartbeats 1000000 in
set_option maxRecDepth 100000 in
theorem c_M_version_full (l : Launch) (D : va_G) (ty : Nat → ClassId) (L : List Nat) (ad : Nat → Nat) (g : Nat → va_E) (a : Nat → Nat → Int32) (dn pn en qn mz : Nat) (nw lo : Int32) (tr : Int64) (j : Nat) (hM : RM ty L ad g a dn pn en qn mz nw lo tr) (hj9 : j < pn) (hpn : pn ≤ 8) (hd : 0 < dn) (hdn : dn ≤ 40) (hw : a 9 j = 0) (hvj : a 10 j = nI 4) : m_E l yX9_version wsX9_version 2 43 D ty [.ref (ad 1000), .int (nI j)] L ad g (some (.int (-3))) g := by
  intro sz
  refine Met.ofW (cc := cX9_version) (maxL := 2) (ret := (some .int)) (by decide) rfl ?_
  intro p e s m args below meth c s₁ B hml hv
  have hx := B.exec
  have hb := B.bytes
  have hrt := B.returns
  have hts := atoms_spec (ws := wsX9_version) B.pre
  have hown : s.vm.findClass RX9 = some m.cls := findClass_of_methodNamed B.named
  have hlocks := B.notSynchronized
  obtain ⟨rfl, hB⟩ := m_start hv
  generalize va_A (m_w L ad g) sz = A at hB ⊢
  generalize s.heap = H at hB ⊢
  generalize ([] : List Loc) = locs at hB ⊢
  have hl := lv_entry ([.ref (ad 1000), .int (nI j)]) (n := 2) (Nat.le_of_ble_eq_true rfl)
  rw [lg_entry_eq]
  generalize (lg_sl ([.ref (ad 1000), .int (nI j)]) ++ List.replicate (2 - (lg_sl ([.ref (ad 1000), .int (nI j)])).length) Slot.unset).toArray = ls at hl ⊢
  have hl : lv_has ls 2 [(0, .ref (ad 1000)), (1, .int (nI j))] := hl
  obtain ⟨hL, h_1000, h_1002, h_1004, h_1005, h_1007, h_1008, h_1009, h_1010, h_1011, h_1012, h_1013, h_1014, h_1015, h_1016, h_1019, h_1020, h_1021, h_1022, h_1024, h_1025, h_1026, h_1027, h_1028, h_1029, h_1030, h_1032⟩ := id hM
  refine lv_aload_n hx hb dX9_version_0 rfl (lv_at hl 0 rfl) ?_
  refine lv_iload_n hx hb dX9_version_1 rfl (lv_at hl 1 rfl) ?_
  refine m_callVE (ci := 9) (As := [.int (nI j)]) (rest := []) (c_M_isPaper_t l D ty L ad _ a dn pn en qn mz nw lo tr j hM hj9 hpn) ⟨hx, hb, hml, hown, hts⟩ (cwV 1 hts gX9_version_X9_isPaper rfl rfl rfl (by decide +kernel) ⟨Nat.le_of_ble_eq_true rfl, Nat.le_of_ble_eq_true rfl⟩) hB (hL 1000 (by decide)) h_1000 rfl rfl hl.1 rfl (Nat.le_of_ble_eq_true rfl) dX9_version_2 ⟨Nat.le_of_ble_eq_true rfl, Nat.le_of_ble_eq_true rfl⟩ (fun H locs hB => ?_)
  refine b_if_ne_t 10 hx hb dX9_version_5 (by decide) (by decide) ?_
  refine lv_aload_n hx hb dX9_version_10 rfl (lv_at hl 0 rfl) ?_
  refine m_get (C := RX9) (T := TX9) (N := 33) (ci := 9) hx hb hts in_X9_version_X9 hown hB (hL 1000 (by decide)) h_1000 rfl 0 (by decide) (hts (.fieldLink RX9 101 "PaperRoomModel" "drafted" "I") (by decide +kernel)) (fun _ h9 => h9) rfl dX9_version_11 ?_
  refine b_if_eq_f 26 hx hb dX9_version_14 (by decide) (by rw [nI_toInt (by omega)]; omega) ?_
  refine lv_aload_n hx hb dX9_version_17 rfl (lv_at hl 0 rfl) ?_
  refine m_get (C := RX9) (T := TX9) (N := 33) (ci := 9) hx hb hts in_X9_version_X9 hown hB (hL 1000 (by decide)) h_1000 rfl 9 (by decide) (hts (.fieldLink RX9 28 "PaperRoomModel" "isWithdrawn" "[Z") (by decide +kernel)) (fun _ h9 => h9) rfl dX9_version_18 ?_
  refine lv_iload_n hx hb dX9_version_21 rfl (lv_at hl 1 rfl) ?_
  refine n_zald hx hb hB (hL 1010 (by decide)) h_1010 j rfl (by omega) (by omega) dX9_version_22 ?_
  refine b_if_eq_t 29 hx hb dX9_version_23 (by decide) (by rw [hw]; decide) ?_
  refine lv_aload_n hx hb dX9_version_29 rfl (lv_at hl 0 rfl) ?_
  refine m_get (C := RX9) (T := TX9) (N := 33) (ci := 9) hx hb hts in_X9_version_X9 hown hB (hL 1000 (by decide)) h_1000 rfl 10 (by decide) (hts (.fieldLink RX9 32 "PaperRoomModel" "versions" "[I") (by decide +kernel)) (fun _ h9 => h9) rfl dX9_version_30 ?_
  refine lv_iload_n hx hb dX9_version_33 rfl (lv_at hl 1 rfl) ?_
  refine n_iald hx hb hB (hL 1011 (by decide)) h_1011 j rfl (by omega) (by omega) dX9_version_34 ?_
  refine b_topi (w := nI 4) (hvj) ?_
  refine lv_iconst (v := 4) hx hb dX9_version_35 (by decide) ?_
  refine b_icmp_ne_f 42 hx hb dX9_version_36 (by decide) (by decide) ?_
  refine lv_bipush (v := (-3)) hx hb dX9_version_39 (by decide) ?_
  exact m_iret hx hb hrt hlocks hB (Nat.le_refl _) (Nat.le_refl _) dX9_version_41 ⟨rfl, rfl, rfl, rfl⟩
set_option maxHeartbeats 1000000 in
set_option maxRecDepth 100000 in
theorem c_M_version_ok (l : Launch) (D : va_G) (ty : Nat → ClassId) (L : List Nat) (ad : Nat → Nat) (g : Nat → va_E) (a : Nat → Nat → Int32) (dn pn en qn mz : Nat) (nw lo : Int32) (tr : Int64) (j vj : Nat) (hM : RM ty L ad g a dn pn en qn mz nw lo tr) (hj9 : j < pn) (hpn : pn ≤ 8) (hd : 0 < dn) (hdn : dn ≤ 40) (hw : a 9 j = 0) (hvj : a 10 j = nI vj) (hv4 : vj < 4) : m_C l yX9_version wsX9_version 2 43 0 0 D ty [.ref (ad 1000), .int (nI j)] L ad g (fun v1 L1 ad1 g1 => v1 = (some (.int (nI vj))) ∧ L1 = L ∧ ad1 = ad ∧ (∀ x, x < 1000 → g1 x = g x) ∧ RM ty L ad g1 (cmA a dn j vj) 0 pn en qn mz nw lo tr) := by
  intro sz
  refine Met.ofW (cc := cX9_version) (maxL := 2) (ret := (some .int)) (by decide) rfl ?_
  intro p e s m args below meth c s₁ B hml hv
  have hx := B.exec
  have hb := B.bytes
  have hrt := B.returns
  have hts := atoms_spec (ws := wsX9_version) B.pre
  have hown : s.vm.findClass RX9 = some m.cls := findClass_of_methodNamed B.named
  have hlocks := B.notSynchronized
  obtain ⟨rfl, hB⟩ := m_start hv
  generalize va_A (m_w L ad g) sz = A at hB ⊢
  generalize s.heap = H at hB ⊢
  generalize ([] : List Loc) = locs at hB ⊢
  have hl := lv_entry ([.ref (ad 1000), .int (nI j)]) (n := 2) (Nat.le_of_ble_eq_true rfl)
  rw [lg_entry_eq]
  generalize (lg_sl ([.ref (ad 1000), .int (nI j)]) ++ List.replicate (2 - (lg_sl ([.ref (ad 1000), .int (nI j)])).length) Slot.unset).toArray = ls at hl ⊢
  have hl : lv_has ls 2 [(0, .ref (ad 1000)), (1, .int (nI j))] := hl
  obtain ⟨hL, h_1000, h_1002, h_1004, h_1005, h_1007, h_1008, h_1009, h_1010, h_1011, h_1012, h_1013, h_1014, h_1015, h_1016, h_1019, h_1020, h_1021, h_1022, h_1024, h_1025, h_1026, h_1027, h_1028, h_1029, h_1030, h_1032⟩ := id hM
  refine lv_aload_n hx hb dX9_version_0 rfl (lv_at hl 0 rfl) ?_
  refine lv_iload_n hx hb dX9_version_1 rfl (lv_at hl 1 rfl) ?_
  refine m_callVE (ci := 9) (As := [.int (nI j)]) (rest := []) (c_M_isPaper_t l D ty L ad _ a dn pn en qn mz nw lo tr j hM hj9 hpn) ⟨hx, hb, hml, hown, hts⟩ (cwV 1 hts gX9_version_X9_isPaper rfl rfl rfl (by decide +kernel) ⟨Nat.le_of_ble_eq_true rfl, Nat.le_of_ble_eq_true rfl⟩) hB (hL 1000 (by decide)) h_1000 rfl rfl hl.1 rfl (Nat.le_of_ble_eq_true rfl) dX9_version_2 ⟨Nat.le_of_ble_eq_true rfl, Nat.le_of_ble_eq_true rfl⟩ (fun H locs hB => ?_)
  refine b_if_ne_t 10 hx hb dX9_version_5 (by decide) (by decide) ?_
  refine lv_aload_n hx hb dX9_version_10 rfl (lv_at hl 0 rfl) ?_
  refine m_get (C := RX9) (T := TX9) (N := 33) (ci := 9) hx hb hts in_X9_version_X9 hown hB (hL 1000 (by decide)) h_1000 rfl 0 (by decide) (hts (.fieldLink RX9 101 "PaperRoomModel" "drafted" "I") (by decide +kernel)) (fun _ h9 => h9) rfl dX9_version_11 ?_
  refine b_if_eq_f 26 hx hb dX9_version_14 (by decide) (by rw [nI_toInt (by omega)]; omega) ?_
  refine lv_aload_n hx hb dX9_version_17 rfl (lv_at hl 0 rfl) ?_
  refine m_get (C := RX9) (T := TX9) (N := 33) (ci := 9) hx hb hts in_X9_version_X9 hown hB (hL 1000 (by decide)) h_1000 rfl 9 (by decide) (hts (.fieldLink RX9 28 "PaperRoomModel" "isWithdrawn" "[Z") (by decide +kernel)) (fun _ h9 => h9) rfl dX9_version_18 ?_
  refine lv_iload_n hx hb dX9_version_21 rfl (lv_at hl 1 rfl) ?_
  refine n_zald hx hb hB (hL 1010 (by decide)) h_1010 j rfl (by omega) (by omega) dX9_version_22 ?_
  refine b_if_eq_t 29 hx hb dX9_version_23 (by decide) (by rw [hw]; decide) ?_
  refine lv_aload_n hx hb dX9_version_29 rfl (lv_at hl 0 rfl) ?_
  refine m_get (C := RX9) (T := TX9) (N := 33) (ci := 9) hx hb hts in_X9_version_X9 hown hB (hL 1000 (by decide)) h_1000 rfl 10 (by decide) (hts (.fieldLink RX9 32 "PaperRoomModel" "versions" "[I") (by decide +kernel)) (fun _ h9 => h9) rfl dX9_version_30 ?_
  refine lv_iload_n hx hb dX9_version_33 rfl (lv_at hl 1 rfl) ?_
  refine n_iald hx hb hB (hL 1011 (by decide)) h_1011 j rfl (by omega) (by omega) dX9_version_34 ?_
  refine b_topi (w := nI vj) (hvj) ?_
  refine lv_iconst (v := 4) hx hb dX9_version_35 (by decide) ?_
  refine b_icmp_ne_t 42 hx hb dX9_version_36 (by decide) (by rw [nI_toInt (by omega), show (4 : Int32).toInt = 4 by decide]; omega) ?_
  refine lv_aload_n hx hb dX9_version_42 rfl (lv_at hl 0 rfl) ?_
  refine lv_iload_n hx hb dX9_version_43 rfl (lv_at hl 1 rfl) ?_
  refine m_callV (ci := 9) (As := [.int (nI j)]) (rest := []) (c_M_comes l D ty L ad _ a dn pn en qn mz nw lo tr j vj hM (by omega) hvj hv4 hdn) ⟨hx, hb, hml, hown, hts⟩ (cwV 1 hts gX9_version_X9_comes rfl rfl rfl (by decide +kernel) ⟨Nat.le_of_ble_eq_true rfl, Nat.le_of_ble_eq_true rfl⟩) hB (hL 1000 (by decide)) h_1000 rfl rfl hl.1 rfl (Nat.le_of_ble_eq_true rfl) dX9_version_44 ⟨Nat.le_of_ble_eq_true rfl, Nat.le_of_ble_eq_true rfl⟩ (fun v144 L144 ad_144 g144 H locs hp144 hB => ?_)
  obtain ⟨q1_144, q2_144, q3_144, hfr_144, hM_144⟩ := hp144
  rw [q2_144, q3_144] at hB
  obtain ⟨_, f144_1000, f144_1002, f144_1004, f144_1005, f144_1007, f144_1008, f144_1009, f144_1010, f144_1011, f144_1012, f144_1013, f144_1014, f144_1015, f144_1016, f144_1019, f144_1020, f144_1021, f144_1022, f144_1024, f144_1025, f144_1026, f144_1027, f144_1028, f144_1029, f144_1030, f144_1032⟩ := id hM_144
  refine W.eq (g2 := F0 m 47 ls []) (by rw [q1_144]; rfl) ?_
  refine lv_aload_n hx hb dX9_version_47 rfl (lv_at hl 0 rfl) ?_
  refine m_get (C := RX9) (T := TX9) (N := 33) (ci := 9) hx hb hts in_X9_version_X9 hown hB (hL 1000 (by decide)) f144_1000 rfl 10 (by decide) (hts (.fieldLink RX9 32 "PaperRoomModel" "versions" "[I") (by decide +kernel)) (fun _ h9 => h9) rfl dX9_version_48 ?_
  refine lv_iload_n hx hb dX9_version_51 rfl (lv_at hl 1 rfl) ?_
  refine n_iald hx hb hB (hL 1011 (by decide)) f144_1011 j rfl (by omega) (by omega) dX9_version_52 ?_
  refine b_topi (w := nI (vj + 1)) (by show upd (a 10) j (nI (vj + 1)) j = _; rw [pk_us]) ?_
  refine lv_iconst (v := 1) hx hb dX9_version_53 (by decide) ?_
  refine lv_isub hx hb dX9_version_54 ?_
  refine b_topi (w := nI vj) ((pk_sub (a := vj + 1) (b := 1) (by omega)).trans (by rw [Nat.add_sub_cancel])) ?_
  exact m_iret hx hb hrt hlocks hB (Nat.le_refl _) (Nat.le_refl _) dX9_version_55 ⟨rfl, rfl, rfl, (fun x hx => ((hfr_144 x hx).trans rfl)), ⟨hL, f144_1000, f144_1002, f144_1004, f144_1005, f144_1007, f144_1008, f144_1009, f144_1010, f144_1011, f144_1012, f144_1013, f144_1014, f144_1015, f144_1016, f144_1019, f144_1020, f144_1021, f144_1022, f144_1024, f144_1025, f144_1026, f144_1027, f144_1028, f144_1029, f144_1030, f144_1032⟩⟩
set_option maxHeartbeats 1000000 in
set_option maxRecDepth 100000 in
theorem c_M_paper_1 (l : Launch) (D : va_G) (ty : Nat → ClassId) (L : List Nat) (ad : Nat → Nat) (g : Nat → va_E) (a : Nat → Nat → Int32) (dn pn en qn mz : Nat) (nw lo : Int32) (tr : Int64) (k f t : Int32) (hM : RM ty L ad g a dn pn en qn mz nw lo tr) (h : ¬ (0 ≤ k.toInt ∧ k.toInt < 3)) : m_E l yX9_paper wsX9_paper 1 23 D ty [.ref (ad 1000), .int k, .int f, .int t] L ad g (some (.int (-1))) g := by
  intro sz
  refine Met.ofW (cc := cX9_paper) (maxL := 4) (ret := (some .int)) (by decide) rfl ?_
  intro p e s m args below meth c s₁ B hml hv
  have hx := B.exec
  have hb := B.bytes
  have hrt := B.returns
  have hts := atoms_spec (ws := wsX9_paper) B.pre
  have hown : s.vm.findClass RX9 = some m.cls := findClass_of_methodNamed B.named
  have hlocks := B.notSynchronized
  obtain ⟨rfl, hB⟩ := m_start hv
  generalize va_A (m_w L ad g) sz = A at hB ⊢
  generalize s.heap = H at hB ⊢
  generalize ([] : List Loc) = locs at hB ⊢
  have hl := lv_entry ([.ref (ad 1000), .int k, .int f, .int t]) (n := 4) (Nat.le_of_ble_eq_true rfl)
  rw [lg_entry_eq]
  generalize (lg_sl ([.ref (ad 1000), .int k, .int f, .int t]) ++ List.replicate (4 - (lg_sl ([.ref (ad 1000), .int k, .int f, .int t])).length) Slot.unset).toArray = ls at hl ⊢
  have hl : lv_has ls 4 [(0, .ref (ad 1000)), (1, .int k), (2, .int f), (3, .int t)] := hl
  obtain ⟨hL, h_1000, h_1002, h_1004, h_1005, h_1007, h_1008, h_1009, h_1010, h_1011, h_1012, h_1013, h_1014, h_1015, h_1016, h_1019, h_1020, h_1021, h_1022, h_1024, h_1025, h_1026, h_1027, h_1028, h_1029, h_1030, h_1032⟩ := id hM
  have l0 : (0 : Int32).toInt = 0 := by decide
  have l1 : (1 : Int32).toInt = 1 := by decide
  have l2 : (2 : Int32).toInt = 2 := by decide
  have l3 : (3 : Int32).toInt = 3 := by decide
  have l8 : (8 : Int32).toInt = 8 := by decide
  refine lv_iload_n hx hb dX9_paper_0 rfl (lv_at hl 1 rfl) ?_
  refine lv_iconst (v := 0) hx hb dX9_paper_1 (by decide) ?_
  refine lv_iconst (v := 2) hx hb dX9_paper_2 (by decide) ?_
  refine m_callSE (As := [.int k, .int 0, .int 2]) (rest := []) (c_M_in_f l D ty L ad _ _ _ _ (by omega)) ⟨hx, hb, hml, hown, hts⟩ (va_cwS 3 hts gX9_paper_X9_in rfl rfl rfl (by decide +kernel) ⟨Nat.le_of_ble_eq_true rfl, Nat.le_of_ble_eq_true rfl⟩) hB rfl hl.1 rfl (Nat.le_of_ble_eq_true rfl) dX9_paper_3 ⟨Nat.le_of_ble_eq_true rfl, Nat.le_of_ble_eq_true rfl⟩ (fun H locs hB => ?_)
  refine b_if_eq_t 27 hx hb dX9_paper_6 (by decide) (by decide) ?_
  refine lv_iconst (v := (-1)) hx hb dX9_paper_27 (by decide) ?_
  exact m_iret hx hb hrt hlocks hB (Nat.le_refl _) (Nat.le_refl _) dX9_paper_28 ⟨rfl, rfl, rfl, rfl⟩
set_option maxHeartbeats 1000000 in
set_option maxRecDepth 100000 in
theorem c_M_paper_2 (l : Launch) (D : va_G) (ty : Nat → ClassId) (L : List Nat) (ad : Nat → Nat) (g : Nat → va_E) (a : Nat → Nat → Int32) (dn pn en qn mz : Nat) (nw lo : Int32) (tr : Int64) (k f t : Int32) (hM : RM ty L ad g a dn pn en qn mz nw lo tr) (h1 : 0 ≤ k.toInt ∧ k.toInt < 3) (h : ¬ (0 ≤ f.toInt ∧ f.toInt < 4)) : m_E l yX9_paper wsX9_paper 1 23 D ty [.ref (ad 1000), .int k, .int f, .int t] L ad g (some (.int (-1))) g := by
  intro sz
  refine Met.ofW (cc := cX9_paper) (maxL := 4) (ret := (some .int)) (by decide) rfl ?_
  intro p e s m args below meth c s₁ B hml hv
  have hx := B.exec
  have hb := B.bytes
  have hrt := B.returns
  have hts := atoms_spec (ws := wsX9_paper) B.pre
  have hown : s.vm.findClass RX9 = some m.cls := findClass_of_methodNamed B.named
  have hlocks := B.notSynchronized
  obtain ⟨rfl, hB⟩ := m_start hv
  generalize va_A (m_w L ad g) sz = A at hB ⊢
  generalize s.heap = H at hB ⊢
  generalize ([] : List Loc) = locs at hB ⊢
  have hl := lv_entry ([.ref (ad 1000), .int k, .int f, .int t]) (n := 4) (Nat.le_of_ble_eq_true rfl)
  rw [lg_entry_eq]
  generalize (lg_sl ([.ref (ad 1000), .int k, .int f, .int t]) ++ List.replicate (4 - (lg_sl ([.ref (ad 1000), .int k, .int f, .int t])).length) Slot.unset).toArray = ls at hl ⊢
  have hl : lv_has ls 4 [(0, .ref (ad 1000)), (1, .int k), (2, .int f), (3, .int t)] := hl
  obtain ⟨hL, h_1000, h_1002, h_1004, h_1005, h_1007, h_1008, h_1009, h_1010, h_1011, h_1012, h_1013, h_1014, h_1015, h_1016, h_1019, h_1020, h_1021, h_1022, h_1024, h_1025, h_1026, h_1027, h_1028, h_1029, h_1030, h_1032⟩ := id hM
  have l0 : (0 : Int32).toInt = 0 := by decide
  have l1 : (1 : Int32).toInt = 1 := by decide
  have l2 : (2 : Int32).toInt = 2 := by decide
  have l3 : (3 : Int32).toInt = 3 := by decide
  have l8 : (8 : Int32).toInt = 8 := by decide
  refine lv_iload_n hx hb dX9_paper_0 rfl (lv_at hl 1 rfl) ?_
  refine lv_iconst (v := 0) hx hb dX9_paper_1 (by decide) ?_
  refine lv_iconst (v := 2) hx hb dX9_paper_2 (by decide) ?_
  refine m_callSE (As := [.int k, .int 0, .int 2]) (rest := []) (c_M_in_t l D ty L ad _ _ _ _ (by omega) (by omega)) ⟨hx, hb, hml, hown, hts⟩ (va_cwS 3 hts gX9_paper_X9_in rfl rfl rfl (by decide +kernel) ⟨Nat.le_of_ble_eq_true rfl, Nat.le_of_ble_eq_true rfl⟩) hB rfl hl.1 rfl (Nat.le_of_ble_eq_true rfl) dX9_paper_3 ⟨Nat.le_of_ble_eq_true rfl, Nat.le_of_ble_eq_true rfl⟩ (fun H locs hB => ?_)
  refine b_if_eq_f 27 hx hb dX9_paper_6 (by decide) (by decide) ?_
  refine lv_iload_n hx hb dX9_paper_9 rfl (lv_at hl 2 rfl) ?_
  refine lv_iconst (v := 0) hx hb dX9_paper_10 (by decide) ?_
  refine lv_iconst (v := 3) hx hb dX9_paper_11 (by decide) ?_
  refine m_callSE (As := [.int f, .int 0, .int 3]) (rest := []) (c_M_in_f l D ty L ad _ _ _ _ (by omega)) ⟨hx, hb, hml, hown, hts⟩ (va_cwS 3 hts gX9_paper_X9_in rfl rfl rfl (by decide +kernel) ⟨Nat.le_of_ble_eq_true rfl, Nat.le_of_ble_eq_true rfl⟩) hB rfl hl.1 rfl (Nat.le_of_ble_eq_true rfl) dX9_paper_12 ⟨Nat.le_of_ble_eq_true rfl, Nat.le_of_ble_eq_true rfl⟩ (fun H locs hB => ?_)
  refine b_if_eq_t 27 hx hb dX9_paper_15 (by decide) (by decide) ?_
  refine lv_iconst (v := (-1)) hx hb dX9_paper_27 (by decide) ?_
  exact m_iret hx hb hrt hlocks hB (Nat.le_refl _) (Nat.le_refl _) dX9_paper_28 ⟨rfl, rfl, rfl, rfl⟩
set_option maxHeartbeats 1000000 in
set_option maxRecDepth 100000 in
theorem c_M_paper_3 (l : Launch) (D : va_G) (ty : Nat → ClassId) (L : List Nat) (ad : Nat → Nat) (g : Nat → va_E) (a : Nat → Nat → Int32) (dn pn en qn mz : Nat) (nw lo : Int32) (tr : Int64) (k f t : Int32) (hM : RM ty L ad g a dn pn en qn mz nw lo tr) (h1 : 0 ≤ k.toInt ∧ k.toInt < 3) (h2 : 0 ≤ f.toInt ∧ f.toInt < 4) (hk1 : k = 1) (h : t.toInt < 0) : m_E l yX9_paper wsX9_paper 1 23 D ty [.ref (ad 1000), .int k, .int f, .int t] L ad g (some (.int (-1))) g := by
  intro sz
  refine Met.ofW (cc := cX9_paper) (maxL := 4) (ret := (some .int)) (by decide) rfl ?_
  intro p e s m args below meth c s₁ B hml hv
  have hx := B.exec
  have hb := B.bytes
  have hrt := B.returns
  have hts := atoms_spec (ws := wsX9_paper) B.pre
  have hown : s.vm.findClass RX9 = some m.cls := findClass_of_methodNamed B.named
  have hlocks := B.notSynchronized
  obtain ⟨rfl, hB⟩ := m_start hv
  generalize va_A (m_w L ad g) sz = A at hB ⊢
  generalize s.heap = H at hB ⊢
  generalize ([] : List Loc) = locs at hB ⊢
  have hl := lv_entry ([.ref (ad 1000), .int k, .int f, .int t]) (n := 4) (Nat.le_of_ble_eq_true rfl)
  rw [lg_entry_eq]
  generalize (lg_sl ([.ref (ad 1000), .int k, .int f, .int t]) ++ List.replicate (4 - (lg_sl ([.ref (ad 1000), .int k, .int f, .int t])).length) Slot.unset).toArray = ls at hl ⊢
  have hl : lv_has ls 4 [(0, .ref (ad 1000)), (1, .int k), (2, .int f), (3, .int t)] := hl
  obtain ⟨hL, h_1000, h_1002, h_1004, h_1005, h_1007, h_1008, h_1009, h_1010, h_1011, h_1012, h_1013, h_1014, h_1015, h_1016, h_1019, h_1020, h_1021, h_1022, h_1024, h_1025, h_1026, h_1027, h_1028, h_1029, h_1030, h_1032⟩ := id hM
  have l0 : (0 : Int32).toInt = 0 := by decide
  have l1 : (1 : Int32).toInt = 1 := by decide
  have l2 : (2 : Int32).toInt = 2 := by decide
  have l3 : (3 : Int32).toInt = 3 := by decide
  have l8 : (8 : Int32).toInt = 8 := by decide
  refine lv_iload_n hx hb dX9_paper_0 rfl (lv_at hl 1 rfl) ?_
  refine lv_iconst (v := 0) hx hb dX9_paper_1 (by decide) ?_
  refine lv_iconst (v := 2) hx hb dX9_paper_2 (by decide) ?_
  refine m_callSE (As := [.int k, .int 0, .int 2]) (rest := []) (c_M_in_t l D ty L ad _ _ _ _ (by omega) (by omega)) ⟨hx, hb, hml, hown, hts⟩ (va_cwS 3 hts gX9_paper_X9_in rfl rfl rfl (by decide +kernel) ⟨Nat.le_of_ble_eq_true rfl, Nat.le_of_ble_eq_true rfl⟩) hB rfl hl.1 rfl (Nat.le_of_ble_eq_true rfl) dX9_paper_3 ⟨Nat.le_of_ble_eq_true rfl, Nat.le_of_ble_eq_true rfl⟩ (fun H locs hB => ?_)
  refine b_if_eq_f 27 hx hb dX9_paper_6 (by decide) (by decide) ?_
  refine lv_iload_n hx hb dX9_paper_9 rfl (lv_at hl 2 rfl) ?_
  refine lv_iconst (v := 0) hx hb dX9_paper_10 (by decide) ?_
  refine lv_iconst (v := 3) hx hb dX9_paper_11 (by decide) ?_
  refine m_callSE (As := [.int f, .int 0, .int 3]) (rest := []) (c_M_in_t l D ty L ad _ _ _ _ (by omega) (by omega)) ⟨hx, hb, hml, hown, hts⟩ (va_cwS 3 hts gX9_paper_X9_in rfl rfl rfl (by decide +kernel) ⟨Nat.le_of_ble_eq_true rfl, Nat.le_of_ble_eq_true rfl⟩) hB rfl hl.1 rfl (Nat.le_of_ble_eq_true rfl) dX9_paper_12 ⟨Nat.le_of_ble_eq_true rfl, Nat.le_of_ble_eq_true rfl⟩ (fun H locs hB => ?_)
  refine b_if_eq_f 27 hx hb dX9_paper_15 (by decide) (by decide) ?_
  refine lv_iload_n hx hb dX9_paper_18 rfl (lv_at hl 1 rfl) ?_
  refine lv_iconst (v := 1) hx hb dX9_paper_19 (by decide) ?_
  refine b_icmp_ne_f 29 hx hb dX9_paper_20 (by decide) (by rw [hk1]) ?_
  refine lv_iload_n hx hb dX9_paper_23 rfl (lv_at hl 3 rfl) ?_
  refine b_if_ge_f 29 hx hb dX9_paper_24 (by decide) (by omega) ?_
  refine lv_iconst (v := (-1)) hx hb dX9_paper_27 (by decide) ?_
  exact m_iret hx hb hrt hlocks hB (Nat.le_refl _) (Nat.le_refl _) dX9_paper_28 ⟨rfl, rfl, rfl, rfl⟩
set_option maxRecDepth 20000 in
theorem in_X9_paper_X9 : ∀ w ∈ wsX90, w ∈ wsX9_paper := by decide +kernel
set_option maxHeartbeats 1000000 in
set_option maxRecDepth 100000 in
theorem c_M_paper_state (l : Launch) (D : va_G) (ty : Nat → ClassId) (L : List Nat) (ad : Nat → Nat) (g : Nat → va_E) (a : Nat → Nat → Int32) (dn pn en qn mz : Nat) (nw lo : Int32) (tr : Int64) (k f t : Int32) (hM : RM ty L ad g a dn pn en qn mz nw lo tr) (h1 : 0 ≤ k.toInt ∧ k.toInt < 3) (h2 : 0 ≤ f.toInt ∧ f.toInt < 4) (hkt : k = 1 → 0 ≤ t.toInt) (hd : dn = 0) : m_E l yX9_paper wsX9_paper 1 23 D ty [.ref (ad 1000), .int k, .int f, .int t] L ad g (some (.int (-2))) g := by
  intro sz
  refine Met.ofW (cc := cX9_paper) (maxL := 4) (ret := (some .int)) (by decide) rfl ?_
  intro p e s m args below meth c s₁ B hml hv
  have hx := B.exec
  have hb := B.bytes
  have hrt := B.returns
  have hts := atoms_spec (ws := wsX9_paper) B.pre
  have hown : s.vm.findClass RX9 = some m.cls := findClass_of_methodNamed B.named
  have hlocks := B.notSynchronized
  obtain ⟨rfl, hB⟩ := m_start hv
  generalize va_A (m_w L ad g) sz = A at hB ⊢
  generalize s.heap = H at hB ⊢
  generalize ([] : List Loc) = locs at hB ⊢
  have hl := lv_entry ([.ref (ad 1000), .int k, .int f, .int t]) (n := 4) (Nat.le_of_ble_eq_true rfl)
  rw [lg_entry_eq]
  generalize (lg_sl ([.ref (ad 1000), .int k, .int f, .int t]) ++ List.replicate (4 - (lg_sl ([.ref (ad 1000), .int k, .int f, .int t])).length) Slot.unset).toArray = ls at hl ⊢
  have hl : lv_has ls 4 [(0, .ref (ad 1000)), (1, .int k), (2, .int f), (3, .int t)] := hl
  obtain ⟨hL, h_1000, h_1002, h_1004, h_1005, h_1007, h_1008, h_1009, h_1010, h_1011, h_1012, h_1013, h_1014, h_1015, h_1016, h_1019, h_1020, h_1021, h_1022, h_1024, h_1025, h_1026, h_1027, h_1028, h_1029, h_1030, h_1032⟩ := id hM
  have l0 : (0 : Int32).toInt = 0 := by decide
  have l1 : (1 : Int32).toInt = 1 := by decide
  have l2 : (2 : Int32).toInt = 2 := by decide
  have l3 : (3 : Int32).toInt = 3 := by decide
  have l8 : (8 : Int32).toInt = 8 := by decide
  by_cases hk1 : k = 1
  · skip
    refine lv_iload_n hx hb dX9_paper_0 rfl (lv_at hl 1 rfl) ?_
    refine lv_iconst (v := 0) hx hb dX9_paper_1 (by decide) ?_
    refine lv_iconst (v := 2) hx hb dX9_paper_2 (by decide) ?_
    refine m_callSE (As := [.int k, .int 0, .int 2]) (rest := []) (c_M_in_t l D ty L ad _ _ _ _ (by omega) (by omega)) ⟨hx, hb, hml, hown, hts⟩ (va_cwS 3 hts gX9_paper_X9_in rfl rfl rfl (by decide +kernel) ⟨Nat.le_of_ble_eq_true rfl, Nat.le_of_ble_eq_true rfl⟩) hB rfl hl.1 rfl (Nat.le_of_ble_eq_true rfl) dX9_paper_3 ⟨Nat.le_of_ble_eq_true rfl, Nat.le_of_ble_eq_true rfl⟩ (fun H locs hB => ?_)
    refine b_if_eq_f 27 hx hb dX9_paper_6 (by decide) (by decide) ?_
    refine lv_iload_n hx hb dX9_paper_9 rfl (lv_at hl 2 rfl) ?_
    refine lv_iconst (v := 0) hx hb dX9_paper_10 (by decide) ?_
    refine lv_iconst (v := 3) hx hb dX9_paper_11 (by decide) ?_
    refine m_callSE (As := [.int f, .int 0, .int 3]) (rest := []) (c_M_in_t l D ty L ad _ _ _ _ (by omega) (by omega)) ⟨hx, hb, hml, hown, hts⟩ (va_cwS 3 hts gX9_paper_X9_in rfl rfl rfl (by decide +kernel) ⟨Nat.le_of_ble_eq_true rfl, Nat.le_of_ble_eq_true rfl⟩) hB rfl hl.1 rfl (Nat.le_of_ble_eq_true rfl) dX9_paper_12 ⟨Nat.le_of_ble_eq_true rfl, Nat.le_of_ble_eq_true rfl⟩ (fun H locs hB => ?_)
    refine b_if_eq_f 27 hx hb dX9_paper_15 (by decide) (by decide) ?_
    refine lv_iload_n hx hb dX9_paper_18 rfl (lv_at hl 1 rfl) ?_
    refine lv_iconst (v := 1) hx hb dX9_paper_19 (by decide) ?_
    refine b_icmp_ne_f 29 hx hb dX9_paper_20 (by decide) (by rw [hk1]) ?_
    refine lv_iload_n hx hb dX9_paper_23 rfl (lv_at hl 3 rfl) ?_
    refine b_if_ge_t 29 hx hb dX9_paper_24 (by decide) (by have := hkt hk1; omega) ?_
    refine lv_aload_n hx hb dX9_paper_29 rfl (lv_at hl 0 rfl) ?_
    refine m_get (C := RX9) (T := TX9) (N := 33) (ci := 9) hx hb hts in_X9_paper_X9 hown hB (hL 1000 (by decide)) h_1000 rfl 0 (by decide) (hts (.fieldLink RX9 101 "PaperRoomModel" "drafted" "I") (by decide +kernel)) (fun _ h9 => h9) rfl dX9_paper_30 ?_
    refine b_if_ne_f 39 hx hb dX9_paper_33 (by decide) (by rw [hd]; decide) ?_
    refine lv_bipush (v := (-2)) hx hb dX9_paper_36 (by decide) ?_
    exact m_iret hx hb hrt hlocks hB (Nat.le_refl _) (Nat.le_refl _) dX9_paper_38 ⟨rfl, rfl, rfl, rfl⟩
  · skip
    refine lv_iload_n hx hb dX9_paper_0 rfl (lv_at hl 1 rfl) ?_
    refine lv_iconst (v := 0) hx hb dX9_paper_1 (by decide) ?_
    refine lv_iconst (v := 2) hx hb dX9_paper_2 (by decide) ?_
    refine m_callSE (As := [.int k, .int 0, .int 2]) (rest := []) (c_M_in_t l D ty L ad _ _ _ _ (by omega) (by omega)) ⟨hx, hb, hml, hown, hts⟩ (va_cwS 3 hts gX9_paper_X9_in rfl rfl rfl (by decide +kernel) ⟨Nat.le_of_ble_eq_true rfl, Nat.le_of_ble_eq_true rfl⟩) hB rfl hl.1 rfl (Nat.le_of_ble_eq_true rfl) dX9_paper_3 ⟨Nat.le_of_ble_eq_true rfl, Nat.le_of_ble_eq_true rfl⟩ (fun H locs hB => ?_)
    refine b_if_eq_f 27 hx hb dX9_paper_6 (by decide) (by decide) ?_
    refine lv_iload_n hx hb dX9_paper_9 rfl (lv_at hl 2 rfl) ?_
    refine lv_iconst (v := 0) hx hb dX9_paper_10 (by decide) ?_
    refine lv_iconst (v := 3) hx hb dX9_paper_11 (by decide) ?_
    refine m_callSE (As := [.int f, .int 0, .int 3]) (rest := []) (c_M_in_t l D ty L ad _ _ _ _ (by omega) (by omega)) ⟨hx, hb, hml, hown, hts⟩ (va_cwS 3 hts gX9_paper_X9_in rfl rfl rfl (by decide +kernel) ⟨Nat.le_of_ble_eq_true rfl, Nat.le_of_ble_eq_true rfl⟩) hB rfl hl.1 rfl (Nat.le_of_ble_eq_true rfl) dX9_paper_12 ⟨Nat.le_of_ble_eq_true rfl, Nat.le_of_ble_eq_true rfl⟩ (fun H locs hB => ?_)
    refine b_if_eq_f 27 hx hb dX9_paper_15 (by decide) (by decide) ?_
    refine lv_iload_n hx hb dX9_paper_18 rfl (lv_at hl 1 rfl) ?_
    refine lv_iconst (v := 1) hx hb dX9_paper_19 (by decide) ?_
    refine b_icmp_ne_t 29 hx hb dX9_paper_20 (by decide) (fun h8 => hk1 ((i_eq _ _).mpr h8)) ?_
    refine lv_aload_n hx hb dX9_paper_29 rfl (lv_at hl 0 rfl) ?_
    refine m_get (C := RX9) (T := TX9) (N := 33) (ci := 9) hx hb hts in_X9_paper_X9 hown hB (hL 1000 (by decide)) h_1000 rfl 0 (by decide) (hts (.fieldLink RX9 101 "PaperRoomModel" "drafted" "I") (by decide +kernel)) (fun _ h9 => h9) rfl dX9_paper_30 ?_
    refine b_if_ne_f 39 hx hb dX9_paper_33 (by decide) (by rw [hd]; decide) ?_
    refine lv_bipush (v := (-2)) hx hb dX9_paper_36 (by decide) ?_
    exact m_iret hx hb hrt hlocks hB (Nat.le_refl _) (Nat.le_refl _) dX9_paper_38 ⟨rfl, rfl, rfl, rfl⟩
set_option maxHeartbeats 1000000 in
set_option maxRecDepth 100000 in
theorem c_M_paper_full (l : Launch) (D : va_G) (ty : Nat → ClassId) (L : List Nat) (ad : Nat → Nat) (g : Nat → va_E) (a : Nat → Nat → Int32) (dn pn en qn mz : Nat) (nw lo : Int32) (tr : Int64) (k f t : Int32) (hM : RM ty L ad g a dn pn en qn mz nw lo tr) (h1 : 0 ≤ k.toInt ∧ k.toInt < 3) (h2 : 0 ≤ f.toInt ∧ f.toInt < 4) (hkt : k = 1 → 0 ≤ t.toInt) (hd : 0 < dn) (hdn : dn ≤ 40) (hp8 : pn = 8) : m_E l yX9_paper wsX9_paper 1 23 D ty [.ref (ad 1000), .int k, .int f, .int t] L ad g (some (.int (-3))) g := by
  intro sz
  refine Met.ofW (cc := cX9_paper) (maxL := 4) (ret := (some .int)) (by decide) rfl ?_
  intro p e s m args below meth c s₁ B hml hv
  have hx := B.exec
  have hb := B.bytes
  have hrt := B.returns
  have hts := atoms_spec (ws := wsX9_paper) B.pre
  have hown : s.vm.findClass RX9 = some m.cls := findClass_of_methodNamed B.named
  have hlocks := B.notSynchronized
  obtain ⟨rfl, hB⟩ := m_start hv
  generalize va_A (m_w L ad g) sz = A at hB ⊢
  generalize s.heap = H at hB ⊢
  generalize ([] : List Loc) = locs at hB ⊢
  have hl := lv_entry ([.ref (ad 1000), .int k, .int f, .int t]) (n := 4) (Nat.le_of_ble_eq_true rfl)
  rw [lg_entry_eq]
  generalize (lg_sl ([.ref (ad 1000), .int k, .int f, .int t]) ++ List.replicate (4 - (lg_sl ([.ref (ad 1000), .int k, .int f, .int t])).length) Slot.unset).toArray = ls at hl ⊢
  have hl : lv_has ls 4 [(0, .ref (ad 1000)), (1, .int k), (2, .int f), (3, .int t)] := hl
  obtain ⟨hL, h_1000, h_1002, h_1004, h_1005, h_1007, h_1008, h_1009, h_1010, h_1011, h_1012, h_1013, h_1014, h_1015, h_1016, h_1019, h_1020, h_1021, h_1022, h_1024, h_1025, h_1026, h_1027, h_1028, h_1029, h_1030, h_1032⟩ := id hM
  have l0 : (0 : Int32).toInt = 0 := by decide
  have l1 : (1 : Int32).toInt = 1 := by decide
  have l2 : (2 : Int32).toInt = 2 := by decide
  have l3 : (3 : Int32).toInt = 3 := by decide
  have l8 : (8 : Int32).toInt = 8 := by decide
  by_cases hk1 : k = 1
  · skip
    refine lv_iload_n hx hb dX9_paper_0 rfl (lv_at hl 1 rfl) ?_
    refine lv_iconst (v := 0) hx hb dX9_paper_1 (by decide) ?_
    refine lv_iconst (v := 2) hx hb dX9_paper_2 (by decide) ?_
    refine m_callSE (As := [.int k, .int 0, .int 2]) (rest := []) (c_M_in_t l D ty L ad _ _ _ _ (by omega) (by omega)) ⟨hx, hb, hml, hown, hts⟩ (va_cwS 3 hts gX9_paper_X9_in rfl rfl rfl (by decide +kernel) ⟨Nat.le_of_ble_eq_true rfl, Nat.le_of_ble_eq_true rfl⟩) hB rfl hl.1 rfl (Nat.le_of_ble_eq_true rfl) dX9_paper_3 ⟨Nat.le_of_ble_eq_true rfl, Nat.le_of_ble_eq_true rfl⟩ (fun H locs hB => ?_)
    refine b_if_eq_f 27 hx hb dX9_paper_6 (by decide) (by decide) ?_
    refine lv_iload_n hx hb dX9_paper_9 rfl (lv_at hl 2 rfl) ?_
    refine lv_iconst (v := 0) hx hb dX9_paper_10 (by decide) ?_
    refine lv_iconst (v := 3) hx hb dX9_paper_11 (by decide) ?_
    refine m_callSE (As := [.int f, .int 0, .int 3]) (rest := []) (c_M_in_t l D ty L ad _ _ _ _ (by omega) (by omega)) ⟨hx, hb, hml, hown, hts⟩ (va_cwS 3 hts gX9_paper_X9_in rfl rfl rfl (by decide +kernel) ⟨Nat.le_of_ble_eq_true rfl, Nat.le_of_ble_eq_true rfl⟩) hB rfl hl.1 rfl (Nat.le_of_ble_eq_true rfl) dX9_paper_12 ⟨Nat.le_of_ble_eq_true rfl, Nat.le_of_ble_eq_true rfl⟩ (fun H locs hB => ?_)
    refine b_if_eq_f 27 hx hb dX9_paper_15 (by decide) (by decide) ?_
    refine lv_iload_n hx hb dX9_paper_18 rfl (lv_at hl 1 rfl) ?_
    refine lv_iconst (v := 1) hx hb dX9_paper_19 (by decide) ?_
    refine b_icmp_ne_f 29 hx hb dX9_paper_20 (by decide) (by rw [hk1]) ?_
    refine lv_iload_n hx hb dX9_paper_23 rfl (lv_at hl 3 rfl) ?_
    refine b_if_ge_t 29 hx hb dX9_paper_24 (by decide) (by have := hkt hk1; omega) ?_
    refine lv_aload_n hx hb dX9_paper_29 rfl (lv_at hl 0 rfl) ?_
    refine m_get (C := RX9) (T := TX9) (N := 33) (ci := 9) hx hb hts in_X9_paper_X9 hown hB (hL 1000 (by decide)) h_1000 rfl 0 (by decide) (hts (.fieldLink RX9 101 "PaperRoomModel" "drafted" "I") (by decide +kernel)) (fun _ h9 => h9) rfl dX9_paper_30 ?_
    refine b_if_ne_t 39 hx hb dX9_paper_33 (by decide) (by rw [nI_toInt (by omega)]; omega) ?_
    refine lv_aload_n hx hb dX9_paper_39 rfl (lv_at hl 0 rfl) ?_
    refine m_get (C := RX9) (T := TX9) (N := 33) (ci := 9) hx hb hts in_X9_paper_X9 hown hB (hL 1000 (by decide)) h_1000 rfl 5 (by decide) (hts (.fieldLink RX9 90 "PaperRoomModel" "papers" "I") (by decide +kernel)) (fun _ h9 => h9) rfl dX9_paper_40 ?_
    refine lv_bipush (v := 8) hx hb dX9_paper_43 (by decide) ?_
    refine b_icmp_ne_f 51 hx hb dX9_paper_45 (by decide) (by rw [hp8]; decide) ?_
    refine lv_bipush (v := (-3)) hx hb dX9_paper_48 (by decide) ?_
    exact m_iret hx hb hrt hlocks hB (Nat.le_refl _) (Nat.le_refl _) dX9_paper_50 ⟨rfl, rfl, rfl, rfl⟩
  · skip
    refine lv_iload_n hx hb dX9_paper_0 rfl (lv_at hl 1 rfl) ?_
    refine lv_iconst (v := 0) hx hb dX9_paper_1 (by decide) ?_
    refine lv_iconst (v := 2) hx hb dX9_paper_2 (by decide) ?_
    refine m_callSE (As := [.int k, .int 0, .int 2]) (rest := []) (c_M_in_t l D ty L ad _ _ _ _ (by omega) (by omega)) ⟨hx, hb, hml, hown, hts⟩ (va_cwS 3 hts gX9_paper_X9_in rfl rfl rfl (by decide +kernel) ⟨Nat.le_of_ble_eq_true rfl, Nat.le_of_ble_eq_true rfl⟩) hB rfl hl.1 rfl (Nat.le_of_ble_eq_true rfl) dX9_paper_3 ⟨Nat.le_of_ble_eq_true rfl, Nat.le_of_ble_eq_true rfl⟩ (fun H locs hB => ?_)
    refine b_if_eq_f 27 hx hb dX9_paper_6 (by decide) (by decide) ?_
    refine lv_iload_n hx hb dX9_paper_9 rfl (lv_at hl 2 rfl) ?_
    refine lv_iconst (v := 0) hx hb dX9_paper_10 (by decide) ?_
    refine lv_iconst (v := 3) hx hb dX9_paper_11 (by decide) ?_
    refine m_callSE (As := [.int f, .int 0, .int 3]) (rest := []) (c_M_in_t l D ty L ad _ _ _ _ (by omega) (by omega)) ⟨hx, hb, hml, hown, hts⟩ (va_cwS 3 hts gX9_paper_X9_in rfl rfl rfl (by decide +kernel) ⟨Nat.le_of_ble_eq_true rfl, Nat.le_of_ble_eq_true rfl⟩) hB rfl hl.1 rfl (Nat.le_of_ble_eq_true rfl) dX9_paper_12 ⟨Nat.le_of_ble_eq_true rfl, Nat.le_of_ble_eq_true rfl⟩ (fun H locs hB => ?_)
    refine b_if_eq_f 27 hx hb dX9_paper_15 (by decide) (by decide) ?_
    refine lv_iload_n hx hb dX9_paper_18 rfl (lv_at hl 1 rfl) ?_
    refine lv_iconst (v := 1) hx hb dX9_paper_19 (by decide) ?_
    refine b_icmp_ne_t 29 hx hb dX9_paper_20 (by decide) (fun h8 => hk1 ((i_eq _ _).mpr h8)) ?_
    refine lv_aload_n hx hb dX9_paper_29 rfl (lv_at hl 0 rfl) ?_
    refine m_get (C := RX9) (T := TX9) (N := 33) (ci := 9) hx hb hts in_X9_paper_X9 hown hB (hL 1000 (by decide)) h_1000 rfl 0 (by decide) (hts (.fieldLink RX9 101 "PaperRoomModel" "drafted" "I") (by decide +kernel)) (fun _ h9 => h9) rfl dX9_paper_30 ?_
    refine b_if_ne_t 39 hx hb dX9_paper_33 (by decide) (by rw [nI_toInt (by omega)]; omega) ?_
    refine lv_aload_n hx hb dX9_paper_39 rfl (lv_at hl 0 rfl) ?_
    refine m_get (C := RX9) (T := TX9) (N := 33) (ci := 9) hx hb hts in_X9_paper_X9 hown hB (hL 1000 (by decide)) h_1000 rfl 5 (by decide) (hts (.fieldLink RX9 90 "PaperRoomModel" "papers" "I") (by decide +kernel)) (fun _ h9 => h9) rfl dX9_paper_40 ?_
    refine lv_bipush (v := 8) hx hb dX9_paper_43 (by decide) ?_
    refine b_icmp_ne_f 51 hx hb dX9_paper_45 (by decide) (by rw [hp8]; decide) ?_
    refine lv_bipush (v := (-3)) hx hb dX9_paper_48 (by decide) ?_
    exact m_iret hx hb hrt hlocks hB (Nat.le_refl _) (Nat.le_refl _) dX9_paper_50 ⟨rfl, rfl, rfl, rfl⟩
set_option maxHeartbeats 1000000 in
set_option maxRecDepth 100000 in
theorem c_M_paper_ok (l : Launch) (D : va_G) (ty : Nat → ClassId) (L : List Nat) (ad : Nat → Nat) (g : Nat → va_E) (a : Nat → Nat → Int32) (dn pn en qn mz : Nat) (nw lo : Int32) (tr : Int64) (k f t : Int32) (hM : RM ty L ad g a dn pn en qn mz nw lo tr) (h1 : 0 ≤ k.toInt ∧ k.toInt < 3) (h2 : 0 ≤ f.toInt ∧ f.toInt < 4) (hkt : k = 1 → 0 ≤ t.toInt) (hd : 0 < dn) (hdn : dn ≤ 40) (hp8 : pn < 8) : m_C l yX9_paper wsX9_paper 1 23 0 0 D ty [.ref (ad 1000), .int k, .int f, .int t] L ad g (fun v1 L1 ad1 g1 => v1 = (some (.int (nI pn))) ∧ L1 = L ∧ ad1 = ad ∧ (∀ x, x < 1000 → g1 x = g x) ∧ RM ty L ad g1 (cmA (ppA a pn k f (if k = 1 then t else 0)) dn pn 0) 0 (pn + 1) en qn mz nw lo tr) := by
  intro sz
  refine Met.ofW (cc := cX9_paper) (maxL := 4) (ret := (some .int)) (by decide) rfl ?_
  intro p e s m args below meth c s₁ B hml hv
  have hx := B.exec
  have hb := B.bytes
  have hrt := B.returns
  have hts := atoms_spec (ws := wsX9_paper) B.pre
  have hown : s.vm.findClass RX9 = some m.cls := findClass_of_methodNamed B.named
  have hlocks := B.notSynchronized
  obtain ⟨rfl, hB⟩ := m_start hv
  generalize va_A (m_w L ad g) sz = A at hB ⊢
  generalize s.heap = H at hB ⊢
  generalize ([] : List Loc) = locs at hB ⊢
  have hl := lv_entry ([.ref (ad 1000), .int k, .int f, .int t]) (n := 4) (Nat.le_of_ble_eq_true rfl)
  rw [lg_entry_eq]
  generalize (lg_sl ([.ref (ad 1000), .int k, .int f, .int t]) ++ List.replicate (4 - (lg_sl ([.ref (ad 1000), .int k, .int f, .int t])).length) Slot.unset).toArray = ls at hl ⊢
  have hl : lv_has ls 4 [(0, .ref (ad 1000)), (1, .int k), (2, .int f), (3, .int t)] := hl
  obtain ⟨hL, h_1000, h_1002, h_1004, h_1005, h_1007, h_1008, h_1009, h_1010, h_1011, h_1012, h_1013, h_1014, h_1015, h_1016, h_1019, h_1020, h_1021, h_1022, h_1024, h_1025, h_1026, h_1027, h_1028, h_1029, h_1030, h_1032⟩ := id hM
  have l0 : (0 : Int32).toInt = 0 := by decide
  have l1 : (1 : Int32).toInt = 1 := by decide
  have l2 : (2 : Int32).toInt = 2 := by decide
  have l3 : (3 : Int32).toInt = 3 := by decide
  have l8 : (8 : Int32).toInt = 8 := by decide
  by_cases hk1 : k = 1
  · skip
    refine lv_iload_n hx hb dX9_paper_0 rfl (lv_at hl 1 rfl) ?_
    refine lv_iconst (v := 0) hx hb dX9_paper_1 (by decide) ?_
    refine lv_iconst (v := 2) hx hb dX9_paper_2 (by decide) ?_
    refine m_callSE (As := [.int k, .int 0, .int 2]) (rest := []) (c_M_in_t l D ty L ad _ _ _ _ (by omega) (by omega)) ⟨hx, hb, hml, hown, hts⟩ (va_cwS 3 hts gX9_paper_X9_in rfl rfl rfl (by decide +kernel) ⟨Nat.le_of_ble_eq_true rfl, Nat.le_of_ble_eq_true rfl⟩) hB rfl hl.1 rfl (Nat.le_of_ble_eq_true rfl) dX9_paper_3 ⟨Nat.le_of_ble_eq_true rfl, Nat.le_of_ble_eq_true rfl⟩ (fun H locs hB => ?_)
    refine b_if_eq_f 27 hx hb dX9_paper_6 (by decide) (by decide) ?_
    refine lv_iload_n hx hb dX9_paper_9 rfl (lv_at hl 2 rfl) ?_
    refine lv_iconst (v := 0) hx hb dX9_paper_10 (by decide) ?_
    refine lv_iconst (v := 3) hx hb dX9_paper_11 (by decide) ?_
    refine m_callSE (As := [.int f, .int 0, .int 3]) (rest := []) (c_M_in_t l D ty L ad _ _ _ _ (by omega) (by omega)) ⟨hx, hb, hml, hown, hts⟩ (va_cwS 3 hts gX9_paper_X9_in rfl rfl rfl (by decide +kernel) ⟨Nat.le_of_ble_eq_true rfl, Nat.le_of_ble_eq_true rfl⟩) hB rfl hl.1 rfl (Nat.le_of_ble_eq_true rfl) dX9_paper_12 ⟨Nat.le_of_ble_eq_true rfl, Nat.le_of_ble_eq_true rfl⟩ (fun H locs hB => ?_)
    refine b_if_eq_f 27 hx hb dX9_paper_15 (by decide) (by decide) ?_
    refine lv_iload_n hx hb dX9_paper_18 rfl (lv_at hl 1 rfl) ?_
    refine lv_iconst (v := 1) hx hb dX9_paper_19 (by decide) ?_
    refine b_icmp_ne_f 29 hx hb dX9_paper_20 (by decide) (by rw [hk1]) ?_
    refine lv_iload_n hx hb dX9_paper_23 rfl (lv_at hl 3 rfl) ?_
    refine b_if_ge_t 29 hx hb dX9_paper_24 (by decide) (by have := hkt hk1; omega) ?_
    refine lv_aload_n hx hb dX9_paper_29 rfl (lv_at hl 0 rfl) ?_
    refine m_get (C := RX9) (T := TX9) (N := 33) (ci := 9) hx hb hts in_X9_paper_X9 hown hB (hL 1000 (by decide)) h_1000 rfl 0 (by decide) (hts (.fieldLink RX9 101 "PaperRoomModel" "drafted" "I") (by decide +kernel)) (fun _ h9 => h9) rfl dX9_paper_30 ?_
    refine b_if_ne_t 39 hx hb dX9_paper_33 (by decide) (by rw [nI_toInt (by omega)]; omega) ?_
    refine lv_aload_n hx hb dX9_paper_39 rfl (lv_at hl 0 rfl) ?_
    refine m_get (C := RX9) (T := TX9) (N := 33) (ci := 9) hx hb hts in_X9_paper_X9 hown hB (hL 1000 (by decide)) h_1000 rfl 5 (by decide) (hts (.fieldLink RX9 90 "PaperRoomModel" "papers" "I") (by decide +kernel)) (fun _ h9 => h9) rfl dX9_paper_40 ?_
    refine lv_bipush (v := 8) hx hb dX9_paper_43 (by decide) ?_
    refine b_icmp_ne_t 51 hx hb dX9_paper_45 (by decide) (by rw [nI_toInt (by omega), l8]; omega) ?_
    refine lv_aload_n hx hb dX9_paper_51 rfl (lv_at hl 0 rfl) ?_
    refine m_get (C := RX9) (T := TX9) (N := 33) (ci := 9) hx hb hts in_X9_paper_X9 hown hB (hL 1000 (by decide)) h_1000 rfl 6 (by decide) (hts (.fieldLink RX9 19 "PaperRoomModel" "kind" "[I") (by decide +kernel)) (fun _ h9 => h9) rfl dX9_paper_52 ?_
    refine lv_aload_n hx hb dX9_paper_55 rfl (lv_at hl 0 rfl) ?_
    refine m_get (C := RX9) (T := TX9) (N := 33) (ci := 9) hx hb hts in_X9_paper_X9 hown hB (hL 1000 (by decide)) h_1000 rfl 5 (by decide) (hts (.fieldLink RX9 90 "PaperRoomModel" "papers" "I") (by decide +kernel)) (fun _ h9 => h9) rfl dX9_paper_56 ?_
    refine lv_iload_n hx hb dX9_paper_59 rfl (lv_at hl 1 rfl) ?_
    refine n_iast hx hb hB (hL 1007 (by decide)) h_1007 pn rfl (by omega) (by omega) dX9_paper_60 (fun H locs hB => ?_)
    replace hB : m_B D ty A s L ad (va_up g 1007 (.inl (ty 0, 8, .inl (upd (a 6) pn k)))) H locs := hB
    refine lv_aload_n hx hb dX9_paper_61 rfl (lv_at hl 0 rfl) ?_
    refine m_get (C := RX9) (T := TX9) (N := 33) (ci := 9) hx hb hts in_X9_paper_X9 hown hB (hL 1000 (by decide)) ((va_up_ne _ _ (by decide)).trans h_1000) rfl 7 (by decide) (hts (.fieldLink RX9 22 "PaperRoomModel" "folder" "[I") (by decide +kernel)) (fun _ h9 => h9) rfl dX9_paper_62 ?_
    refine lv_aload_n hx hb dX9_paper_65 rfl (lv_at hl 0 rfl) ?_
    refine m_get (C := RX9) (T := TX9) (N := 33) (ci := 9) hx hb hts in_X9_paper_X9 hown hB (hL 1000 (by decide)) ((va_up_ne _ _ (by decide)).trans h_1000) rfl 5 (by decide) (hts (.fieldLink RX9 90 "PaperRoomModel" "papers" "I") (by decide +kernel)) (fun _ h9 => h9) rfl dX9_paper_66 ?_
    refine lv_iload_n hx hb dX9_paper_69 rfl (lv_at hl 2 rfl) ?_
    refine n_iast hx hb hB (hL 1008 (by decide)) ((va_up_ne _ _ (by decide)).trans h_1008) pn rfl (by omega) (by omega) dX9_paper_70 (fun H locs hB => ?_)
    replace hB : m_B D ty A s L ad (va_up (va_up g 1007 (.inl (ty 0, 8, .inl (upd (a 6) pn k)))) 1008 (.inl (ty 0, 8, .inl (upd (a 7) pn f)))) H locs := hB
    refine lv_aload_n hx hb dX9_paper_71 rfl (lv_at hl 0 rfl) ?_
    refine m_get (C := RX9) (T := TX9) (N := 33) (ci := 9) hx hb hts in_X9_paper_X9 hown hB (hL 1000 (by decide)) ((va_up_ne _ _ (by decide)).trans ((va_up_ne _ _ (by decide)).trans h_1000)) rfl 8 (by decide) (hts (.fieldLink RX9 25 "PaperRoomModel" "letsGo" "[I") (by decide +kernel)) (fun _ h9 => h9) rfl dX9_paper_72 ?_
    refine lv_aload_n hx hb dX9_paper_75 rfl (lv_at hl 0 rfl) ?_
    refine m_get (C := RX9) (T := TX9) (N := 33) (ci := 9) hx hb hts in_X9_paper_X9 hown hB (hL 1000 (by decide)) ((va_up_ne _ _ (by decide)).trans ((va_up_ne _ _ (by decide)).trans h_1000)) rfl 5 (by decide) (hts (.fieldLink RX9 90 "PaperRoomModel" "papers" "I") (by decide +kernel)) (fun _ h9 => h9) rfl dX9_paper_76 ?_
    refine lv_iload_n hx hb dX9_paper_79 rfl (lv_at hl 1 rfl) ?_
    refine lv_iconst (v := 1) hx hb dX9_paper_80 (by decide) ?_
    refine b_icmp_ne_f 88 hx hb dX9_paper_81 (by decide) (by rw [hk1]) ?_
    refine lv_iload_n hx hb dX9_paper_84 rfl (lv_at hl 3 rfl) ?_
    refine lv_goto (tgt := 89) hx hb dX9_paper_85 (by decide) ?_
    refine n_iast hx hb hB (hL 1009 (by decide)) ((va_up_ne _ _ (by decide)).trans ((va_up_ne _ _ (by decide)).trans h_1009)) pn rfl (by omega) (by omega) dX9_paper_89 (fun H locs hB => ?_)
    replace hB : m_B D ty A s L ad (va_up (va_up (va_up g 1007 (.inl (ty 0, 8, .inl (upd (a 6) pn k)))) 1008 (.inl (ty 0, 8, .inl (upd (a 7) pn f)))) 1009 (.inl (ty 0, 8, .inl (upd (a 8) pn t)))) H locs := hB
    refine lv_aload_n hx hb dX9_paper_90 rfl (lv_at hl 0 rfl) ?_
    refine m_get (C := RX9) (T := TX9) (N := 33) (ci := 9) hx hb hts in_X9_paper_X9 hown hB (hL 1000 (by decide)) ((va_up_ne _ _ (by decide)).trans ((va_up_ne _ _ (by decide)).trans ((va_up_ne _ _ (by decide)).trans h_1000))) rfl 9 (by decide) (hts (.fieldLink RX9 28 "PaperRoomModel" "isWithdrawn" "[Z") (by decide +kernel)) (fun _ h9 => h9) rfl dX9_paper_91 ?_
    refine lv_aload_n hx hb dX9_paper_94 rfl (lv_at hl 0 rfl) ?_
    refine m_get (C := RX9) (T := TX9) (N := 33) (ci := 9) hx hb hts in_X9_paper_X9 hown hB (hL 1000 (by decide)) ((va_up_ne _ _ (by decide)).trans ((va_up_ne _ _ (by decide)).trans ((va_up_ne _ _ (by decide)).trans h_1000))) rfl 5 (by decide) (hts (.fieldLink RX9 90 "PaperRoomModel" "papers" "I") (by decide +kernel)) (fun _ h9 => h9) rfl dX9_paper_95 ?_
    refine lv_iconst (v := 0) hx hb dX9_paper_98 (by decide) ?_
    refine n_zast hx hb hB (hL 1010 (by decide)) ((va_up_ne _ _ (by decide)).trans ((va_up_ne _ _ (by decide)).trans ((va_up_ne _ _ (by decide)).trans h_1010))) pn rfl (by omega) (by omega) dX9_paper_99 (fun H locs hB => ?_)
    replace hB : m_B D ty A s L ad (va_up (va_up (va_up (va_up g 1007 (.inl (ty 0, 8, .inl (upd (a 6) pn k)))) 1008 (.inl (ty 0, 8, .inl (upd (a 7) pn f)))) 1009 (.inl (ty 0, 8, .inl (upd (a 8) pn t)))) 1010 (.inl (ty 3, 8, .inl (upd (a 9) pn (vp_nar .boolean 0))))) H locs := hB
    refine lv_aload_n hx hb dX9_paper_100 rfl (lv_at hl 0 rfl) ?_
    refine m_get (C := RX9) (T := TX9) (N := 33) (ci := 9) hx hb hts in_X9_paper_X9 hown hB (hL 1000 (by decide)) ((va_up_ne _ _ (by decide)).trans ((va_up_ne _ _ (by decide)).trans ((va_up_ne _ _ (by decide)).trans ((va_up_ne _ _ (by decide)).trans h_1000)))) rfl 10 (by decide) (hts (.fieldLink RX9 32 "PaperRoomModel" "versions" "[I") (by decide +kernel)) (fun _ h9 => h9) rfl dX9_paper_101 ?_
    refine lv_aload_n hx hb dX9_paper_104 rfl (lv_at hl 0 rfl) ?_
    refine m_get (C := RX9) (T := TX9) (N := 33) (ci := 9) hx hb hts in_X9_paper_X9 hown hB (hL 1000 (by decide)) ((va_up_ne _ _ (by decide)).trans ((va_up_ne _ _ (by decide)).trans ((va_up_ne _ _ (by decide)).trans ((va_up_ne _ _ (by decide)).trans h_1000)))) rfl 5 (by decide) (hts (.fieldLink RX9 90 "PaperRoomModel" "papers" "I") (by decide +kernel)) (fun _ h9 => h9) rfl dX9_paper_105 ?_
    refine lv_iconst (v := 0) hx hb dX9_paper_108 (by decide) ?_
    refine n_iast hx hb hB (hL 1011 (by decide)) ((va_up_ne _ _ (by decide)).trans ((va_up_ne _ _ (by decide)).trans ((va_up_ne _ _ (by decide)).trans ((va_up_ne _ _ (by decide)).trans h_1011)))) pn rfl (by omega) (by omega) dX9_paper_109 (fun H locs hB => ?_)
    replace hB : m_B D ty A s L ad (va_up (va_up (va_up (va_up (va_up g 1007 (.inl (ty 0, 8, .inl (upd (a 6) pn k)))) 1008 (.inl (ty 0, 8, .inl (upd (a 7) pn f)))) 1009 (.inl (ty 0, 8, .inl (upd (a 8) pn t)))) 1010 (.inl (ty 3, 8, .inl (upd (a 9) pn (vp_nar .boolean 0))))) 1011 (.inl (ty 0, 8, .inl (upd (a 10) pn 0)))) H locs := hB
    refine lv_aload_n hx hb dX9_paper_110 rfl (lv_at hl 0 rfl) ?_
    refine lv_aload_n hx hb dX9_paper_111 rfl (lv_at hl 0 rfl) ?_
    refine m_get (C := RX9) (T := TX9) (N := 33) (ci := 9) hx hb hts in_X9_paper_X9 hown hB (hL 1000 (by decide)) ((va_up_ne _ _ (by decide)).trans ((va_up_ne _ _ (by decide)).trans ((va_up_ne _ _ (by decide)).trans ((va_up_ne _ _ (by decide)).trans ((va_up_ne _ _ (by decide)).trans h_1000))))) rfl 5 (by decide) (hts (.fieldLink RX9 90 "PaperRoomModel" "papers" "I") (by decide +kernel)) (fun _ h9 => h9) rfl dX9_paper_112 ?_
    have z9 : (va_up (va_up (va_up (va_up (va_up g 1007 (.inl (ty 0, 8, .inl (upd (a 6) pn k)))) 1008 (.inl (ty 0, 8, .inl (upd (a 7) pn f)))) 1009 (.inl (ty 0, 8, .inl (upd (a 8) pn t)))) 1010 (.inl (ty 3, 8, .inl (upd (a 9) pn (vp_nar .boolean 0))))) 1011 (.inl (ty 0, 8, .inl (upd (a 10) pn 0)))) 1010 = .inl (ty 3, 8, .inl (upd (a 9) pn 0)) := by rw [← z_0]; exact ((va_up_ne _ _ (by decide)).trans (va_up_self _ _ _))
    have z8 : (va_up (va_up (va_up (va_up (va_up g 1007 (.inl (ty 0, 8, .inl (upd (a 6) pn k)))) 1008 (.inl (ty 0, 8, .inl (upd (a 7) pn f)))) 1009 (.inl (ty 0, 8, .inl (upd (a 8) pn t)))) 1010 (.inl (ty 3, 8, .inl (upd (a 9) pn (vp_nar .boolean 0))))) 1011 (.inl (ty 0, 8, .inl (upd (a 10) pn 0)))) 1009 = .inl (ty 0, 8, .inl (upd (a 8) pn (if k = 1 then t else 0))) := by rw [if_pos hk1]; exact ((va_up_ne _ _ (by decide)).trans ((va_up_ne _ _ (by decide)).trans (va_up_self _ _ _)))
    refine m_callV (ci := 9) (As := [.int (nI pn)]) (rest := []) (c_M_comes l D ty L ad _ (ppA a pn k f (if k = 1 then t else 0)) dn pn en qn mz nw lo tr pn 0 ⟨hL, ((va_up_ne _ _ (by decide)).trans ((va_up_ne _ _ (by decide)).trans ((va_up_ne _ _ (by decide)).trans ((va_up_ne _ _ (by decide)).trans ((va_up_ne _ _ (by decide)).trans h_1000))))), ((va_up_ne _ _ (by decide)).trans ((va_up_ne _ _ (by decide)).trans ((va_up_ne _ _ (by decide)).trans ((va_up_ne _ _ (by decide)).trans ((va_up_ne _ _ (by decide)).trans h_1002))))), ((va_up_ne _ _ (by decide)).trans ((va_up_ne _ _ (by decide)).trans ((va_up_ne _ _ (by decide)).trans ((va_up_ne _ _ (by decide)).trans ((va_up_ne _ _ (by decide)).trans h_1004))))), ((va_up_ne _ _ (by decide)).trans ((va_up_ne _ _ (by decide)).trans ((va_up_ne _ _ (by decide)).trans ((va_up_ne _ _ (by decide)).trans ((va_up_ne _ _ (by decide)).trans h_1005))))), ((va_up_ne _ _ (by decide)).trans ((va_up_ne _ _ (by decide)).trans ((va_up_ne _ _ (by decide)).trans ((va_up_ne _ _ (by decide)).trans (va_up_self _ _ _))))), ((va_up_ne _ _ (by decide)).trans ((va_up_ne _ _ (by decide)).trans ((va_up_ne _ _ (by decide)).trans (va_up_self _ _ _)))), z8, z9, (va_up_self _ _ _), ((va_up_ne _ _ (by decide)).trans ((va_up_ne _ _ (by decide)).trans ((va_up_ne _ _ (by decide)).trans ((va_up_ne _ _ (by decide)).trans ((va_up_ne _ _ (by decide)).trans h_1012))))), ((va_up_ne _ _ (by decide)).trans ((va_up_ne _ _ (by decide)).trans ((va_up_ne _ _ (by decide)).trans ((va_up_ne _ _ (by decide)).trans ((va_up_ne _ _ (by decide)).trans h_1013))))), ((va_up_ne _ _ (by decide)).trans ((va_up_ne _ _ (by decide)).trans ((va_up_ne _ _ (by decide)).trans ((va_up_ne _ _ (by decide)).trans ((va_up_ne _ _ (by decide)).trans h_1014))))), ((va_up_ne _ _ (by decide)).trans ((va_up_ne _ _ (by decide)).trans ((va_up_ne _ _ (by decide)).trans ((va_up_ne _ _ (by decide)).trans ((va_up_ne _ _ (by decide)).trans h_1015))))), ((va_up_ne _ _ (by decide)).trans ((va_up_ne _ _ (by decide)).trans ((va_up_ne _ _ (by decide)).trans ((va_up_ne _ _ (by decide)).trans ((va_up_ne _ _ (by decide)).trans h_1016))))), ((va_up_ne _ _ (by decide)).trans ((va_up_ne _ _ (by decide)).trans ((va_up_ne _ _ (by decide)).trans ((va_up_ne _ _ (by decide)).trans ((va_up_ne _ _ (by decide)).trans h_1019))))), ((va_up_ne _ _ (by decide)).trans ((va_up_ne _ _ (by decide)).trans ((va_up_ne _ _ (by decide)).trans ((va_up_ne _ _ (by decide)).trans ((va_up_ne _ _ (by decide)).trans h_1020))))), ((va_up_ne _ _ (by decide)).trans ((va_up_ne _ _ (by decide)).trans ((va_up_ne _ _ (by decide)).trans ((va_up_ne _ _ (by decide)).trans ((va_up_ne _ _ (by decide)).trans h_1021))))), ((va_up_ne _ _ (by decide)).trans ((va_up_ne _ _ (by decide)).trans ((va_up_ne _ _ (by decide)).trans ((va_up_ne _ _ (by decide)).trans ((va_up_ne _ _ (by decide)).trans h_1022))))), ((va_up_ne _ _ (by decide)).trans ((va_up_ne _ _ (by decide)).trans ((va_up_ne _ _ (by decide)).trans ((va_up_ne _ _ (by decide)).trans ((va_up_ne _ _ (by decide)).trans h_1024))))), ((va_up_ne _ _ (by decide)).trans ((va_up_ne _ _ (by decide)).trans ((va_up_ne _ _ (by decide)).trans ((va_up_ne _ _ (by decide)).trans ((va_up_ne _ _ (by decide)).trans h_1025))))), ((va_up_ne _ _ (by decide)).trans ((va_up_ne _ _ (by decide)).trans ((va_up_ne _ _ (by decide)).trans ((va_up_ne _ _ (by decide)).trans ((va_up_ne _ _ (by decide)).trans h_1026))))), ((va_up_ne _ _ (by decide)).trans ((va_up_ne _ _ (by decide)).trans ((va_up_ne _ _ (by decide)).trans ((va_up_ne _ _ (by decide)).trans ((va_up_ne _ _ (by decide)).trans h_1027))))), ((va_up_ne _ _ (by decide)).trans ((va_up_ne _ _ (by decide)).trans ((va_up_ne _ _ (by decide)).trans ((va_up_ne _ _ (by decide)).trans ((va_up_ne _ _ (by decide)).trans h_1028))))), ((va_up_ne _ _ (by decide)).trans ((va_up_ne _ _ (by decide)).trans ((va_up_ne _ _ (by decide)).trans ((va_up_ne _ _ (by decide)).trans ((va_up_ne _ _ (by decide)).trans h_1029))))), ((va_up_ne _ _ (by decide)).trans ((va_up_ne _ _ (by decide)).trans ((va_up_ne _ _ (by decide)).trans ((va_up_ne _ _ (by decide)).trans ((va_up_ne _ _ (by decide)).trans h_1030))))), ((va_up_ne _ _ (by decide)).trans ((va_up_ne _ _ (by decide)).trans ((va_up_ne _ _ (by decide)).trans ((va_up_ne _ _ (by decide)).trans ((va_up_ne _ _ (by decide)).trans h_1032)))))⟩ (by omega) (by show upd (a 10) pn 0 pn = _; rw [pk_us]; rfl) (by omega) hdn) ⟨hx, hb, hml, hown, hts⟩ (cwV 1 hts gX9_paper_X9_comes rfl rfl rfl (by decide +kernel) ⟨Nat.le_of_ble_eq_true rfl, Nat.le_of_ble_eq_true rfl⟩) hB (hL 1000 (by decide)) ((va_up_ne _ _ (by decide)).trans ((va_up_ne _ _ (by decide)).trans ((va_up_ne _ _ (by decide)).trans ((va_up_ne _ _ (by decide)).trans ((va_up_ne _ _ (by decide)).trans h_1000))))) rfl rfl hl.1 rfl (Nat.le_of_ble_eq_true rfl) dX9_paper_115 ⟨Nat.le_of_ble_eq_true rfl, Nat.le_of_ble_eq_true rfl⟩ (fun v215 L215 ad_215 g215 H locs hp215 hB => ?_)
    obtain ⟨q1_215, q2_215, q3_215, hfr_215, hM_215⟩ := hp215
    rw [q2_215, q3_215] at hB
    obtain ⟨_, f215_1000, f215_1002, f215_1004, f215_1005, f215_1007, f215_1008, f215_1009, f215_1010, f215_1011, f215_1012, f215_1013, f215_1014, f215_1015, f215_1016, f215_1019, f215_1020, f215_1021, f215_1022, f215_1024, f215_1025, f215_1026, f215_1027, f215_1028, f215_1029, f215_1030, f215_1032⟩ := id hM_215
    refine W.eq (g2 := F0 m 118 ls []) (by rw [q1_215]; rfl) ?_
    refine lv_aload_n hx hb dX9_paper_118 rfl (lv_at hl 0 rfl) ?_
    refine lv_dup hx hb dX9_paper_119 rfl ?_
    refine m_get (C := RX9) (T := TX9) (N := 33) (ci := 9) hx hb hts in_X9_paper_X9 hown hB (hL 1000 (by decide)) f215_1000 rfl 5 (by decide) (hts (.fieldLink RX9 90 "PaperRoomModel" "papers" "I") (by decide +kernel)) (fun _ h9 => h9) rfl dX9_paper_120 ?_
    refine lv_iconst (v := 1) hx hb dX9_paper_123 (by decide) ?_
    refine lv_iadd hx hb dX9_paper_124 ?_
    refine b_topi (w := nI (pn + 1)) (nI_add pn 1) ?_
    refine m_put (C := RX9) (T := TX9) (N := 33) (ci := 9) (v := .int (nI (pn + 1))) (ft := .int) hx hb hts in_X9_paper_X9 tyX9 tyX9_ok nmX9 hown hB (hL 1000 (by decide)) f215_1000 rfl 5 (by decide) (hts (.fieldLink RX9 90 "PaperRoomModel" "papers" "I") (by decide +kernel)) (fun _ h9 => h9) rfl (by decide +kernel) rfl rfl (Nat.le_of_ble_eq_true rfl) dX9_paper_125 (fun H locs hB => ?_)
    replace hB : m_B D ty A s L ad (va_up g215 1000 (.inr (9, [.int (nI 0), .ref (ad 1002), .int nw, .ref (ad 1004), .ref (ad 1005), .int (nI (pn + 1)), .ref (ad 1007), .ref (ad 1008), .ref (ad 1009), .ref (ad 1010), .ref (ad 1011), .ref (ad 1012), .ref (ad 1013), .ref (ad 1014), .ref (ad 1015), .ref (ad 1016), .int (nI en), .int lo, .ref (ad 1019), .ref (ad 1020), .ref (ad 1021), .ref (ad 1022), .int (nI qn), .ref (ad 1024), .ref (ad 1025), .ref (ad 1026), .ref (ad 1027), .ref (ad 1028), .ref (ad 1029), .ref (ad 1030), .long tr, .ref (ad 1032), .int (nI mz)]))) H locs := hB
    refine lv_aload_n hx hb dX9_paper_128 rfl (lv_at hl 0 rfl) ?_
    refine m_get (C := RX9) (T := TX9) (N := 33) (ci := 9) hx hb hts in_X9_paper_X9 hown hB (hL 1000 (by decide)) (va_up_self _ _ _) rfl 5 (by decide) (hts (.fieldLink RX9 90 "PaperRoomModel" "papers" "I") (by decide +kernel)) (fun _ h9 => h9) rfl dX9_paper_129 ?_
    refine lv_iconst (v := 1) hx hb dX9_paper_132 (by decide) ?_
    refine lv_isub hx hb dX9_paper_133 ?_
    refine b_topi (w := nI pn) ((pk_sub (a := pn + 1) (b := 1) (by omega)).trans (by rw [Nat.add_sub_cancel])) ?_
    exact m_iret hx hb hrt hlocks hB (Nat.le_refl _) (Nat.le_refl _) dX9_paper_134 ⟨rfl, rfl, rfl, (fun x hx => ((va_up_ne _ _ (by omega)).trans ((hfr_215 x hx).trans ((va_up_ne _ _ (by omega)).trans ((va_up_ne _ _ (by omega)).trans ((va_up_ne _ _ (by omega)).trans ((va_up_ne _ _ (by omega)).trans ((va_up_ne _ _ (by omega)).trans rfl)))))))), ⟨hL, (va_up_self _ _ _), ((va_up_ne _ _ (by decide)).trans f215_1002), ((va_up_ne _ _ (by decide)).trans f215_1004), ((va_up_ne _ _ (by decide)).trans f215_1005), ((va_up_ne _ _ (by decide)).trans f215_1007), ((va_up_ne _ _ (by decide)).trans f215_1008), ((va_up_ne _ _ (by decide)).trans f215_1009), ((va_up_ne _ _ (by decide)).trans f215_1010), ((va_up_ne _ _ (by decide)).trans f215_1011), ((va_up_ne _ _ (by decide)).trans f215_1012), ((va_up_ne _ _ (by decide)).trans f215_1013), ((va_up_ne _ _ (by decide)).trans f215_1014), ((va_up_ne _ _ (by decide)).trans f215_1015), ((va_up_ne _ _ (by decide)).trans f215_1016), ((va_up_ne _ _ (by decide)).trans f215_1019), ((va_up_ne _ _ (by decide)).trans f215_1020), ((va_up_ne _ _ (by decide)).trans f215_1021), ((va_up_ne _ _ (by decide)).trans f215_1022), ((va_up_ne _ _ (by decide)).trans f215_1024), ((va_up_ne _ _ (by decide)).trans f215_1025), ((va_up_ne _ _ (by decide)).trans f215_1026), ((va_up_ne _ _ (by decide)).trans f215_1027), ((va_up_ne _ _ (by decide)).trans f215_1028), ((va_up_ne _ _ (by decide)).trans f215_1029), ((va_up_ne _ _ (by decide)).trans f215_1030), ((va_up_ne _ _ (by decide)).trans f215_1032)⟩⟩
  · skip
    refine lv_iload_n hx hb dX9_paper_0 rfl (lv_at hl 1 rfl) ?_
    refine lv_iconst (v := 0) hx hb dX9_paper_1 (by decide) ?_
    refine lv_iconst (v := 2) hx hb dX9_paper_2 (by decide) ?_
    refine m_callSE (As := [.int k, .int 0, .int 2]) (rest := []) (c_M_in_t l D ty L ad _ _ _ _ (by omega) (by omega)) ⟨hx, hb, hml, hown, hts⟩ (va_cwS 3 hts gX9_paper_X9_in rfl rfl rfl (by decide +kernel) ⟨Nat.le_of_ble_eq_true rfl, Nat.le_of_ble_eq_true rfl⟩) hB rfl hl.1 rfl (Nat.le_of_ble_eq_true rfl) dX9_paper_3 ⟨Nat.le_of_ble_eq_true rfl, Nat.le_of_ble_eq_true rfl⟩ (fun H locs hB => ?_)
    refine b_if_eq_f 27 hx hb dX9_paper_6 (by decide) (by decide) ?_
    refine lv_iload_n hx hb dX9_paper_9 rfl (lv_at hl 2 rfl) ?_
    refine lv_iconst (v := 0) hx hb dX9_paper_10 (by decide) ?_
    refine lv_iconst (v := 3) hx hb dX9_paper_11 (by decide) ?_
    refine m_callSE (As := [.int f, .int 0, .int 3]) (rest := []) (c_M_in_t l D ty L ad _ _ _ _ (by omega) (by omega)) ⟨hx, hb, hml, hown, hts⟩ (va_cwS 3 hts gX9_paper_X9_in rfl rfl rfl (by decide +kernel) ⟨Nat.le_of_ble_eq_true rfl, Nat.le_of_ble_eq_true rfl⟩) hB rfl hl.1 rfl (Nat.le_of_ble_eq_true rfl) dX9_paper_12 ⟨Nat.le_of_ble_eq_true rfl, Nat.le_of_ble_eq_true rfl⟩ (fun H locs hB => ?_)
    refine b_if_eq_f 27 hx hb dX9_paper_15 (by decide) (by decide) ?_
    refine lv_iload_n hx hb dX9_paper_18 rfl (lv_at hl 1 rfl) ?_
    refine lv_iconst (v := 1) hx hb dX9_paper_19 (by decide) ?_
    refine b_icmp_ne_t 29 hx hb dX9_paper_20 (by decide) (fun h8 => hk1 ((i_eq _ _).mpr h8)) ?_
    refine lv_aload_n hx hb dX9_paper_29 rfl (lv_at hl 0 rfl) ?_
    refine m_get (C := RX9) (T := TX9) (N := 33) (ci := 9) hx hb hts in_X9_paper_X9 hown hB (hL 1000 (by decide)) h_1000 rfl 0 (by decide) (hts (.fieldLink RX9 101 "PaperRoomModel" "drafted" "I") (by decide +kernel)) (fun _ h9 => h9) rfl dX9_paper_30 ?_
    refine b_if_ne_t 39 hx hb dX9_paper_33 (by decide) (by rw [nI_toInt (by omega)]; omega) ?_
    refine lv_aload_n hx hb dX9_paper_39 rfl (lv_at hl 0 rfl) ?_
    refine m_get (C := RX9) (T := TX9) (N := 33) (ci := 9) hx hb hts in_X9_paper_X9 hown hB (hL 1000 (by decide)) h_1000 rfl 5 (by decide) (hts (.fieldLink RX9 90 "PaperRoomModel" "papers" "I") (by decide +kernel)) (fun _ h9 => h9) rfl dX9_paper_40 ?_
    refine lv_bipush (v := 8) hx hb dX9_paper_43 (by decide) ?_
    refine b_icmp_ne_t 51 hx hb dX9_paper_45 (by decide) (by rw [nI_toInt (by omega), l8]; omega) ?_
    refine lv_aload_n hx hb dX9_paper_51 rfl (lv_at hl 0 rfl) ?_
    refine m_get (C := RX9) (T := TX9) (N := 33) (ci := 9) hx hb hts in_X9_paper_X9 hown hB (hL 1000 (by decide)) h_1000 rfl 6 (by decide) (hts (.fieldLink RX9 19 "PaperRoomModel" "kind" "[I") (by decide +kernel)) (fun _ h9 => h9) rfl dX9_paper_52 ?_
    refine lv_aload_n hx hb dX9_paper_55 rfl (lv_at hl 0 rfl) ?_
    refine m_get (C := RX9) (T := TX9) (N := 33) (ci := 9) hx hb hts in_X9_paper_X9 hown hB (hL 1000 (by decide)) h_1000 rfl 5 (by decide) (hts (.fieldLink RX9 90 "PaperRoomModel" "papers" "I") (by decide +kernel)) (fun _ h9 => h9) rfl dX9_paper_56 ?_
    refine lv_iload_n hx hb dX9_paper_59 rfl (lv_at hl 1 rfl) ?_
    refine n_iast hx hb hB (hL 1007 (by decide)) h_1007 pn rfl (by omega) (by omega) dX9_paper_60 (fun H locs hB => ?_)
    replace hB : m_B D ty A s L ad (va_up g 1007 (.inl (ty 0, 8, .inl (upd (a 6) pn k)))) H locs := hB
    refine lv_aload_n hx hb dX9_paper_61 rfl (lv_at hl 0 rfl) ?_
    refine m_get (C := RX9) (T := TX9) (N := 33) (ci := 9) hx hb hts in_X9_paper_X9 hown hB (hL 1000 (by decide)) ((va_up_ne _ _ (by decide)).trans h_1000) rfl 7 (by decide) (hts (.fieldLink RX9 22 "PaperRoomModel" "folder" "[I") (by decide +kernel)) (fun _ h9 => h9) rfl dX9_paper_62 ?_
    refine lv_aload_n hx hb dX9_paper_65 rfl (lv_at hl 0 rfl) ?_
    refine m_get (C := RX9) (T := TX9) (N := 33) (ci := 9) hx hb hts in_X9_paper_X9 hown hB (hL 1000 (by decide)) ((va_up_ne _ _ (by decide)).trans h_1000) rfl 5 (by decide) (hts (.fieldLink RX9 90 "PaperRoomModel" "papers" "I") (by decide +kernel)) (fun _ h9 => h9) rfl dX9_paper_66 ?_
    refine lv_iload_n hx hb dX9_paper_69 rfl (lv_at hl 2 rfl) ?_
    refine n_iast hx hb hB (hL 1008 (by decide)) ((va_up_ne _ _ (by decide)).trans h_1008) pn rfl (by omega) (by omega) dX9_paper_70 (fun H locs hB => ?_)
    replace hB : m_B D ty A s L ad (va_up (va_up g 1007 (.inl (ty 0, 8, .inl (upd (a 6) pn k)))) 1008 (.inl (ty 0, 8, .inl (upd (a 7) pn f)))) H locs := hB
    refine lv_aload_n hx hb dX9_paper_71 rfl (lv_at hl 0 rfl) ?_
    refine m_get (C := RX9) (T := TX9) (N := 33) (ci := 9) hx hb hts in_X9_paper_X9 hown hB (hL 1000 (by decide)) ((va_up_ne _ _ (by decide)).trans ((va_up_ne _ _ (by decide)).trans h_1000)) rfl 8 (by decide) (hts (.fieldLink RX9 25 "PaperRoomModel" "letsGo" "[I") (by decide +kernel)) (fun _ h9 => h9) rfl dX9_paper_72 ?_
    refine lv_aload_n hx hb dX9_paper_75 rfl (lv_at hl 0 rfl) ?_
    refine m_get (C := RX9) (T := TX9) (N := 33) (ci := 9) hx hb hts in_X9_paper_X9 hown hB (hL 1000 (by decide)) ((va_up_ne _ _ (by decide)).trans ((va_up_ne _ _ (by decide)).trans h_1000)) rfl 5 (by decide) (hts (.fieldLink RX9 90 "PaperRoomModel" "papers" "I") (by decide +kernel)) (fun _ h9 => h9) rfl dX9_paper_76 ?_
    refine lv_iload_n hx hb dX9_paper_79 rfl (lv_at hl 1 rfl) ?_
    refine lv_iconst (v := 1) hx hb dX9_paper_80 (by decide) ?_
    refine b_icmp_ne_t 88 hx hb dX9_paper_81 (by decide) (fun h8 => hk1 ((i_eq _ _).mpr h8)) ?_
    refine lv_iconst (v := 0) hx hb dX9_paper_88 (by decide) ?_
    refine n_iast hx hb hB (hL 1009 (by decide)) ((va_up_ne _ _ (by decide)).trans ((va_up_ne _ _ (by decide)).trans h_1009)) pn rfl (by omega) (by omega) dX9_paper_89 (fun H locs hB => ?_)
    replace hB : m_B D ty A s L ad (va_up (va_up (va_up g 1007 (.inl (ty 0, 8, .inl (upd (a 6) pn k)))) 1008 (.inl (ty 0, 8, .inl (upd (a 7) pn f)))) 1009 (.inl (ty 0, 8, .inl (upd (a 8) pn 0)))) H locs := hB
    refine lv_aload_n hx hb dX9_paper_90 rfl (lv_at hl 0 rfl) ?_
    refine m_get (C := RX9) (T := TX9) (N := 33) (ci := 9) hx hb hts in_X9_paper_X9 hown hB (hL 1000 (by decide)) ((va_up_ne _ _ (by decide)).trans ((va_up_ne _ _ (by decide)).trans ((va_up_ne _ _ (by decide)).trans h_1000))) rfl 9 (by decide) (hts (.fieldLink RX9 28 "PaperRoomModel" "isWithdrawn" "[Z") (by decide +kernel)) (fun _ h9 => h9) rfl dX9_paper_91 ?_
    refine lv_aload_n hx hb dX9_paper_94 rfl (lv_at hl 0 rfl) ?_
    refine m_get (C := RX9) (T := TX9) (N := 33) (ci := 9) hx hb hts in_X9_paper_X9 hown hB (hL 1000 (by decide)) ((va_up_ne _ _ (by decide)).trans ((va_up_ne _ _ (by decide)).trans ((va_up_ne _ _ (by decide)).trans h_1000))) rfl 5 (by decide) (hts (.fieldLink RX9 90 "PaperRoomModel" "papers" "I") (by decide +kernel)) (fun _ h9 => h9) rfl dX9_paper_95 ?_
    refine lv_iconst (v := 0) hx hb dX9_paper_98 (by decide) ?_
    refine n_zast hx hb hB (hL 1010 (by decide)) ((va_up_ne _ _ (by decide)).trans ((va_up_ne _ _ (by decide)).trans ((va_up_ne _ _ (by decide)).trans h_1010))) pn rfl (by omega) (by omega) dX9_paper_99 (fun H locs hB => ?_)
    replace hB : m_B D ty A s L ad (va_up (va_up (va_up (va_up g 1007 (.inl (ty 0, 8, .inl (upd (a 6) pn k)))) 1008 (.inl (ty 0, 8, .inl (upd (a 7) pn f)))) 1009 (.inl (ty 0, 8, .inl (upd (a 8) pn 0)))) 1010 (.inl (ty 3, 8, .inl (upd (a 9) pn (vp_nar .boolean 0))))) H locs := hB
    refine lv_aload_n hx hb dX9_paper_100 rfl (lv_at hl 0 rfl) ?_
    refine m_get (C := RX9) (T := TX9) (N := 33) (ci := 9) hx hb hts in_X9_paper_X9 hown hB (hL 1000 (by decide)) ((va_up_ne _ _ (by decide)).trans ((va_up_ne _ _ (by decide)).trans ((va_up_ne _ _ (by decide)).trans ((va_up_ne _ _ (by decide)).trans h_1000)))) rfl 10 (by decide) (hts (.fieldLink RX9 32 "PaperRoomModel" "versions" "[I") (by decide +kernel)) (fun _ h9 => h9) rfl dX9_paper_101 ?_
    refine lv_aload_n hx hb dX9_paper_104 rfl (lv_at hl 0 rfl) ?_
    refine m_get (C := RX9) (T := TX9) (N := 33) (ci := 9) hx hb hts in_X9_paper_X9 hown hB (hL 1000 (by decide)) ((va_up_ne _ _ (by decide)).trans ((va_up_ne _ _ (by decide)).trans ((va_up_ne _ _ (by decide)).trans ((va_up_ne _ _ (by decide)).trans h_1000)))) rfl 5 (by decide) (hts (.fieldLink RX9 90 "PaperRoomModel" "papers" "I") (by decide +kernel)) (fun _ h9 => h9) rfl dX9_paper_105 ?_
    refine lv_iconst (v := 0) hx hb dX9_paper_108 (by decide) ?_
    refine n_iast hx hb hB (hL 1011 (by decide)) ((va_up_ne _ _ (by decide)).trans ((va_up_ne _ _ (by decide)).trans ((va_up_ne _ _ (by decide)).trans ((va_up_ne _ _ (by decide)).trans h_1011)))) pn rfl (by omega) (by omega) dX9_paper_109 (fun H locs hB => ?_)
    replace hB : m_B D ty A s L ad (va_up (va_up (va_up (va_up (va_up g 1007 (.inl (ty 0, 8, .inl (upd (a 6) pn k)))) 1008 (.inl (ty 0, 8, .inl (upd (a 7) pn f)))) 1009 (.inl (ty 0, 8, .inl (upd (a 8) pn 0)))) 1010 (.inl (ty 3, 8, .inl (upd (a 9) pn (vp_nar .boolean 0))))) 1011 (.inl (ty 0, 8, .inl (upd (a 10) pn 0)))) H locs := hB
    refine lv_aload_n hx hb dX9_paper_110 rfl (lv_at hl 0 rfl) ?_
    refine lv_aload_n hx hb dX9_paper_111 rfl (lv_at hl 0 rfl) ?_
    refine m_get (C := RX9) (T := TX9) (N := 33) (ci := 9) hx hb hts in_X9_paper_X9 hown hB (hL 1000 (by decide)) ((va_up_ne _ _ (by decide)).trans ((va_up_ne _ _ (by decide)).trans ((va_up_ne _ _ (by decide)).trans ((va_up_ne _ _ (by decide)).trans ((va_up_ne _ _ (by decide)).trans h_1000))))) rfl 5 (by decide) (hts (.fieldLink RX9 90 "PaperRoomModel" "papers" "I") (by decide +kernel)) (fun _ h9 => h9) rfl dX9_paper_112 ?_
    have z9 : (va_up (va_up (va_up (va_up (va_up g 1007 (.inl (ty 0, 8, .inl (upd (a 6) pn k)))) 1008 (.inl (ty 0, 8, .inl (upd (a 7) pn f)))) 1009 (.inl (ty 0, 8, .inl (upd (a 8) pn 0)))) 1010 (.inl (ty 3, 8, .inl (upd (a 9) pn (vp_nar .boolean 0))))) 1011 (.inl (ty 0, 8, .inl (upd (a 10) pn 0)))) 1010 = .inl (ty 3, 8, .inl (upd (a 9) pn 0)) := by rw [← z_0]; exact ((va_up_ne _ _ (by decide)).trans (va_up_self _ _ _))
    have z8 : (va_up (va_up (va_up (va_up (va_up g 1007 (.inl (ty 0, 8, .inl (upd (a 6) pn k)))) 1008 (.inl (ty 0, 8, .inl (upd (a 7) pn f)))) 1009 (.inl (ty 0, 8, .inl (upd (a 8) pn 0)))) 1010 (.inl (ty 3, 8, .inl (upd (a 9) pn (vp_nar .boolean 0))))) 1011 (.inl (ty 0, 8, .inl (upd (a 10) pn 0)))) 1009 = .inl (ty 0, 8, .inl (upd (a 8) pn (if k = 1 then t else 0))) := by rw [if_neg hk1]; exact ((va_up_ne _ _ (by decide)).trans ((va_up_ne _ _ (by decide)).trans (va_up_self _ _ _)))
    refine m_callV (ci := 9) (As := [.int (nI pn)]) (rest := []) (c_M_comes l D ty L ad _ (ppA a pn k f (if k = 1 then t else 0)) dn pn en qn mz nw lo tr pn 0 ⟨hL, ((va_up_ne _ _ (by decide)).trans ((va_up_ne _ _ (by decide)).trans ((va_up_ne _ _ (by decide)).trans ((va_up_ne _ _ (by decide)).trans ((va_up_ne _ _ (by decide)).trans h_1000))))), ((va_up_ne _ _ (by decide)).trans ((va_up_ne _ _ (by decide)).trans ((va_up_ne _ _ (by decide)).trans ((va_up_ne _ _ (by decide)).trans ((va_up_ne _ _ (by decide)).trans h_1002))))), ((va_up_ne _ _ (by decide)).trans ((va_up_ne _ _ (by decide)).trans ((va_up_ne _ _ (by decide)).trans ((va_up_ne _ _ (by decide)).trans ((va_up_ne _ _ (by decide)).trans h_1004))))), ((va_up_ne _ _ (by decide)).trans ((va_up_ne _ _ (by decide)).trans ((va_up_ne _ _ (by decide)).trans ((va_up_ne _ _ (by decide)).trans ((va_up_ne _ _ (by decide)).trans h_1005))))), ((va_up_ne _ _ (by decide)).trans ((va_up_ne _ _ (by decide)).trans ((va_up_ne _ _ (by decide)).trans ((va_up_ne _ _ (by decide)).trans (va_up_self _ _ _))))), ((va_up_ne _ _ (by decide)).trans ((va_up_ne _ _ (by decide)).trans ((va_up_ne _ _ (by decide)).trans (va_up_self _ _ _)))), z8, z9, (va_up_self _ _ _), ((va_up_ne _ _ (by decide)).trans ((va_up_ne _ _ (by decide)).trans ((va_up_ne _ _ (by decide)).trans ((va_up_ne _ _ (by decide)).trans ((va_up_ne _ _ (by decide)).trans h_1012))))), ((va_up_ne _ _ (by decide)).trans ((va_up_ne _ _ (by decide)).trans ((va_up_ne _ _ (by decide)).trans ((va_up_ne _ _ (by decide)).trans ((va_up_ne _ _ (by decide)).trans h_1013))))), ((va_up_ne _ _ (by decide)).trans ((va_up_ne _ _ (by decide)).trans ((va_up_ne _ _ (by decide)).trans ((va_up_ne _ _ (by decide)).trans ((va_up_ne _ _ (by decide)).trans h_1014))))), ((va_up_ne _ _ (by decide)).trans ((va_up_ne _ _ (by decide)).trans ((va_up_ne _ _ (by decide)).trans ((va_up_ne _ _ (by decide)).trans ((va_up_ne _ _ (by decide)).trans h_1015))))), ((va_up_ne _ _ (by decide)).trans ((va_up_ne _ _ (by decide)).trans ((va_up_ne _ _ (by decide)).trans ((va_up_ne _ _ (by decide)).trans ((va_up_ne _ _ (by decide)).trans h_1016))))), ((va_up_ne _ _ (by decide)).trans ((va_up_ne _ _ (by decide)).trans ((va_up_ne _ _ (by decide)).trans ((va_up_ne _ _ (by decide)).trans ((va_up_ne _ _ (by decide)).trans h_1019))))), ((va_up_ne _ _ (by decide)).trans ((va_up_ne _ _ (by decide)).trans ((va_up_ne _ _ (by decide)).trans ((va_up_ne _ _ (by decide)).trans ((va_up_ne _ _ (by decide)).trans h_1020))))), ((va_up_ne _ _ (by decide)).trans ((va_up_ne _ _ (by decide)).trans ((va_up_ne _ _ (by decide)).trans ((va_up_ne _ _ (by decide)).trans ((va_up_ne _ _ (by decide)).trans h_1021))))), ((va_up_ne _ _ (by decide)).trans ((va_up_ne _ _ (by decide)).trans ((va_up_ne _ _ (by decide)).trans ((va_up_ne _ _ (by decide)).trans ((va_up_ne _ _ (by decide)).trans h_1022))))), ((va_up_ne _ _ (by decide)).trans ((va_up_ne _ _ (by decide)).trans ((va_up_ne _ _ (by decide)).trans ((va_up_ne _ _ (by decide)).trans ((va_up_ne _ _ (by decide)).trans h_1024))))), ((va_up_ne _ _ (by decide)).trans ((va_up_ne _ _ (by decide)).trans ((va_up_ne _ _ (by decide)).trans ((va_up_ne _ _ (by decide)).trans ((va_up_ne _ _ (by decide)).trans h_1025))))), ((va_up_ne _ _ (by decide)).trans ((va_up_ne _ _ (by decide)).trans ((va_up_ne _ _ (by decide)).trans ((va_up_ne _ _ (by decide)).trans ((va_up_ne _ _ (by decide)).trans h_1026))))), ((va_up_ne _ _ (by decide)).trans ((va_up_ne _ _ (by decide)).trans ((va_up_ne _ _ (by decide)).trans ((va_up_ne _ _ (by decide)).trans ((va_up_ne _ _ (by decide)).trans h_1027))))), ((va_up_ne _ _ (by decide)).trans ((va_up_ne _ _ (by decide)).trans ((va_up_ne _ _ (by decide)).trans ((va_up_ne _ _ (by decide)).trans ((va_up_ne _ _ (by decide)).trans h_1028))))), ((va_up_ne _ _ (by decide)).trans ((va_up_ne _ _ (by decide)).trans ((va_up_ne _ _ (by decide)).trans ((va_up_ne _ _ (by decide)).trans ((va_up_ne _ _ (by decide)).trans h_1029))))), ((va_up_ne _ _ (by decide)).trans ((va_up_ne _ _ (by decide)).trans ((va_up_ne _ _ (by decide)).trans ((va_up_ne _ _ (by decide)).trans ((va_up_ne _ _ (by decide)).trans h_1030))))), ((va_up_ne _ _ (by decide)).trans ((va_up_ne _ _ (by decide)).trans ((va_up_ne _ _ (by decide)).trans ((va_up_ne _ _ (by decide)).trans ((va_up_ne _ _ (by decide)).trans h_1032)))))⟩ (by omega) (by show upd (a 10) pn 0 pn = _; rw [pk_us]; rfl) (by omega) hdn) ⟨hx, hb, hml, hown, hts⟩ (cwV 1 hts gX9_paper_X9_comes rfl rfl rfl (by decide +kernel) ⟨Nat.le_of_ble_eq_true rfl, Nat.le_of_ble_eq_true rfl⟩) hB (hL 1000 (by decide)) ((va_up_ne _ _ (by decide)).trans ((va_up_ne _ _ (by decide)).trans ((va_up_ne _ _ (by decide)).trans ((va_up_ne _ _ (by decide)).trans ((va_up_ne _ _ (by decide)).trans h_1000))))) rfl rfl hl.1 rfl (Nat.le_of_ble_eq_true rfl) dX9_paper_115 ⟨Nat.le_of_ble_eq_true rfl, Nat.le_of_ble_eq_true rfl⟩ (fun v215 L215 ad_215 g215 H locs hp215 hB => ?_)
    obtain ⟨q1_215, q2_215, q3_215, hfr_215, hM_215⟩ := hp215
    rw [q2_215, q3_215] at hB
    obtain ⟨_, f215_1000, f215_1002, f215_1004, f215_1005, f215_1007, f215_1008, f215_1009, f215_1010, f215_1011, f215_1012, f215_1013, f215_1014, f215_1015, f215_1016, f215_1019, f215_1020, f215_1021, f215_1022, f215_1024, f215_1025, f215_1026, f215_1027, f215_1028, f215_1029, f215_1030, f215_1032⟩ := id hM_215
    refine W.eq (g2 := F0 m 118 ls []) (by rw [q1_215]; rfl) ?_
    refine lv_aload_n hx hb dX9_paper_118 rfl (lv_at hl 0 rfl) ?_
    refine lv_dup hx hb dX9_paper_119 rfl ?_
    refine m_get (C := RX9) (T := TX9) (N := 33) (ci := 9) hx hb hts in_X9_paper_X9 hown hB (hL 1000 (by decide)) f215_1000 rfl 5 (by decide) (hts (.fieldLink RX9 90 "PaperRoomModel" "papers" "I") (by decide +kernel)) (fun _ h9 => h9) rfl dX9_paper_120 ?_
    refine lv_iconst (v := 1) hx hb dX9_paper_123 (by decide) ?_
    refine lv_iadd hx hb dX9_paper_124 ?_
    refine b_topi (w := nI (pn + 1)) (nI_add pn 1) ?_
    refine m_put (C := RX9) (T := TX9) (N := 33) (ci := 9) (v := .int (nI (pn + 1))) (ft := .int) hx hb hts in_X9_paper_X9 tyX9 tyX9_ok nmX9 hown hB (hL 1000 (by decide)) f215_1000 rfl 5 (by decide) (hts (.fieldLink RX9 90 "PaperRoomModel" "papers" "I") (by decide +kernel)) (fun _ h9 => h9) rfl (by decide +kernel) rfl rfl (Nat.le_of_ble_eq_true rfl) dX9_paper_125 (fun H locs hB => ?_)
    replace hB : m_B D ty A s L ad (va_up g215 1000 (.inr (9, [.int (nI 0), .ref (ad 1002), .int nw, .ref (ad 1004), .ref (ad 1005), .int (nI (pn + 1)), .ref (ad 1007), .ref (ad 1008), .ref (ad 1009), .ref (ad 1010), .ref (ad 1011), .ref (ad 1012), .ref (ad 1013), .ref (ad 1014), .ref (ad 1015), .ref (ad 1016), .int (nI en), .int lo, .ref (ad 1019), .ref (ad 1020), .ref (ad 1021), .ref (ad 1022), .int (nI qn), .ref (ad 1024), .ref (ad 1025), .ref (ad 1026), .ref (ad 1027), .ref (ad 1028), .ref (ad 1029), .ref (ad 1030), .long tr, .ref (ad 1032), .int (nI mz)]))) H locs := hB
    refine lv_aload_n hx hb dX9_paper_128 rfl (lv_at hl 0 rfl) ?_
    refine m_get (C := RX9) (T := TX9) (N := 33) (ci := 9) hx hb hts in_X9_paper_X9 hown hB (hL 1000 (by decide)) (va_up_self _ _ _) rfl 5 (by decide) (hts (.fieldLink RX9 90 "PaperRoomModel" "papers" "I") (by decide +kernel)) (fun _ h9 => h9) rfl dX9_paper_129 ?_
    refine lv_iconst (v := 1) hx hb dX9_paper_132 (by decide) ?_
    refine lv_isub hx hb dX9_paper_133 ?_
    refine b_topi (w := nI pn) ((pk_sub (a := pn + 1) (b := 1) (by omega)).trans (by rw [Nat.add_sub_cancel])) ?_
    exact m_iret hx hb hrt hlocks hB (Nat.le_refl _) (Nat.le_refl _) dX9_paper_134 ⟨rfl, rfl, rfl, (fun x hx => ((va_up_ne _ _ (by omega)).trans ((hfr_215 x hx).trans ((va_up_ne _ _ (by omega)).trans ((va_up_ne _ _ (by omega)).trans ((va_up_ne _ _ (by omega)).trans ((va_up_ne _ _ (by omega)).trans ((va_up_ne _ _ (by omega)).trans rfl)))))))), ⟨hL, (va_up_self _ _ _), ((va_up_ne _ _ (by decide)).trans f215_1002), ((va_up_ne _ _ (by decide)).trans f215_1004), ((va_up_ne _ _ (by decide)).trans f215_1005), ((va_up_ne _ _ (by decide)).trans f215_1007), ((va_up_ne _ _ (by decide)).trans f215_1008), ((va_up_ne _ _ (by decide)).trans f215_1009), ((va_up_ne _ _ (by decide)).trans f215_1010), ((va_up_ne _ _ (by decide)).trans f215_1011), ((va_up_ne _ _ (by decide)).trans f215_1012), ((va_up_ne _ _ (by decide)).trans f215_1013), ((va_up_ne _ _ (by decide)).trans f215_1014), ((va_up_ne _ _ (by decide)).trans f215_1015), ((va_up_ne _ _ (by decide)).trans f215_1016), ((va_up_ne _ _ (by decide)).trans f215_1019), ((va_up_ne _ _ (by decide)).trans f215_1020), ((va_up_ne _ _ (by decide)).trans f215_1021), ((va_up_ne _ _ (by decide)).trans f215_1022), ((va_up_ne _ _ (by decide)).trans f215_1024), ((va_up_ne _ _ (by decide)).trans f215_1025), ((va_up_ne _ _ (by decide)).trans f215_1026), ((va_up_ne _ _ (by decide)).trans f215_1027), ((va_up_ne _ _ (by decide)).trans f215_1028), ((va_up_ne _ _ (by decide)).trans f215_1029), ((va_up_ne _ _ (by decide)).trans f215_1030), ((va_up_ne _ _ (by decide)).trans f215_1032)⟩⟩
