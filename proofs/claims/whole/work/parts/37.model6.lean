set_option maxRecDepth 20000 in
theorem in_X9_makes_X9 : ∀ w ∈ wsX90, w ∈ wsX9_makes := by decide +kernel
set_option maxHeartbeats 1000000 in
set_option maxRecDepth 100000 in
theorem c_M_makes_t (l : Launch) (D : va_G) (ty : Nat → ClassId) (L : List Nat) (ad : Nat → Nat) (g : Nat → va_E) (a : Nat → Nat → Int32) (dn pn en qn mz : Nat) (nw lo : Int32) (tr : Int64) (b : Int32) (j k0 n : Nat) (f : Nat → Int32) (hM : RM ty L ad g a dn pn en qn mz nw lo tr) (hj8 : j < 8) (hk4 : k0 < 4) (hsz : a 11 (4 * j + k0) = nI n) (hn40 : n ≤ 40) (hf : ∀ i, i < n → f i = pl (a 12 (40 * (4 * j + k0) + i)) (a 13 (40 * (4 * j + k0) + i))) (hkd : a 6 j = 2) : m_C l yX9_makes wsX9_makes 0 0 0 0 D ty [.ref (ad 1000), .int b, .int (nI j), .int (nI k0)] L ad g (fun v1 L1 ad1 g1 => v1 = none ∧ L1 = L ∧ ad1 = ad ∧ (∀ x, x < 1000 → g1 x = g x) ∧ RM ty L ad g1 (va_up a 31 (mkF true b f (a 31) n)) dn pn en qn (mkN true b f n) nw lo tr) := by
  intro sz
  refine Met.ofW (cc := cX9_makes) (maxL := 8) (ret := none) (by decide) rfl ?_
  intro p e s m args below meth c s₁ B hml hv
  have hx := B.exec
  have hb := B.bytes
  have hrt := B.returns
  have hts := atoms_spec (ws := wsX9_makes) B.pre
  have hown : s.vm.findClass RX9 = some m.cls := findClass_of_methodNamed B.named
  have hlocks := B.notSynchronized
  obtain ⟨rfl, hB⟩ := m_start hv
  generalize va_A (m_w L ad g) sz = A at hB ⊢
  generalize s.heap = H at hB ⊢
  generalize ([] : List Loc) = locs at hB ⊢
  have hl := lv_entry ([.ref (ad 1000), .int b, .int (nI j), .int (nI k0)]) (n := 8) (Nat.le_of_ble_eq_true rfl)
  rw [lg_entry_eq]
  generalize (lg_sl ([.ref (ad 1000), .int b, .int (nI j), .int (nI k0)]) ++ List.replicate (8 - (lg_sl ([.ref (ad 1000), .int b, .int (nI j), .int (nI k0)])).length) Slot.unset).toArray = ls at hl ⊢
  have hl : lv_has ls 8 [(0, .ref (ad 1000)), (1, .int b), (2, .int (nI j)), (3, .int (nI k0))] := hl
  obtain ⟨hL, h_1000, h_1002, h_1004, h_1005, h_1007, h_1008, h_1009, h_1010, h_1011, h_1012, h_1013, h_1014, h_1015, h_1016, h_1019, h_1020, h_1021, h_1022, h_1024, h_1025, h_1026, h_1027, h_1028, h_1029, h_1030, h_1032⟩ := id hM
  have tI_n : (nI n).toInt = (n : Int) := nI_toInt (by omega)
  refine lv_iconst (v := 4) hx hb dX9_makes_0 (by decide) ?_
  refine lv_iload_n hx hb dX9_makes_1 rfl (lv_at hl 2 rfl) ?_
  refine lv_imul hx hb dX9_makes_2 ?_
  refine b_topi (w := nI (4 * j)) (pk_mul 4 j) ?_
  refine lv_iload_n hx hb dX9_makes_3 rfl (lv_at hl 3 rfl) ?_
  refine lv_iadd hx hb dX9_makes_4 ?_
  refine b_topi (w := nI ((4 * j) + k0)) (nI_add (4 * j) k0) ?_
  refine lv_istore (lv' := [(4, .int (nI ((4 * j) + k0))), (0, .ref (ad 1000)), (1, .int b), (2, .int (nI j)), (3, .int (nI k0))]) hx hb dX9_makes_5 hl (by decide) rfl (fun ls hl => ?_)
  refine lv_iconst (v := 0) hx hb dX9_makes_7 (by decide) ?_
  refine lv_istore (lv' := [(5, .int 0), (4, .int (nI ((4 * j) + k0))), (0, .ref (ad 1000)), (1, .int b), (2, .int (nI j)), (3, .int (nI k0))]) hx hb dX9_makes_8 hl (by decide) rfl (fun ls hl => ?_)
  refine lv_aload_n hx hb dX9_makes_10 rfl (lv_at hl 2 rfl) ?_
  refine lv_iconst (v := 0) hx hb dX9_makes_11 (by decide) ?_
  refine m_put (C := RX9) (T := TX9) (N := 33) (ci := 9) (v := .int 0) (ft := .int) hx hb hts in_X9_makes_X9 tyX9 tyX9_ok nmX9 hown hB (hL 1000 (by decide)) h_1000 rfl 32 (by decide) (hts (.fieldLink RX9 127 "PaperRoomModel" "madeSize" "I") (by decide +kernel)) (fun _ h9 => h9) rfl (by decide +kernel) rfl rfl (Nat.le_of_ble_eq_true rfl) dX9_makes_12 (fun H locs hB => ?_)
  replace hB : m_B D ty A s L ad (va_up g 1000 (.inr (9, [.int (nI dn), .ref (ad 1002), .int nw, .ref (ad 1004), .ref (ad 1005), .int (nI pn), .ref (ad 1007), .ref (ad 1008), .ref (ad 1009), .ref (ad 1010), .ref (ad 1011), .ref (ad 1012), .ref (ad 1013), .ref (ad 1014), .ref (ad 1015), .ref (ad 1016), .int (nI en), .int lo, .ref (ad 1019), .ref (ad 1020), .ref (ad 1021), .ref (ad 1022), .int (nI qn), .ref (ad 1024), .ref (ad 1025), .ref (ad 1026), .ref (ad 1027), .ref (ad 1028), .ref (ad 1029), .ref (ad 1030), .long tr, .ref (ad 1032), .int 0]))) H locs := hB
  refine lv_iconst (v := 0) hx hb dX9_makes_15 (by decide) ?_
  refine lv_istore (lv' := [(6, .int 0), (5, .int 0), (4, .int (nI ((4 * j) + k0))), (0, .ref (ad 1000)), (1, .int b), (2, .int (nI j)), (3, .int (nI k0))]) hx hb dX9_makes_16 hl (by decide) rfl (fun ls hl => ?_)
  replace hl : lv_has ls 8 [(0, .ref (ad 1000)), (1, .int b), (2, .int (nI j)), (4, .int (nI ((4 * j) + k0))), (5, .int 0), (6, .int 0)] := lv_sub hl [3, 4, 5, 2, 1, 0] rfl
  obtain ⟨k, hk0⟩ : ∃ k : Nat, k = 0 := ⟨0, rfl⟩
  replace hB : m_B D ty A s L ad (va_up (va_up g 1032 (.inl (ty 0, 80, .inl (mkF true b f (a 31) k)))) 1000 (.inr (9, [.int (nI dn), .ref (ad 1002), .int nw, .ref (ad 1004), .ref (ad 1005), .int (nI pn), .ref (ad 1007), .ref (ad 1008), .ref (ad 1009), .ref (ad 1010), .ref (ad 1011), .ref (ad 1012), .ref (ad 1013), .ref (ad 1014), .ref (ad 1015), .ref (ad 1016), .int (nI en), .int lo, .ref (ad 1019), .ref (ad 1020), .ref (ad 1021), .ref (ad 1022), .int (nI qn), .ref (ad 1024), .ref (ad 1025), .ref (ad 1026), .ref (ad 1027), .ref (ad 1028), .ref (ad 1029), .ref (ad 1030), .long tr, .ref (ad 1032), .int (nI (mkN true b f k))]))) H locs := by
    rw [hk0]
    show m_B D ty A s L ad (va_up (va_up g 1032 (.inl (ty 0, 80, .inl (a 31)))) 1000 (.inr (9, [.int (nI dn), .ref (ad 1002), .int nw, .ref (ad 1004), .ref (ad 1005), .int (nI pn), .ref (ad 1007), .ref (ad 1008), .ref (ad 1009), .ref (ad 1010), .ref (ad 1011), .ref (ad 1012), .ref (ad 1013), .ref (ad 1014), .ref (ad 1015), .ref (ad 1016), .int (nI en), .int lo, .ref (ad 1019), .ref (ad 1020), .ref (ad 1021), .ref (ad 1022), .int (nI qn), .ref (ad 1024), .ref (ad 1025), .ref (ad 1026), .ref (ad 1027), .ref (ad 1028), .ref (ad 1029), .ref (ad 1030), .long tr, .ref (ad 1032), .int (nI 0)]))) H locs; rw [up_2 _ h_1032]; exact hB
  replace hl : lv_has ls 8 [(0, .ref (ad 1000)), (1, .int b), (2, .int (nI j)), (4, .int (nI ((4 * j) + k0))), (5, .int (nI (mkS f k))), (6, .int (nI k))] := by rw [hk0]; exact hl
  obtain ⟨jz, hj⟩ : ∃ jz : Nat, k + jz = n := ⟨n - k, by omega⟩
  clear hk0
  induction jz generalizing k H locs ls with
  | zero =>
    have hje : k = n := by omega
    have tI_k : (nI k).toInt = (k : Int) := nI_toInt (by omega)
    refine lv_iload hx hb dX9_makes_18 (lv_at hl 5 rfl) ?_
    refine lv_aload_n hx hb dX9_makes_20 rfl (lv_at hl 0 rfl) ?_
    refine m_get (C := RX9) (T := TX9) (N := 33) (ci := 9) hx hb hts in_X9_makes_X9 hown hB (hL 1000 (by decide)) (va_up_self _ _ _) rfl 11 (by decide) (hts (.fieldLink RX9 35 "PaperRoomModel" "size" "[I") (by decide +kernel)) (fun _ h9 => h9) rfl dX9_makes_21 ?_
    refine lv_iload hx hb dX9_makes_24 (lv_at hl 3 rfl) ?_
    refine n_iald hx hb hB (hL 1012 (by decide)) ((va_up_ne _ _ (by decide)).trans ((va_up_ne _ _ (by decide)).trans h_1012)) ((4 * j) + k0) rfl (by omega) (by omega) dX9_makes_26 ?_
    refine b_topi (w := nI n) (hsz) ?_
    refine b_icmp_ge_t 146 hx hb dX9_makes_27 (by decide) (by omega) ?_
    subst hje
    exact m_vret hx hb hrt hlocks hB (Nat.le_refl _) (Nat.le_refl _) dX9_makes_146 ⟨rfl, rfl, rfl, (fun x hx => ((va_up_ne _ _ (by omega)).trans (va_up_ne _ _ (by omega)))), ⟨hL, (va_up_self _ _ _), ((va_up_ne _ _ (by decide)).trans ((va_up_ne _ _ (by decide)).trans h_1002)), ((va_up_ne _ _ (by decide)).trans ((va_up_ne _ _ (by decide)).trans h_1004)), ((va_up_ne _ _ (by decide)).trans ((va_up_ne _ _ (by decide)).trans h_1005)), ((va_up_ne _ _ (by decide)).trans ((va_up_ne _ _ (by decide)).trans h_1007)), ((va_up_ne _ _ (by decide)).trans ((va_up_ne _ _ (by decide)).trans h_1008)), ((va_up_ne _ _ (by decide)).trans ((va_up_ne _ _ (by decide)).trans h_1009)), ((va_up_ne _ _ (by decide)).trans ((va_up_ne _ _ (by decide)).trans h_1010)), ((va_up_ne _ _ (by decide)).trans ((va_up_ne _ _ (by decide)).trans h_1011)), ((va_up_ne _ _ (by decide)).trans ((va_up_ne _ _ (by decide)).trans h_1012)), ((va_up_ne _ _ (by decide)).trans ((va_up_ne _ _ (by decide)).trans h_1013)), ((va_up_ne _ _ (by decide)).trans ((va_up_ne _ _ (by decide)).trans h_1014)), ((va_up_ne _ _ (by decide)).trans ((va_up_ne _ _ (by decide)).trans h_1015)), ((va_up_ne _ _ (by decide)).trans ((va_up_ne _ _ (by decide)).trans h_1016)), ((va_up_ne _ _ (by decide)).trans ((va_up_ne _ _ (by decide)).trans h_1019)), ((va_up_ne _ _ (by decide)).trans ((va_up_ne _ _ (by decide)).trans h_1020)), ((va_up_ne _ _ (by decide)).trans ((va_up_ne _ _ (by decide)).trans h_1021)), ((va_up_ne _ _ (by decide)).trans ((va_up_ne _ _ (by decide)).trans h_1022)), ((va_up_ne _ _ (by decide)).trans ((va_up_ne _ _ (by decide)).trans h_1024)), ((va_up_ne _ _ (by decide)).trans ((va_up_ne _ _ (by decide)).trans h_1025)), ((va_up_ne _ _ (by decide)).trans ((va_up_ne _ _ (by decide)).trans h_1026)), ((va_up_ne _ _ (by decide)).trans ((va_up_ne _ _ (by decide)).trans h_1027)), ((va_up_ne _ _ (by decide)).trans ((va_up_ne _ _ (by decide)).trans h_1028)), ((va_up_ne _ _ (by decide)).trans ((va_up_ne _ _ (by decide)).trans h_1029)), ((va_up_ne _ _ (by decide)).trans ((va_up_ne _ _ (by decide)).trans h_1030)), ((va_up_ne _ _ (by decide)).trans (va_up_self _ _ _))⟩⟩
  | succ jz ihj =>
    have hjl : k < n := by omega
    have tI_k : (nI k).toInt = (k : Int) := nI_toInt (by omega)
    have hN := mkN_le true b f k
    by_cases hz : a 13 ((40 * (4 * j + k0)) + k) = 0
    · skip
      refine lv_iload hx hb dX9_makes_18 (lv_at hl 5 rfl) ?_
      refine lv_aload_n hx hb dX9_makes_20 rfl (lv_at hl 0 rfl) ?_
      refine m_get (C := RX9) (T := TX9) (N := 33) (ci := 9) hx hb hts in_X9_makes_X9 hown hB (hL 1000 (by decide)) (va_up_self _ _ _) rfl 11 (by decide) (hts (.fieldLink RX9 35 "PaperRoomModel" "size" "[I") (by decide +kernel)) (fun _ h9 => h9) rfl dX9_makes_21 ?_
      refine lv_iload hx hb dX9_makes_24 (lv_at hl 3 rfl) ?_
      refine n_iald hx hb hB (hL 1012 (by decide)) ((va_up_ne _ _ (by decide)).trans ((va_up_ne _ _ (by decide)).trans h_1012)) ((4 * j) + k0) rfl (by omega) (by omega) dX9_makes_26 ?_
      refine b_topi (w := nI n) (hsz) ?_
      refine b_icmp_ge_f 146 hx hb dX9_makes_27 (by decide) (by omega) ?_
      refine lv_aload_n hx hb dX9_makes_30 rfl (lv_at hl 0 rfl) ?_
      refine m_get (C := RX9) (T := TX9) (N := 33) (ci := 9) hx hb hts in_X9_makes_X9 hown hB (hL 1000 (by decide)) (va_up_self _ _ _) rfl 13 (by decide) (hts (.fieldLink RX9 41 "PaperRoomModel" "isBlack" "[Z") (by decide +kernel)) (fun _ h9 => h9) rfl dX9_makes_31 ?_
      refine lv_bipush (v := 40) hx hb dX9_makes_34 (by decide) ?_
      refine lv_iload hx hb dX9_makes_36 (lv_at hl 3 rfl) ?_
      refine lv_imul hx hb dX9_makes_38 ?_
      refine b_topi (w := nI (40 * ((4 * j) + k0))) (pk_mul 40 ((4 * j) + k0)) ?_
      refine lv_iload hx hb dX9_makes_39 (lv_at hl 5 rfl) ?_
      refine lv_iadd hx hb dX9_makes_41 ?_
      refine b_topi (w := nI ((40 * ((4 * j) + k0)) + k)) (nI_add (40 * ((4 * j) + k0)) k) ?_
      refine n_zald hx hb hB (hL 1014 (by decide)) ((va_up_ne _ _ (by decide)).trans ((va_up_ne _ _ (by decide)).trans h_1014)) ((40 * ((4 * j) + k0)) + k) rfl (by omega) (by omega) dX9_makes_42 ?_
      refine b_if_eq_t 51 hx hb dX9_makes_43 (by decide) (by rw [hz]; decide) ?_
      refine lv_aload_n hx hb dX9_makes_51 rfl (lv_at hl 0 rfl) ?_
      refine m_get (C := RX9) (T := TX9) (N := 33) (ci := 9) hx hb hts in_X9_makes_X9 hown hB (hL 1000 (by decide)) (va_up_self _ _ _) rfl 12 (by decide) (hts (.fieldLink RX9 38 "PaperRoomModel" "text" "[I") (by decide +kernel)) (fun _ h9 => h9) rfl dX9_makes_52 ?_
      refine lv_bipush (v := 40) hx hb dX9_makes_55 (by decide) ?_
      refine lv_iload hx hb dX9_makes_57 (lv_at hl 3 rfl) ?_
      refine lv_imul hx hb dX9_makes_59 ?_
      refine b_topi (w := nI (40 * ((4 * j) + k0))) (pk_mul 40 ((4 * j) + k0)) ?_
      refine lv_iload hx hb dX9_makes_60 (lv_at hl 5 rfl) ?_
      refine lv_iadd hx hb dX9_makes_62 ?_
      refine b_topi (w := nI ((40 * ((4 * j) + k0)) + k)) (nI_add (40 * ((4 * j) + k0)) k) ?_
      refine n_iald hx hb hB (hL 1013 (by decide)) ((va_up_ne _ _ (by decide)).trans ((va_up_ne _ _ (by decide)).trans h_1013)) ((40 * ((4 * j) + k0)) + k) rfl (by omega) (by omega) dX9_makes_63 ?_
      refine b_topi (w := f k) (by rw [hf k hjl, hz]; rfl) ?_
      by_cases h32 : f k = 32
      · skip
        rcases bool2 (dbl b (mkS f k)) with hd | hd
        · skip
          refine lv_istore (lv' := [(7, .int (f k)), (0, .ref (ad 1000)), (1, .int b), (2, .int (nI j)), (4, .int (nI ((4 * j) + k0))), (5, .int (nI (mkS f k))), (6, .int (nI k))]) hx hb dX9_makes_64 hl (by decide) rfl (fun ls hl => ?_)
          refine lv_aload_n hx hb dX9_makes_66 rfl (lv_at hl 1 rfl) ?_
          refine m_get (C := RX9) (T := TX9) (N := 33) (ci := 9) hx hb hts in_X9_makes_X9 hown hB (hL 1000 (by decide)) (va_up_self _ _ _) rfl 31 (by decide) (hts (.fieldLink RX9 83 "PaperRoomModel" "made" "[I") (by decide +kernel)) (fun _ h9 => h9) rfl dX9_makes_67 ?_
          refine lv_aload_n hx hb dX9_makes_70 rfl (lv_at hl 1 rfl) ?_
          refine m_get (C := RX9) (T := TX9) (N := 33) (ci := 9) hx hb hts in_X9_makes_X9 hown hB (hL 1000 (by decide)) (va_up_self _ _ _) rfl 32 (by decide) (hts (.fieldLink RX9 127 "PaperRoomModel" "madeSize" "I") (by decide +kernel)) (fun _ h9 => h9) rfl dX9_makes_71 ?_
          refine lv_iload hx hb dX9_makes_74 (lv_at hl 0 rfl) ?_
          refine n_iast hx hb hB (hL 1032 (by decide)) ((va_up_ne _ _ (by decide)).trans (va_up_self _ _ _)) (mkN true b f k) rfl (by omega) (by omega) dX9_makes_76 (fun H locs hB => ?_)
          replace hB : m_B D ty A s L ad (va_up (va_up (va_up g 1032 (.inl (ty 0, 80, .inl (mkF true b f (a 31) k)))) 1000 (.inr (9, [.int (nI dn), .ref (ad 1002), .int nw, .ref (ad 1004), .ref (ad 1005), .int (nI pn), .ref (ad 1007), .ref (ad 1008), .ref (ad 1009), .ref (ad 1010), .ref (ad 1011), .ref (ad 1012), .ref (ad 1013), .ref (ad 1014), .ref (ad 1015), .ref (ad 1016), .int (nI en), .int lo, .ref (ad 1019), .ref (ad 1020), .ref (ad 1021), .ref (ad 1022), .int (nI qn), .ref (ad 1024), .ref (ad 1025), .ref (ad 1026), .ref (ad 1027), .ref (ad 1028), .ref (ad 1029), .ref (ad 1030), .long tr, .ref (ad 1032), .int (nI (mkN true b f k))]))) 1032 (.inl (ty 0, 80, .inl (upd (mkF true b f (a 31) k) (mkN true b f k) (f k))))) H locs := hB
          refine lv_aload_n hx hb dX9_makes_77 rfl (lv_at hl 1 rfl) ?_
          refine lv_dup hx hb dX9_makes_78 rfl ?_
          refine m_get (C := RX9) (T := TX9) (N := 33) (ci := 9) hx hb hts in_X9_makes_X9 hown hB (hL 1000 (by decide)) ((va_up_ne _ _ (by decide)).trans (va_up_self _ _ _)) rfl 32 (by decide) (hts (.fieldLink RX9 127 "PaperRoomModel" "madeSize" "I") (by decide +kernel)) (fun _ h9 => h9) rfl dX9_makes_79 ?_
          refine lv_iconst (v := 1) hx hb dX9_makes_82 (by decide) ?_
          refine lv_iadd hx hb dX9_makes_83 ?_
          refine b_topi (w := nI ((mkN true b f k) + 1)) (nI_add (mkN true b f k) 1) ?_
          refine m_put (C := RX9) (T := TX9) (N := 33) (ci := 9) (v := .int (nI ((mkN true b f k) + 1))) (ft := .int) hx hb hts in_X9_makes_X9 tyX9 tyX9_ok nmX9 hown hB (hL 1000 (by decide)) ((va_up_ne _ _ (by decide)).trans (va_up_self _ _ _)) rfl 32 (by decide) (hts (.fieldLink RX9 127 "PaperRoomModel" "madeSize" "I") (by decide +kernel)) (fun _ h9 => h9) rfl (by decide +kernel) rfl rfl (Nat.le_of_ble_eq_true rfl) dX9_makes_84 (fun H locs hB => ?_)
          replace hB : m_B D ty A s L ad (va_up (va_up (va_up (va_up g 1032 (.inl (ty 0, 80, .inl (mkF true b f (a 31) k)))) 1000 (.inr (9, [.int (nI dn), .ref (ad 1002), .int nw, .ref (ad 1004), .ref (ad 1005), .int (nI pn), .ref (ad 1007), .ref (ad 1008), .ref (ad 1009), .ref (ad 1010), .ref (ad 1011), .ref (ad 1012), .ref (ad 1013), .ref (ad 1014), .ref (ad 1015), .ref (ad 1016), .int (nI en), .int lo, .ref (ad 1019), .ref (ad 1020), .ref (ad 1021), .ref (ad 1022), .int (nI qn), .ref (ad 1024), .ref (ad 1025), .ref (ad 1026), .ref (ad 1027), .ref (ad 1028), .ref (ad 1029), .ref (ad 1030), .long tr, .ref (ad 1032), .int (nI (mkN true b f k))]))) 1032 (.inl (ty 0, 80, .inl (upd (mkF true b f (a 31) k) (mkN true b f k) (f k))))) 1000 (.inr (9, [.int (nI dn), .ref (ad 1002), .int nw, .ref (ad 1004), .ref (ad 1005), .int (nI pn), .ref (ad 1007), .ref (ad 1008), .ref (ad 1009), .ref (ad 1010), .ref (ad 1011), .ref (ad 1012), .ref (ad 1013), .ref (ad 1014), .ref (ad 1015), .ref (ad 1016), .int (nI en), .int lo, .ref (ad 1019), .ref (ad 1020), .ref (ad 1021), .ref (ad 1022), .int (nI qn), .ref (ad 1024), .ref (ad 1025), .ref (ad 1026), .ref (ad 1027), .ref (ad 1028), .ref (ad 1029), .ref (ad 1030), .long tr, .ref (ad 1032), .int (nI ((mkN true b f k) + 1))]))) H locs := hB
          refine lv_aload_n hx hb dX9_makes_87 rfl (lv_at hl 1 rfl) ?_
          refine m_get (C := RX9) (T := TX9) (N := 33) (ci := 9) hx hb hts in_X9_makes_X9 hown hB (hL 1000 (by decide)) (va_up_self _ _ _) rfl 6 (by decide) (hts (.fieldLink RX9 19 "PaperRoomModel" "kind" "[I") (by decide +kernel)) (fun _ h9 => h9) rfl dX9_makes_88 ?_
          refine lv_iload_n hx hb dX9_makes_91 rfl (lv_at hl 3 rfl) ?_
          refine n_iald hx hb hB (hL 1007 (by decide)) ((va_up_ne _ _ (by decide)).trans ((va_up_ne _ _ (by decide)).trans ((va_up_ne _ _ (by decide)).trans ((va_up_ne _ _ (by decide)).trans h_1007)))) j rfl (by omega) (by omega) dX9_makes_92 ?_
          refine lv_iconst (v := 2) hx hb dX9_makes_93 (by decide) ?_
          refine b_icmp_ne_f 140 hx hb dX9_makes_94 (by decide) (by rw [hkd]) ?_
          refine lv_iload hx hb dX9_makes_97 (lv_at hl 0 rfl) ?_
          refine lv_bipush (v := 32) hx hb dX9_makes_99 (by decide) ?_
          refine b_icmp_ne_f 140 hx hb dX9_makes_101 (by decide) (by rw [h32]) ?_
          refine lv_iload_n hx hb dX9_makes_104 rfl (lv_at hl 2 rfl) ?_
          refine lv_iload hx hb dX9_makes_105 (lv_at hl 5 rfl) ?_
          refine lv_iconst (v := 3) hx hb dX9_makes_107 (by decide) ?_
          refine lv_irem hx hb dX9_makes_108 (by decide) ?_
          refine lv_ishr hx hb dX9_makes_109 ?_
          refine lv_iconst (v := 1) hx hb dX9_makes_110 (by decide) ?_
          refine lv_iand hx hb dX9_makes_111 ?_
          refine lv_iconst (v := 1) hx hb dX9_makes_112 (by decide) ?_
          refine b_icmp_ne_f 137 hx hb dX9_makes_113 (by decide) (by rw [of_decide_eq_true hd]) ?_
          refine lv_aload_n hx hb dX9_makes_116 rfl (lv_at hl 1 rfl) ?_
          refine m_get (C := RX9) (T := TX9) (N := 33) (ci := 9) hx hb hts in_X9_makes_X9 hown hB (hL 1000 (by decide)) (va_up_self _ _ _) rfl 31 (by decide) (hts (.fieldLink RX9 83 "PaperRoomModel" "made" "[I") (by decide +kernel)) (fun _ h9 => h9) rfl dX9_makes_117 ?_
          refine lv_aload_n hx hb dX9_makes_120 rfl (lv_at hl 1 rfl) ?_
          refine m_get (C := RX9) (T := TX9) (N := 33) (ci := 9) hx hb hts in_X9_makes_X9 hown hB (hL 1000 (by decide)) (va_up_self _ _ _) rfl 32 (by decide) (hts (.fieldLink RX9 127 "PaperRoomModel" "madeSize" "I") (by decide +kernel)) (fun _ h9 => h9) rfl dX9_makes_121 ?_
          refine lv_bipush (v := 32) hx hb dX9_makes_124 (by decide) ?_
          refine n_iast hx hb hB (hL 1032 (by decide)) ((va_up_ne _ _ (by decide)).trans (va_up_self _ _ _)) ((mkN true b f k) + 1) rfl (by omega) (by omega) dX9_makes_126 (fun H locs hB => ?_)
          replace hB : m_B D ty A s L ad (va_up (va_up (va_up (va_up (va_up g 1032 (.inl (ty 0, 80, .inl (mkF true b f (a 31) k)))) 1000 (.inr (9, [.int (nI dn), .ref (ad 1002), .int nw, .ref (ad 1004), .ref (ad 1005), .int (nI pn), .ref (ad 1007), .ref (ad 1008), .ref (ad 1009), .ref (ad 1010), .ref (ad 1011), .ref (ad 1012), .ref (ad 1013), .ref (ad 1014), .ref (ad 1015), .ref (ad 1016), .int (nI en), .int lo, .ref (ad 1019), .ref (ad 1020), .ref (ad 1021), .ref (ad 1022), .int (nI qn), .ref (ad 1024), .ref (ad 1025), .ref (ad 1026), .ref (ad 1027), .ref (ad 1028), .ref (ad 1029), .ref (ad 1030), .long tr, .ref (ad 1032), .int (nI (mkN true b f k))]))) 1032 (.inl (ty 0, 80, .inl (upd (mkF true b f (a 31) k) (mkN true b f k) (f k))))) 1000 (.inr (9, [.int (nI dn), .ref (ad 1002), .int nw, .ref (ad 1004), .ref (ad 1005), .int (nI pn), .ref (ad 1007), .ref (ad 1008), .ref (ad 1009), .ref (ad 1010), .ref (ad 1011), .ref (ad 1012), .ref (ad 1013), .ref (ad 1014), .ref (ad 1015), .ref (ad 1016), .int (nI en), .int lo, .ref (ad 1019), .ref (ad 1020), .ref (ad 1021), .ref (ad 1022), .int (nI qn), .ref (ad 1024), .ref (ad 1025), .ref (ad 1026), .ref (ad 1027), .ref (ad 1028), .ref (ad 1029), .ref (ad 1030), .long tr, .ref (ad 1032), .int (nI ((mkN true b f k) + 1))]))) 1032 (.inl (ty 0, 80, .inl (upd (upd (mkF true b f (a 31) k) (mkN true b f k) (f k)) ((mkN true b f k) + 1) 32)))) H locs := hB
          refine lv_aload_n hx hb dX9_makes_127 rfl (lv_at hl 1 rfl) ?_
          refine lv_dup hx hb dX9_makes_128 rfl ?_
          refine m_get (C := RX9) (T := TX9) (N := 33) (ci := 9) hx hb hts in_X9_makes_X9 hown hB (hL 1000 (by decide)) ((va_up_ne _ _ (by decide)).trans (va_up_self _ _ _)) rfl 32 (by decide) (hts (.fieldLink RX9 127 "PaperRoomModel" "madeSize" "I") (by decide +kernel)) (fun _ h9 => h9) rfl dX9_makes_129 ?_
          refine lv_iconst (v := 1) hx hb dX9_makes_132 (by decide) ?_
          refine lv_iadd hx hb dX9_makes_133 ?_
          refine b_topi (w := nI (((mkN true b f k) + 1) + 1)) (nI_add ((mkN true b f k) + 1) 1) ?_
          refine m_put (C := RX9) (T := TX9) (N := 33) (ci := 9) (v := .int (nI (((mkN true b f k) + 1) + 1))) (ft := .int) hx hb hts in_X9_makes_X9 tyX9 tyX9_ok nmX9 hown hB (hL 1000 (by decide)) ((va_up_ne _ _ (by decide)).trans (va_up_self _ _ _)) rfl 32 (by decide) (hts (.fieldLink RX9 127 "PaperRoomModel" "madeSize" "I") (by decide +kernel)) (fun _ h9 => h9) rfl (by decide +kernel) rfl rfl (Nat.le_of_ble_eq_true rfl) dX9_makes_134 (fun H locs hB => ?_)
          replace hB : m_B D ty A s L ad (va_up (va_up (va_up (va_up (va_up (va_up g 1032 (.inl (ty 0, 80, .inl (mkF true b f (a 31) k)))) 1000 (.inr (9, [.int (nI dn), .ref (ad 1002), .int nw, .ref (ad 1004), .ref (ad 1005), .int (nI pn), .ref (ad 1007), .ref (ad 1008), .ref (ad 1009), .ref (ad 1010), .ref (ad 1011), .ref (ad 1012), .ref (ad 1013), .ref (ad 1014), .ref (ad 1015), .ref (ad 1016), .int (nI en), .int lo, .ref (ad 1019), .ref (ad 1020), .ref (ad 1021), .ref (ad 1022), .int (nI qn), .ref (ad 1024), .ref (ad 1025), .ref (ad 1026), .ref (ad 1027), .ref (ad 1028), .ref (ad 1029), .ref (ad 1030), .long tr, .ref (ad 1032), .int (nI (mkN true b f k))]))) 1032 (.inl (ty 0, 80, .inl (upd (mkF true b f (a 31) k) (mkN true b f k) (f k))))) 1000 (.inr (9, [.int (nI dn), .ref (ad 1002), .int nw, .ref (ad 1004), .ref (ad 1005), .int (nI pn), .ref (ad 1007), .ref (ad 1008), .ref (ad 1009), .ref (ad 1010), .ref (ad 1011), .ref (ad 1012), .ref (ad 1013), .ref (ad 1014), .ref (ad 1015), .ref (ad 1016), .int (nI en), .int lo, .ref (ad 1019), .ref (ad 1020), .ref (ad 1021), .ref (ad 1022), .int (nI qn), .ref (ad 1024), .ref (ad 1025), .ref (ad 1026), .ref (ad 1027), .ref (ad 1028), .ref (ad 1029), .ref (ad 1030), .long tr, .ref (ad 1032), .int (nI ((mkN true b f k) + 1))]))) 1032 (.inl (ty 0, 80, .inl (upd (upd (mkF true b f (a 31) k) (mkN true b f k) (f k)) ((mkN true b f k) + 1) 32)))) 1000 (.inr (9, [.int (nI dn), .ref (ad 1002), .int nw, .ref (ad 1004), .ref (ad 1005), .int (nI pn), .ref (ad 1007), .ref (ad 1008), .ref (ad 1009), .ref (ad 1010), .ref (ad 1011), .ref (ad 1012), .ref (ad 1013), .ref (ad 1014), .ref (ad 1015), .ref (ad 1016), .int (nI en), .int lo, .ref (ad 1019), .ref (ad 1020), .ref (ad 1021), .ref (ad 1022), .int (nI qn), .ref (ad 1024), .ref (ad 1025), .ref (ad 1026), .ref (ad 1027), .ref (ad 1028), .ref (ad 1029), .ref (ad 1030), .long tr, .ref (ad 1032), .int (nI (((mkN true b f k) + 1) + 1))]))) H locs := hB
          refine lv_iinc (v := nI (mkS f (k + 1))) (lv' := [(5, .int (nI (mkS f (k + 1)))), (7, .int (f k)), (0, .ref (ad 1000)), (1, .int b), (2, .int (nI j)), (4, .int (nI ((4 * j) + k0))), (6, .int (nI k))]) hx hb dX9_makes_137 hl (k := 5) rfl (by rw [mkS_1 h32]; exact nI_add _ 1) (by decide) rfl (fun ls hl => ?_)
          refine lv_iinc (v := nI (k + 1)) (lv' := [(6, .int (nI (k + 1))), (5, .int (nI (mkS f (k + 1)))), (7, .int (f k)), (0, .ref (ad 1000)), (1, .int b), (2, .int (nI j)), (4, .int (nI ((4 * j) + k0)))]) hx hb dX9_makes_140 hl (k := 6) rfl (nI_add k 1) (by decide) rfl (fun ls hl => ?_)
          refine lv_goto (tgt := 18) hx hb dX9_makes_143 (by decide) ?_
          have eN := mkN_2 (z := true) (b := b) (f := f) (k := k) (by rw [dt h32, hd]; rfl)
          have eF := mkF_2 (z := true) (b := b) (f := f) (base := a 31) (k := k) (by rw [dt h32, hd]; rfl)
          have hB : m_B D ty A s L ad (va_up (va_up g 1032 (.inl (ty 0, 80, .inl (mkF true b f (a 31) (k + 1))))) 1000 (.inr (9, [.int (nI dn), .ref (ad 1002), .int nw, .ref (ad 1004), .ref (ad 1005), .int (nI pn), .ref (ad 1007), .ref (ad 1008), .ref (ad 1009), .ref (ad 1010), .ref (ad 1011), .ref (ad 1012), .ref (ad 1013), .ref (ad 1014), .ref (ad 1015), .ref (ad 1016), .int (nI en), .int lo, .ref (ad 1019), .ref (ad 1020), .ref (ad 1021), .ref (ad 1022), .int (nI qn), .ref (ad 1024), .ref (ad 1025), .ref (ad 1026), .ref (ad 1027), .ref (ad 1028), .ref (ad 1029), .ref (ad 1030), .long tr, .ref (ad 1032), .int (nI (mkN true b f (k + 1)))]))) H locs := by
            rw [up_4 (by decide), up_4 (by decide)] at hB; rw [eN, ← eF]; exact hB
          have hl : lv_has ls 8 [(0, .ref (ad 1000)), (1, .int b), (2, .int (nI j)), (4, .int (nI ((4 * j) + k0))), (5, .int (nI (mkS f (k + 1)))), (6, .int (nI (k + 1)))] := lv_sub hl [3, 4, 5, 6, 1, 0] rfl
          apply ihj (k := (k + 1)) (H := H) (locs := locs) (ls := ls) <;> first | omega | exact hB | exact hl
        · skip
          refine lv_istore (lv' := [(7, .int (f k)), (0, .ref (ad 1000)), (1, .int b), (2, .int (nI j)), (4, .int (nI ((4 * j) + k0))), (5, .int (nI (mkS f k))), (6, .int (nI k))]) hx hb dX9_makes_64 hl (by decide) rfl (fun ls hl => ?_)
          refine lv_aload_n hx hb dX9_makes_66 rfl (lv_at hl 1 rfl) ?_
          refine m_get (C := RX9) (T := TX9) (N := 33) (ci := 9) hx hb hts in_X9_makes_X9 hown hB (hL 1000 (by decide)) (va_up_self _ _ _) rfl 31 (by decide) (hts (.fieldLink RX9 83 "PaperRoomModel" "made" "[I") (by decide +kernel)) (fun _ h9 => h9) rfl dX9_makes_67 ?_
          refine lv_aload_n hx hb dX9_makes_70 rfl (lv_at hl 1 rfl) ?_
          refine m_get (C := RX9) (T := TX9) (N := 33) (ci := 9) hx hb hts in_X9_makes_X9 hown hB (hL 1000 (by decide)) (va_up_self _ _ _) rfl 32 (by decide) (hts (.fieldLink RX9 127 "PaperRoomModel" "madeSize" "I") (by decide +kernel)) (fun _ h9 => h9) rfl dX9_makes_71 ?_
          refine lv_iload hx hb dX9_makes_74 (lv_at hl 0 rfl) ?_
          refine n_iast hx hb hB (hL 1032 (by decide)) ((va_up_ne _ _ (by decide)).trans (va_up_self _ _ _)) (mkN true b f k) rfl (by omega) (by omega) dX9_makes_76 (fun H locs hB => ?_)
          replace hB : m_B D ty A s L ad (va_up (va_up (va_up g 1032 (.inl (ty 0, 80, .inl (mkF true b f (a 31) k)))) 1000 (.inr (9, [.int (nI dn), .ref (ad 1002), .int nw, .ref (ad 1004), .ref (ad 1005), .int (nI pn), .ref (ad 1007), .ref (ad 1008), .ref (ad 1009), .ref (ad 1010), .ref (ad 1011), .ref (ad 1012), .ref (ad 1013), .ref (ad 1014), .ref (ad 1015), .ref (ad 1016), .int (nI en), .int lo, .ref (ad 1019), .ref (ad 1020), .ref (ad 1021), .ref (ad 1022), .int (nI qn), .ref (ad 1024), .ref (ad 1025), .ref (ad 1026), .ref (ad 1027), .ref (ad 1028), .ref (ad 1029), .ref (ad 1030), .long tr, .ref (ad 1032), .int (nI (mkN true b f k))]))) 1032 (.inl (ty 0, 80, .inl (upd (mkF true b f (a 31) k) (mkN true b f k) (f k))))) H locs := hB
          refine lv_aload_n hx hb dX9_makes_77 rfl (lv_at hl 1 rfl) ?_
          refine lv_dup hx hb dX9_makes_78 rfl ?_
          refine m_get (C := RX9) (T := TX9) (N := 33) (ci := 9) hx hb hts in_X9_makes_X9 hown hB (hL 1000 (by decide)) ((va_up_ne _ _ (by decide)).trans (va_up_self _ _ _)) rfl 32 (by decide) (hts (.fieldLink RX9 127 "PaperRoomModel" "madeSize" "I") (by decide +kernel)) (fun _ h9 => h9) rfl dX9_makes_79 ?_
          refine lv_iconst (v := 1) hx hb dX9_makes_82 (by decide) ?_
          refine lv_iadd hx hb dX9_makes_83 ?_
          refine b_topi (w := nI ((mkN true b f k) + 1)) (nI_add (mkN true b f k) 1) ?_
          refine m_put (C := RX9) (T := TX9) (N := 33) (ci := 9) (v := .int (nI ((mkN true b f k) + 1))) (ft := .int) hx hb hts in_X9_makes_X9 tyX9 tyX9_ok nmX9 hown hB (hL 1000 (by decide)) ((va_up_ne _ _ (by decide)).trans (va_up_self _ _ _)) rfl 32 (by decide) (hts (.fieldLink RX9 127 "PaperRoomModel" "madeSize" "I") (by decide +kernel)) (fun _ h9 => h9) rfl (by decide +kernel) rfl rfl (Nat.le_of_ble_eq_true rfl) dX9_makes_84 (fun H locs hB => ?_)
          replace hB : m_B D ty A s L ad (va_up (va_up (va_up (va_up g 1032 (.inl (ty 0, 80, .inl (mkF true b f (a 31) k)))) 1000 (.inr (9, [.int (nI dn), .ref (ad 1002), .int nw, .ref (ad 1004), .ref (ad 1005), .int (nI pn), .ref (ad 1007), .ref (ad 1008), .ref (ad 1009), .ref (ad 1010), .ref (ad 1011), .ref (ad 1012), .ref (ad 1013), .ref (ad 1014), .ref (ad 1015), .ref (ad 1016), .int (nI en), .int lo, .ref (ad 1019), .ref (ad 1020), .ref (ad 1021), .ref (ad 1022), .int (nI qn), .ref (ad 1024), .ref (ad 1025), .ref (ad 1026), .ref (ad 1027), .ref (ad 1028), .ref (ad 1029), .ref (ad 1030), .long tr, .ref (ad 1032), .int (nI (mkN true b f k))]))) 1032 (.inl (ty 0, 80, .inl (upd (mkF true b f (a 31) k) (mkN true b f k) (f k))))) 1000 (.inr (9, [.int (nI dn), .ref (ad 1002), .int nw, .ref (ad 1004), .ref (ad 1005), .int (nI pn), .ref (ad 1007), .ref (ad 1008), .ref (ad 1009), .ref (ad 1010), .ref (ad 1011), .ref (ad 1012), .ref (ad 1013), .ref (ad 1014), .ref (ad 1015), .ref (ad 1016), .int (nI en), .int lo, .ref (ad 1019), .ref (ad 1020), .ref (ad 1021), .ref (ad 1022), .int (nI qn), .ref (ad 1024), .ref (ad 1025), .ref (ad 1026), .ref (ad 1027), .ref (ad 1028), .ref (ad 1029), .ref (ad 1030), .long tr, .ref (ad 1032), .int (nI ((mkN true b f k) + 1))]))) H locs := hB
          refine lv_aload_n hx hb dX9_makes_87 rfl (lv_at hl 1 rfl) ?_
          refine m_get (C := RX9) (T := TX9) (N := 33) (ci := 9) hx hb hts in_X9_makes_X9 hown hB (hL 1000 (by decide)) (va_up_self _ _ _) rfl 6 (by decide) (hts (.fieldLink RX9 19 "PaperRoomModel" "kind" "[I") (by decide +kernel)) (fun _ h9 => h9) rfl dX9_makes_88 ?_
          refine lv_iload_n hx hb dX9_makes_91 rfl (lv_at hl 3 rfl) ?_
          refine n_iald hx hb hB (hL 1007 (by decide)) ((va_up_ne _ _ (by decide)).trans ((va_up_ne _ _ (by decide)).trans ((va_up_ne _ _ (by decide)).trans ((va_up_ne _ _ (by decide)).trans h_1007)))) j rfl (by omega) (by omega) dX9_makes_92 ?_
          refine lv_iconst (v := 2) hx hb dX9_makes_93 (by decide) ?_
          refine b_icmp_ne_f 140 hx hb dX9_makes_94 (by decide) (by rw [hkd]) ?_
          refine lv_iload hx hb dX9_makes_97 (lv_at hl 0 rfl) ?_
          refine lv_bipush (v := 32) hx hb dX9_makes_99 (by decide) ?_
          refine b_icmp_ne_f 140 hx hb dX9_makes_101 (by decide) (by rw [h32]) ?_
          refine lv_iload_n hx hb dX9_makes_104 rfl (lv_at hl 2 rfl) ?_
          refine lv_iload hx hb dX9_makes_105 (lv_at hl 5 rfl) ?_
          refine lv_iconst (v := 3) hx hb dX9_makes_107 (by decide) ?_
          refine lv_irem hx hb dX9_makes_108 (by decide) ?_
          refine lv_ishr hx hb dX9_makes_109 ?_
          refine lv_iconst (v := 1) hx hb dX9_makes_110 (by decide) ?_
          refine lv_iand hx hb dX9_makes_111 ?_
          refine lv_iconst (v := 1) hx hb dX9_makes_112 (by decide) ?_
          refine b_icmp_ne_t 137 hx hb dX9_makes_113 (by decide) (fun h8 => of_decide_eq_false hd ((i_eq _ _).mpr h8)) ?_
          refine lv_iinc (v := nI (mkS f (k + 1))) (lv' := [(5, .int (nI (mkS f (k + 1)))), (7, .int (f k)), (0, .ref (ad 1000)), (1, .int b), (2, .int (nI j)), (4, .int (nI ((4 * j) + k0))), (6, .int (nI k))]) hx hb dX9_makes_137 hl (k := 5) rfl (by rw [mkS_1 h32]; exact nI_add _ 1) (by decide) rfl (fun ls hl => ?_)
          refine lv_iinc (v := nI (k + 1)) (lv' := [(6, .int (nI (k + 1))), (5, .int (nI (mkS f (k + 1)))), (7, .int (f k)), (0, .ref (ad 1000)), (1, .int b), (2, .int (nI j)), (4, .int (nI ((4 * j) + k0)))]) hx hb dX9_makes_140 hl (k := 6) rfl (nI_add k 1) (by decide) rfl (fun ls hl => ?_)
          refine lv_goto (tgt := 18) hx hb dX9_makes_143 (by decide) ?_
          have eN := mkN_1 (z := true) (b := b) (f := f) (k := k) (by rw [hd]; simp)
          have eF := mkF_1 (z := true) (b := b) (f := f) (base := a 31) (k := k) (by rw [hd]; simp)
          have hB : m_B D ty A s L ad (va_up (va_up g 1032 (.inl (ty 0, 80, .inl (mkF true b f (a 31) (k + 1))))) 1000 (.inr (9, [.int (nI dn), .ref (ad 1002), .int nw, .ref (ad 1004), .ref (ad 1005), .int (nI pn), .ref (ad 1007), .ref (ad 1008), .ref (ad 1009), .ref (ad 1010), .ref (ad 1011), .ref (ad 1012), .ref (ad 1013), .ref (ad 1014), .ref (ad 1015), .ref (ad 1016), .int (nI en), .int lo, .ref (ad 1019), .ref (ad 1020), .ref (ad 1021), .ref (ad 1022), .int (nI qn), .ref (ad 1024), .ref (ad 1025), .ref (ad 1026), .ref (ad 1027), .ref (ad 1028), .ref (ad 1029), .ref (ad 1030), .long tr, .ref (ad 1032), .int (nI (mkN true b f (k + 1)))]))) H locs := by
            rw [up_4 (by decide)] at hB; rw [eN, ← eF]; exact hB
          have hl : lv_has ls 8 [(0, .ref (ad 1000)), (1, .int b), (2, .int (nI j)), (4, .int (nI ((4 * j) + k0))), (5, .int (nI (mkS f (k + 1)))), (6, .int (nI (k + 1)))] := lv_sub hl [3, 4, 5, 6, 1, 0] rfl
          apply ihj (k := (k + 1)) (H := H) (locs := locs) (ls := ls) <;> first | omega | exact hB | exact hl
      · skip
        refine lv_istore (lv' := [(7, .int (f k)), (0, .ref (ad 1000)), (1, .int b), (2, .int (nI j)), (4, .int (nI ((4 * j) + k0))), (5, .int (nI (mkS f k))), (6, .int (nI k))]) hx hb dX9_makes_64 hl (by decide) rfl (fun ls hl => ?_)
        refine lv_aload_n hx hb dX9_makes_66 rfl (lv_at hl 1 rfl) ?_
        refine m_get (C := RX9) (T := TX9) (N := 33) (ci := 9) hx hb hts in_X9_makes_X9 hown hB (hL 1000 (by decide)) (va_up_self _ _ _) rfl 31 (by decide) (hts (.fieldLink RX9 83 "PaperRoomModel" "made" "[I") (by decide +kernel)) (fun _ h9 => h9) rfl dX9_makes_67 ?_
        refine lv_aload_n hx hb dX9_makes_70 rfl (lv_at hl 1 rfl) ?_
        refine m_get (C := RX9) (T := TX9) (N := 33) (ci := 9) hx hb hts in_X9_makes_X9 hown hB (hL 1000 (by decide)) (va_up_self _ _ _) rfl 32 (by decide) (hts (.fieldLink RX9 127 "PaperRoomModel" "madeSize" "I") (by decide +kernel)) (fun _ h9 => h9) rfl dX9_makes_71 ?_
        refine lv_iload hx hb dX9_makes_74 (lv_at hl 0 rfl) ?_
        refine n_iast hx hb hB (hL 1032 (by decide)) ((va_up_ne _ _ (by decide)).trans (va_up_self _ _ _)) (mkN true b f k) rfl (by omega) (by omega) dX9_makes_76 (fun H locs hB => ?_)
        replace hB : m_B D ty A s L ad (va_up (va_up (va_up g 1032 (.inl (ty 0, 80, .inl (mkF true b f (a 31) k)))) 1000 (.inr (9, [.int (nI dn), .ref (ad 1002), .int nw, .ref (ad 1004), .ref (ad 1005), .int (nI pn), .ref (ad 1007), .ref (ad 1008), .ref (ad 1009), .ref (ad 1010), .ref (ad 1011), .ref (ad 1012), .ref (ad 1013), .ref (ad 1014), .ref (ad 1015), .ref (ad 1016), .int (nI en), .int lo, .ref (ad 1019), .ref (ad 1020), .ref (ad 1021), .ref (ad 1022), .int (nI qn), .ref (ad 1024), .ref (ad 1025), .ref (ad 1026), .ref (ad 1027), .ref (ad 1028), .ref (ad 1029), .ref (ad 1030), .long tr, .ref (ad 1032), .int (nI (mkN true b f k))]))) 1032 (.inl (ty 0, 80, .inl (upd (mkF true b f (a 31) k) (mkN true b f k) (f k))))) H locs := hB
        refine lv_aload_n hx hb dX9_makes_77 rfl (lv_at hl 1 rfl) ?_
        refine lv_dup hx hb dX9_makes_78 rfl ?_
        refine m_get (C := RX9) (T := TX9) (N := 33) (ci := 9) hx hb hts in_X9_makes_X9 hown hB (hL 1000 (by decide)) ((va_up_ne _ _ (by decide)).trans (va_up_self _ _ _)) rfl 32 (by decide) (hts (.fieldLink RX9 127 "PaperRoomModel" "madeSize" "I") (by decide +kernel)) (fun _ h9 => h9) rfl dX9_makes_79 ?_
        refine lv_iconst (v := 1) hx hb dX9_makes_82 (by decide) ?_
        refine lv_iadd hx hb dX9_makes_83 ?_
        refine b_topi (w := nI ((mkN true b f k) + 1)) (nI_add (mkN true b f k) 1) ?_
        refine m_put (C := RX9) (T := TX9) (N := 33) (ci := 9) (v := .int (nI ((mkN true b f k) + 1))) (ft := .int) hx hb hts in_X9_makes_X9 tyX9 tyX9_ok nmX9 hown hB (hL 1000 (by decide)) ((va_up_ne _ _ (by decide)).trans (va_up_self _ _ _)) rfl 32 (by decide) (hts (.fieldLink RX9 127 "PaperRoomModel" "madeSize" "I") (by decide +kernel)) (fun _ h9 => h9) rfl (by decide +kernel) rfl rfl (Nat.le_of_ble_eq_true rfl) dX9_makes_84 (fun H locs hB => ?_)
        replace hB : m_B D ty A s L ad (va_up (va_up (va_up (va_up g 1032 (.inl (ty 0, 80, .inl (mkF true b f (a 31) k)))) 1000 (.inr (9, [.int (nI dn), .ref (ad 1002), .int nw, .ref (ad 1004), .ref (ad 1005), .int (nI pn), .ref (ad 1007), .ref (ad 1008), .ref (ad 1009), .ref (ad 1010), .ref (ad 1011), .ref (ad 1012), .ref (ad 1013), .ref (ad 1014), .ref (ad 1015), .ref (ad 1016), .int (nI en), .int lo, .ref (ad 1019), .ref (ad 1020), .ref (ad 1021), .ref (ad 1022), .int (nI qn), .ref (ad 1024), .ref (ad 1025), .ref (ad 1026), .ref (ad 1027), .ref (ad 1028), .ref (ad 1029), .ref (ad 1030), .long tr, .ref (ad 1032), .int (nI (mkN true b f k))]))) 1032 (.inl (ty 0, 80, .inl (upd (mkF true b f (a 31) k) (mkN true b f k) (f k))))) 1000 (.inr (9, [.int (nI dn), .ref (ad 1002), .int nw, .ref (ad 1004), .ref (ad 1005), .int (nI pn), .ref (ad 1007), .ref (ad 1008), .ref (ad 1009), .ref (ad 1010), .ref (ad 1011), .ref (ad 1012), .ref (ad 1013), .ref (ad 1014), .ref (ad 1015), .ref (ad 1016), .int (nI en), .int lo, .ref (ad 1019), .ref (ad 1020), .ref (ad 1021), .ref (ad 1022), .int (nI qn), .ref (ad 1024), .ref (ad 1025), .ref (ad 1026), .ref (ad 1027), .ref (ad 1028), .ref (ad 1029), .ref (ad 1030), .long tr, .ref (ad 1032), .int (nI ((mkN true b f k) + 1))]))) H locs := hB
        refine lv_aload_n hx hb dX9_makes_87 rfl (lv_at hl 1 rfl) ?_
        refine m_get (C := RX9) (T := TX9) (N := 33) (ci := 9) hx hb hts in_X9_makes_X9 hown hB (hL 1000 (by decide)) (va_up_self _ _ _) rfl 6 (by decide) (hts (.fieldLink RX9 19 "PaperRoomModel" "kind" "[I") (by decide +kernel)) (fun _ h9 => h9) rfl dX9_makes_88 ?_
        refine lv_iload_n hx hb dX9_makes_91 rfl (lv_at hl 3 rfl) ?_
        refine n_iald hx hb hB (hL 1007 (by decide)) ((va_up_ne _ _ (by decide)).trans ((va_up_ne _ _ (by decide)).trans ((va_up_ne _ _ (by decide)).trans ((va_up_ne _ _ (by decide)).trans h_1007)))) j rfl (by omega) (by omega) dX9_makes_92 ?_
        refine lv_iconst (v := 2) hx hb dX9_makes_93 (by decide) ?_
        refine b_icmp_ne_f 140 hx hb dX9_makes_94 (by decide) (by rw [hkd]) ?_
        refine lv_iload hx hb dX9_makes_97 (lv_at hl 0 rfl) ?_
        refine lv_bipush (v := 32) hx hb dX9_makes_99 (by decide) ?_
        refine b_icmp_ne_t 140 hx hb dX9_makes_101 (by decide) (fun h8 => h32 ((i_eq _ _).mpr h8)) ?_
        refine lv_iinc (v := nI (k + 1)) (lv' := [(6, .int (nI (k + 1))), (7, .int (f k)), (0, .ref (ad 1000)), (1, .int b), (2, .int (nI j)), (4, .int (nI ((4 * j) + k0))), (5, .int (nI (mkS f k)))]) hx hb dX9_makes_140 hl (k := 6) rfl (nI_add k 1) (by decide) rfl (fun ls hl => ?_)
        refine lv_goto (tgt := 18) hx hb dX9_makes_143 (by decide) ?_
        have eS := mkS_0 h32
        rw [← eS] at hl
        have eN := mkN_1 (z := true) (b := b) (f := f) (k := k) (by rw [df h32]; simp)
        have eF := mkF_1 (z := true) (b := b) (f := f) (base := a 31) (k := k) (by rw [df h32]; simp)
        have hB : m_B D ty A s L ad (va_up (va_up g 1032 (.inl (ty 0, 80, .inl (mkF true b f (a 31) (k + 1))))) 1000 (.inr (9, [.int (nI dn), .ref (ad 1002), .int nw, .ref (ad 1004), .ref (ad 1005), .int (nI pn), .ref (ad 1007), .ref (ad 1008), .ref (ad 1009), .ref (ad 1010), .ref (ad 1011), .ref (ad 1012), .ref (ad 1013), .ref (ad 1014), .ref (ad 1015), .ref (ad 1016), .int (nI en), .int lo, .ref (ad 1019), .ref (ad 1020), .ref (ad 1021), .ref (ad 1022), .int (nI qn), .ref (ad 1024), .ref (ad 1025), .ref (ad 1026), .ref (ad 1027), .ref (ad 1028), .ref (ad 1029), .ref (ad 1030), .long tr, .ref (ad 1032), .int (nI (mkN true b f (k + 1)))]))) H locs := by
          rw [up_4 (by decide)] at hB; rw [eN, ← eF]; exact hB
        have hl : lv_has ls 8 [(0, .ref (ad 1000)), (1, .int b), (2, .int (nI j)), (4, .int (nI ((4 * j) + k0))), (5, .int (nI (mkS f (k + 1)))), (6, .int (nI (k + 1)))] := lv_sub hl [2, 3, 4, 5, 6, 0] rfl
        apply ihj (k := (k + 1)) (H := H) (locs := locs) (ls := ls) <;> first | omega | exact hB | exact hl
    · skip
      refine lv_iload hx hb dX9_makes_18 (lv_at hl 5 rfl) ?_
      refine lv_aload_n hx hb dX9_makes_20 rfl (lv_at hl 0 rfl) ?_
      refine m_get (C := RX9) (T := TX9) (N := 33) (ci := 9) hx hb hts in_X9_makes_X9 hown hB (hL 1000 (by decide)) (va_up_self _ _ _) rfl 11 (by decide) (hts (.fieldLink RX9 35 "PaperRoomModel" "size" "[I") (by decide +kernel)) (fun _ h9 => h9) rfl dX9_makes_21 ?_
      refine lv_iload hx hb dX9_makes_24 (lv_at hl 3 rfl) ?_
      refine n_iald hx hb hB (hL 1012 (by decide)) ((va_up_ne _ _ (by decide)).trans ((va_up_ne _ _ (by decide)).trans h_1012)) ((4 * j) + k0) rfl (by omega) (by omega) dX9_makes_26 ?_
      refine b_topi (w := nI n) (hsz) ?_
      refine b_icmp_ge_f 146 hx hb dX9_makes_27 (by decide) (by omega) ?_
      refine lv_aload_n hx hb dX9_makes_30 rfl (lv_at hl 0 rfl) ?_
      refine m_get (C := RX9) (T := TX9) (N := 33) (ci := 9) hx hb hts in_X9_makes_X9 hown hB (hL 1000 (by decide)) (va_up_self _ _ _) rfl 13 (by decide) (hts (.fieldLink RX9 41 "PaperRoomModel" "isBlack" "[Z") (by decide +kernel)) (fun _ h9 => h9) rfl dX9_makes_31 ?_
      refine lv_bipush (v := 40) hx hb dX9_makes_34 (by decide) ?_
      refine lv_iload hx hb dX9_makes_36 (lv_at hl 3 rfl) ?_
      refine lv_imul hx hb dX9_makes_38 ?_
      refine b_topi (w := nI (40 * ((4 * j) + k0))) (pk_mul 40 ((4 * j) + k0)) ?_
      refine lv_iload hx hb dX9_makes_39 (lv_at hl 5 rfl) ?_
      refine lv_iadd hx hb dX9_makes_41 ?_
      refine b_topi (w := nI ((40 * ((4 * j) + k0)) + k)) (nI_add (40 * ((4 * j) + k0)) k) ?_
      refine n_zald hx hb hB (hL 1014 (by decide)) ((va_up_ne _ _ (by decide)).trans ((va_up_ne _ _ (by decide)).trans h_1014)) ((40 * ((4 * j) + k0)) + k) rfl (by omega) (by omega) dX9_makes_42 ?_
      refine b_if_eq_f 51 hx hb dX9_makes_43 (by decide) (fun h8 => hz ((i_eq _ _).mpr h8)) ?_
      refine lv_bipush (v := 35) hx hb dX9_makes_46 (by decide) ?_
      refine lv_goto (tgt := 64) hx hb dX9_makes_48 (by decide) ?_
      refine b_topi (w := f k) (by rw [hf k hjl, pl, if_neg hz]) ?_
      by_cases h32 : f k = 32
      · skip
        rcases bool2 (dbl b (mkS f k)) with hd | hd
        · skip
          refine lv_istore (lv' := [(7, .int (f k)), (0, .ref (ad 1000)), (1, .int b), (2, .int (nI j)), (4, .int (nI ((4 * j) + k0))), (5, .int (nI (mkS f k))), (6, .int (nI k))]) hx hb dX9_makes_64 hl (by decide) rfl (fun ls hl => ?_)
          refine lv_aload_n hx hb dX9_makes_66 rfl (lv_at hl 1 rfl) ?_
          refine m_get (C := RX9) (T := TX9) (N := 33) (ci := 9) hx hb hts in_X9_makes_X9 hown hB (hL 1000 (by decide)) (va_up_self _ _ _) rfl 31 (by decide) (hts (.fieldLink RX9 83 "PaperRoomModel" "made" "[I") (by decide +kernel)) (fun _ h9 => h9) rfl dX9_makes_67 ?_
          refine lv_aload_n hx hb dX9_makes_70 rfl (lv_at hl 1 rfl) ?_
          refine m_get (C := RX9) (T := TX9) (N := 33) (ci := 9) hx hb hts in_X9_makes_X9 hown hB (hL 1000 (by decide)) (va_up_self _ _ _) rfl 32 (by decide) (hts (.fieldLink RX9 127 "PaperRoomModel" "madeSize" "I") (by decide +kernel)) (fun _ h9 => h9) rfl dX9_makes_71 ?_
          refine lv_iload hx hb dX9_makes_74 (lv_at hl 0 rfl) ?_
          refine n_iast hx hb hB (hL 1032 (by decide)) ((va_up_ne _ _ (by decide)).trans (va_up_self _ _ _)) (mkN true b f k) rfl (by omega) (by omega) dX9_makes_76 (fun H locs hB => ?_)
          replace hB : m_B D ty A s L ad (va_up (va_up (va_up g 1032 (.inl (ty 0, 80, .inl (mkF true b f (a 31) k)))) 1000 (.inr (9, [.int (nI dn), .ref (ad 1002), .int nw, .ref (ad 1004), .ref (ad 1005), .int (nI pn), .ref (ad 1007), .ref (ad 1008), .ref (ad 1009), .ref (ad 1010), .ref (ad 1011), .ref (ad 1012), .ref (ad 1013), .ref (ad 1014), .ref (ad 1015), .ref (ad 1016), .int (nI en), .int lo, .ref (ad 1019), .ref (ad 1020), .ref (ad 1021), .ref (ad 1022), .int (nI qn), .ref (ad 1024), .ref (ad 1025), .ref (ad 1026), .ref (ad 1027), .ref (ad 1028), .ref (ad 1029), .ref (ad 1030), .long tr, .ref (ad 1032), .int (nI (mkN true b f k))]))) 1032 (.inl (ty 0, 80, .inl (upd (mkF true b f (a 31) k) (mkN true b f k) (f k))))) H locs := hB
          refine lv_aload_n hx hb dX9_makes_77 rfl (lv_at hl 1 rfl) ?_
          refine lv_dup hx hb dX9_makes_78 rfl ?_
          refine m_get (C := RX9) (T := TX9) (N := 33) (ci := 9) hx hb hts in_X9_makes_X9 hown hB (hL 1000 (by decide)) ((va_up_ne _ _ (by decide)).trans (va_up_self _ _ _)) rfl 32 (by decide) (hts (.fieldLink RX9 127 "PaperRoomModel" "madeSize" "I") (by decide +kernel)) (fun _ h9 => h9) rfl dX9_makes_79 ?_
          refine lv_iconst (v := 1) hx hb dX9_makes_82 (by decide) ?_
          refine lv_iadd hx hb dX9_makes_83 ?_
          refine b_topi (w := nI ((mkN true b f k) + 1)) (nI_add (mkN true b f k) 1) ?_
          refine m_put (C := RX9) (T := TX9) (N := 33) (ci := 9) (v := .int (nI ((mkN true b f k) + 1))) (ft := .int) hx hb hts in_X9_makes_X9 tyX9 tyX9_ok nmX9 hown hB (hL 1000 (by decide)) ((va_up_ne _ _ (by decide)).trans (va_up_self _ _ _)) rfl 32 (by decide) (hts (.fieldLink RX9 127 "PaperRoomModel" "madeSize" "I") (by decide +kernel)) (fun _ h9 => h9) rfl (by decide +kernel) rfl rfl (Nat.le_of_ble_eq_true rfl) dX9_makes_84 (fun H locs hB => ?_)
          replace hB : m_B D ty A s L ad (va_up (va_up (va_up (va_up g 1032 (.inl (ty 0, 80, .inl (mkF true b f (a 31) k)))) 1000 (.inr (9, [.int (nI dn), .ref (ad 1002), .int nw, .ref (ad 1004), .ref (ad 1005), .int (nI pn), .ref (ad 1007), .ref (ad 1008), .ref (ad 1009), .ref (ad 1010), .ref (ad 1011), .ref (ad 1012), .ref (ad 1013), .ref (ad 1014), .ref (ad 1015), .ref (ad 1016), .int (nI en), .int lo, .ref (ad 1019), .ref (ad 1020), .ref (ad 1021), .ref (ad 1022), .int (nI qn), .ref (ad 1024), .ref (ad 1025), .ref (ad 1026), .ref (ad 1027), .ref (ad 1028), .ref (ad 1029), .ref (ad 1030), .long tr, .ref (ad 1032), .int (nI (mkN true b f k))]))) 1032 (.inl (ty 0, 80, .inl (upd (mkF true b f (a 31) k) (mkN true b f k) (f k))))) 1000 (.inr (9, [.int (nI dn), .ref (ad 1002), .int nw, .ref (ad 1004), .ref (ad 1005), .int (nI pn), .ref (ad 1007), .ref (ad 1008), .ref (ad 1009), .ref (ad 1010), .ref (ad 1011), .ref (ad 1012), .ref (ad 1013), .ref (ad 1014), .ref (ad 1015), .ref (ad 1016), .int (nI en), .int lo, .ref (ad 1019), .ref (ad 1020), .ref (ad 1021), .ref (ad 1022), .int (nI qn), .ref (ad 1024), .ref (ad 1025), .ref (ad 1026), .ref (ad 1027), .ref (ad 1028), .ref (ad 1029), .ref (ad 1030), .long tr, .ref (ad 1032), .int (nI ((mkN true b f k) + 1))]))) H locs := hB
          refine lv_aload_n hx hb dX9_makes_87 rfl (lv_at hl 1 rfl) ?_
          refine m_get (C := RX9) (T := TX9) (N := 33) (ci := 9) hx hb hts in_X9_makes_X9 hown hB (hL 1000 (by decide)) (va_up_self _ _ _) rfl 6 (by decide) (hts (.fieldLink RX9 19 "PaperRoomModel" "kind" "[I") (by decide +kernel)) (fun _ h9 => h9) rfl dX9_makes_88 ?_
          refine lv_iload_n hx hb dX9_makes_91 rfl (lv_at hl 3 rfl) ?_
          refine n_iald hx hb hB (hL 1007 (by decide)) ((va_up_ne _ _ (by decide)).trans ((va_up_ne _ _ (by decide)).trans ((va_up_ne _ _ (by decide)).trans ((va_up_ne _ _ (by decide)).trans h_1007)))) j rfl (by omega) (by omega) dX9_makes_92 ?_
          refine lv_iconst (v := 2) hx hb dX9_makes_93 (by decide) ?_
          refine b_icmp_ne_f 140 hx hb dX9_makes_94 (by decide) (by rw [hkd]) ?_
          refine lv_iload hx hb dX9_makes_97 (lv_at hl 0 rfl) ?_
          refine lv_bipush (v := 32) hx hb dX9_makes_99 (by decide) ?_
          refine b_icmp_ne_f 140 hx hb dX9_makes_101 (by decide) (by rw [h32]) ?_
          refine lv_iload_n hx hb dX9_makes_104 rfl (lv_at hl 2 rfl) ?_
          refine lv_iload hx hb dX9_makes_105 (lv_at hl 5 rfl) ?_
          refine lv_iconst (v := 3) hx hb dX9_makes_107 (by decide) ?_
          refine lv_irem hx hb dX9_makes_108 (by decide) ?_
          refine lv_ishr hx hb dX9_makes_109 ?_
          refine lv_iconst (v := 1) hx hb dX9_makes_110 (by decide) ?_
          refine lv_iand hx hb dX9_makes_111 ?_
          refine lv_iconst (v := 1) hx hb dX9_makes_112 (by decide) ?_
          refine b_icmp_ne_f 137 hx hb dX9_makes_113 (by decide) (by rw [of_decide_eq_true hd]) ?_
          refine lv_aload_n hx hb dX9_makes_116 rfl (lv_at hl 1 rfl) ?_
          refine m_get (C := RX9) (T := TX9) (N := 33) (ci := 9) hx hb hts in_X9_makes_X9 hown hB (hL 1000 (by decide)) (va_up_self _ _ _) rfl 31 (by decide) (hts (.fieldLink RX9 83 "PaperRoomModel" "made" "[I") (by decide +kernel)) (fun _ h9 => h9) rfl dX9_makes_117 ?_
          refine lv_aload_n hx hb dX9_makes_120 rfl (lv_at hl 1 rfl) ?_
          refine m_get (C := RX9) (T := TX9) (N := 33) (ci := 9) hx hb hts in_X9_makes_X9 hown hB (hL 1000 (by decide)) (va_up_self _ _ _) rfl 32 (by decide) (hts (.fieldLink RX9 127 "PaperRoomModel" "madeSize" "I") (by decide +kernel)) (fun _ h9 => h9) rfl dX9_makes_121 ?_
          refine lv_bipush (v := 32) hx hb dX9_makes_124 (by decide) ?_
          refine n_iast hx hb hB (hL 1032 (by decide)) ((va_up_ne _ _ (by decide)).trans (va_up_self _ _ _)) ((mkN true b f k) + 1) rfl (by omega) (by omega) dX9_makes_126 (fun H locs hB => ?_)
          replace hB : m_B D ty A s L ad (va_up (va_up (va_up (va_up (va_up g 1032 (.inl (ty 0, 80, .inl (mkF true b f (a 31) k)))) 1000 (.inr (9, [.int (nI dn), .ref (ad 1002), .int nw, .ref (ad 1004), .ref (ad 1005), .int (nI pn), .ref (ad 1007), .ref (ad 1008), .ref (ad 1009), .ref (ad 1010), .ref (ad 1011), .ref (ad 1012), .ref (ad 1013), .ref (ad 1014), .ref (ad 1015), .ref (ad 1016), .int (nI en), .int lo, .ref (ad 1019), .ref (ad 1020), .ref (ad 1021), .ref (ad 1022), .int (nI qn), .ref (ad 1024), .ref (ad 1025), .ref (ad 1026), .ref (ad 1027), .ref (ad 1028), .ref (ad 1029), .ref (ad 1030), .long tr, .ref (ad 1032), .int (nI (mkN true b f k))]))) 1032 (.inl (ty 0, 80, .inl (upd (mkF true b f (a 31) k) (mkN true b f k) (f k))))) 1000 (.inr (9, [.int (nI dn), .ref (ad 1002), .int nw, .ref (ad 1004), .ref (ad 1005), .int (nI pn), .ref (ad 1007), .ref (ad 1008), .ref (ad 1009), .ref (ad 1010), .ref (ad 1011), .ref (ad 1012), .ref (ad 1013), .ref (ad 1014), .ref (ad 1015), .ref (ad 1016), .int (nI en), .int lo, .ref (ad 1019), .ref (ad 1020), .ref (ad 1021), .ref (ad 1022), .int (nI qn), .ref (ad 1024), .ref (ad 1025), .ref (ad 1026), .ref (ad 1027), .ref (ad 1028), .ref (ad 1029), .ref (ad 1030), .long tr, .ref (ad 1032), .int (nI ((mkN true b f k) + 1))]))) 1032 (.inl (ty 0, 80, .inl (upd (upd (mkF true b f (a 31) k) (mkN true b f k) (f k)) ((mkN true b f k) + 1) 32)))) H locs := hB
          refine lv_aload_n hx hb dX9_makes_127 rfl (lv_at hl 1 rfl) ?_
          refine lv_dup hx hb dX9_makes_128 rfl ?_
          refine m_get (C := RX9) (T := TX9) (N := 33) (ci := 9) hx hb hts in_X9_makes_X9 hown hB (hL 1000 (by decide)) ((va_up_ne _ _ (by decide)).trans (va_up_self _ _ _)) rfl 32 (by decide) (hts (.fieldLink RX9 127 "PaperRoomModel" "madeSize" "I") (by decide +kernel)) (fun _ h9 => h9) rfl dX9_makes_129 ?_
          refine lv_iconst (v := 1) hx hb dX9_makes_132 (by decide) ?_
          refine lv_iadd hx hb dX9_makes_133 ?_
          refine b_topi (w := nI (((mkN true b f k) + 1) + 1)) (nI_add ((mkN true b f k) + 1) 1) ?_
          refine m_put (C := RX9) (T := TX9) (N := 33) (ci := 9) (v := .int (nI (((mkN true b f k) + 1) + 1))) (ft := .int) hx hb hts in_X9_makes_X9 tyX9 tyX9_ok nmX9 hown hB (hL 1000 (by decide)) ((va_up_ne _ _ (by decide)).trans (va_up_self _ _ _)) rfl 32 (by decide) (hts (.fieldLink RX9 127 "PaperRoomModel" "madeSize" "I") (by decide +kernel)) (fun _ h9 => h9) rfl (by decide +kernel) rfl rfl (Nat.le_of_ble_eq_true rfl) dX9_makes_134 (fun H locs hB => ?_)
          replace hB : m_B D ty A s L ad (va_up (va_up (va_up (va_up (va_up (va_up g 1032 (.inl (ty 0, 80, .inl (mkF true b f (a 31) k)))) 1000 (.inr (9, [.int (nI dn), .ref (ad 1002), .int nw, .ref (ad 1004), .ref (ad 1005), .int (nI pn), .ref (ad 1007), .ref (ad 1008), .ref (ad 1009), .ref (ad 1010), .ref (ad 1011), .ref (ad 1012), .ref (ad 1013), .ref (ad 1014), .ref (ad 1015), .ref (ad 1016), .int (nI en), .int lo, .ref (ad 1019), .ref (ad 1020), .ref (ad 1021), .ref (ad 1022), .int (nI qn), .ref (ad 1024), .ref (ad 1025), .ref (ad 1026), .ref (ad 1027), .ref (ad 1028), .ref (ad 1029), .ref (ad 1030), .long tr, .ref (ad 1032), .int (nI (mkN true b f k))]))) 1032 (.inl (ty 0, 80, .inl (upd (mkF true b f (a 31) k) (mkN true b f k) (f k))))) 1000 (.inr (9, [.int (nI dn), .ref (ad 1002), .int nw, .ref (ad 1004), .ref (ad 1005), .int (nI pn), .ref (ad 1007), .ref (ad 1008), .ref (ad 1009), .ref (ad 1010), .ref (ad 1011), .ref (ad 1012), .ref (ad 1013), .ref (ad 1014), .ref (ad 1015), .ref (ad 1016), .int (nI en), .int lo, .ref (ad 1019), .ref (ad 1020), .ref (ad 1021), .ref (ad 1022), .int (nI qn), .ref (ad 1024), .ref (ad 1025), .ref (ad 1026), .ref (ad 1027), .ref (ad 1028), .ref (ad 1029), .ref (ad 1030), .long tr, .ref (ad 1032), .int (nI ((mkN true b f k) + 1))]))) 1032 (.inl (ty 0, 80, .inl (upd (upd (mkF true b f (a 31) k) (mkN true b f k) (f k)) ((mkN true b f k) + 1) 32)))) 1000 (.inr (9, [.int (nI dn), .ref (ad 1002), .int nw, .ref (ad 1004), .ref (ad 1005), .int (nI pn), .ref (ad 1007), .ref (ad 1008), .ref (ad 1009), .ref (ad 1010), .ref (ad 1011), .ref (ad 1012), .ref (ad 1013), .ref (ad 1014), .ref (ad 1015), .ref (ad 1016), .int (nI en), .int lo, .ref (ad 1019), .ref (ad 1020), .ref (ad 1021), .ref (ad 1022), .int (nI qn), .ref (ad 1024), .ref (ad 1025), .ref (ad 1026), .ref (ad 1027), .ref (ad 1028), .ref (ad 1029), .ref (ad 1030), .long tr, .ref (ad 1032), .int (nI (((mkN true b f k) + 1) + 1))]))) H locs := hB
          refine lv_iinc (v := nI (mkS f (k + 1))) (lv' := [(5, .int (nI (mkS f (k + 1)))), (7, .int (f k)), (0, .ref (ad 1000)), (1, .int b), (2, .int (nI j)), (4, .int (nI ((4 * j) + k0))), (6, .int (nI k))]) hx hb dX9_makes_137 hl (k := 5) rfl (by rw [mkS_1 h32]; exact nI_add _ 1) (by decide) rfl (fun ls hl => ?_)
          refine lv_iinc (v := nI (k + 1)) (lv' := [(6, .int (nI (k + 1))), (5, .int (nI (mkS f (k + 1)))), (7, .int (f k)), (0, .ref (ad 1000)), (1, .int b), (2, .int (nI j)), (4, .int (nI ((4 * j) + k0)))]) hx hb dX9_makes_140 hl (k := 6) rfl (nI_add k 1) (by decide) rfl (fun ls hl => ?_)
          refine lv_goto (tgt := 18) hx hb dX9_makes_143 (by decide) ?_
          have eN := mkN_2 (z := true) (b := b) (f := f) (k := k) (by rw [dt h32, hd]; rfl)
          have eF := mkF_2 (z := true) (b := b) (f := f) (base := a 31) (k := k) (by rw [dt h32, hd]; rfl)
          have hB : m_B D ty A s L ad (va_up (va_up g 1032 (.inl (ty 0, 80, .inl (mkF true b f (a 31) (k + 1))))) 1000 (.inr (9, [.int (nI dn), .ref (ad 1002), .int nw, .ref (ad 1004), .ref (ad 1005), .int (nI pn), .ref (ad 1007), .ref (ad 1008), .ref (ad 1009), .ref (ad 1010), .ref (ad 1011), .ref (ad 1012), .ref (ad 1013), .ref (ad 1014), .ref (ad 1015), .ref (ad 1016), .int (nI en), .int lo, .ref (ad 1019), .ref (ad 1020), .ref (ad 1021), .ref (ad 1022), .int (nI qn), .ref (ad 1024), .ref (ad 1025), .ref (ad 1026), .ref (ad 1027), .ref (ad 1028), .ref (ad 1029), .ref (ad 1030), .long tr, .ref (ad 1032), .int (nI (mkN true b f (k + 1)))]))) H locs := by
            rw [up_4 (by decide), up_4 (by decide)] at hB; rw [eN, ← eF]; exact hB
          have hl : lv_has ls 8 [(0, .ref (ad 1000)), (1, .int b), (2, .int (nI j)), (4, .int (nI ((4 * j) + k0))), (5, .int (nI (mkS f (k + 1)))), (6, .int (nI (k + 1)))] := lv_sub hl [3, 4, 5, 6, 1, 0] rfl
          apply ihj (k := (k + 1)) (H := H) (locs := locs) (ls := ls) <;> first | omega | exact hB | exact hl
        · skip
          refine lv_istore (lv' := [(7, .int (f k)), (0, .ref (ad 1000)), (1, .int b), (2, .int (nI j)), (4, .int (nI ((4 * j) + k0))), (5, .int (nI (mkS f k))), (6, .int (nI k))]) hx hb dX9_makes_64 hl (by decide) rfl (fun ls hl => ?_)
          refine lv_aload_n hx hb dX9_makes_66 rfl (lv_at hl 1 rfl) ?_
          refine m_get (C := RX9) (T := TX9) (N := 33) (ci := 9) hx hb hts in_X9_makes_X9 hown hB (hL 1000 (by decide)) (va_up_self _ _ _) rfl 31 (by decide) (hts (.fieldLink RX9 83 "PaperRoomModel" "made" "[I") (by decide +kernel)) (fun _ h9 => h9) rfl dX9_makes_67 ?_
          refine lv_aload_n hx hb dX9_makes_70 rfl (lv_at hl 1 rfl) ?_
          refine m_get (C := RX9) (T := TX9) (N := 33) (ci := 9) hx hb hts in_X9_makes_X9 hown hB (hL 1000 (by decide)) (va_up_self _ _ _) rfl 32 (by decide) (hts (.fieldLink RX9 127 "PaperRoomModel" "madeSize" "I") (by decide +kernel)) (fun _ h9 => h9) rfl dX9_makes_71 ?_
          refine lv_iload hx hb dX9_makes_74 (lv_at hl 0 rfl) ?_
          refine n_iast hx hb hB (hL 1032 (by decide)) ((va_up_ne _ _ (by decide)).trans (va_up_self _ _ _)) (mkN true b f k) rfl (by omega) (by omega) dX9_makes_76 (fun H locs hB => ?_)
          replace hB : m_B D ty A s L ad (va_up (va_up (va_up g 1032 (.inl (ty 0, 80, .inl (mkF true b f (a 31) k)))) 1000 (.inr (9, [.int (nI dn), .ref (ad 1002), .int nw, .ref (ad 1004), .ref (ad 1005), .int (nI pn), .ref (ad 1007), .ref (ad 1008), .ref (ad 1009), .ref (ad 1010), .ref (ad 1011), .ref (ad 1012), .ref (ad 1013), .ref (ad 1014), .ref (ad 1015), .ref (ad 1016), .int (nI en), .int lo, .ref (ad 1019), .ref (ad 1020), .ref (ad 1021), .ref (ad 1022), .int (nI qn), .ref (ad 1024), .ref (ad 1025), .ref (ad 1026), .ref (ad 1027), .ref (ad 1028), .ref (ad 1029), .ref (ad 1030), .long tr, .ref (ad 1032), .int (nI (mkN true b f k))]))) 1032 (.inl (ty 0, 80, .inl (upd (mkF true b f (a 31) k) (mkN true b f k) (f k))))) H locs := hB
          refine lv_aload_n hx hb dX9_makes_77 rfl (lv_at hl 1 rfl) ?_
          refine lv_dup hx hb dX9_makes_78 rfl ?_
          refine m_get (C := RX9) (T := TX9) (N := 33) (ci := 9) hx hb hts in_X9_makes_X9 hown hB (hL 1000 (by decide)) ((va_up_ne _ _ (by decide)).trans (va_up_self _ _ _)) rfl 32 (by decide) (hts (.fieldLink RX9 127 "PaperRoomModel" "madeSize" "I") (by decide +kernel)) (fun _ h9 => h9) rfl dX9_makes_79 ?_
          refine lv_iconst (v := 1) hx hb dX9_makes_82 (by decide) ?_
          refine lv_iadd hx hb dX9_makes_83 ?_
          refine b_topi (w := nI ((mkN true b f k) + 1)) (nI_add (mkN true b f k) 1) ?_
          refine m_put (C := RX9) (T := TX9) (N := 33) (ci := 9) (v := .int (nI ((mkN true b f k) + 1))) (ft := .int) hx hb hts in_X9_makes_X9 tyX9 tyX9_ok nmX9 hown hB (hL 1000 (by decide)) ((va_up_ne _ _ (by decide)).trans (va_up_self _ _ _)) rfl 32 (by decide) (hts (.fieldLink RX9 127 "PaperRoomModel" "madeSize" "I") (by decide +kernel)) (fun _ h9 => h9) rfl (by decide +kernel) rfl rfl (Nat.le_of_ble_eq_true rfl) dX9_makes_84 (fun H locs hB => ?_)
          replace hB : m_B D ty A s L ad (va_up (va_up (va_up (va_up g 1032 (.inl (ty 0, 80, .inl (mkF true b f (a 31) k)))) 1000 (.inr (9, [.int (nI dn), .ref (ad 1002), .int nw, .ref (ad 1004), .ref (ad 1005), .int (nI pn), .ref (ad 1007), .ref (ad 1008), .ref (ad 1009), .ref (ad 1010), .ref (ad 1011), .ref (ad 1012), .ref (ad 1013), .ref (ad 1014), .ref (ad 1015), .ref (ad 1016), .int (nI en), .int lo, .ref (ad 1019), .ref (ad 1020), .ref (ad 1021), .ref (ad 1022), .int (nI qn), .ref (ad 1024), .ref (ad 1025), .ref (ad 1026), .ref (ad 1027), .ref (ad 1028), .ref (ad 1029), .ref (ad 1030), .long tr, .ref (ad 1032), .int (nI (mkN true b f k))]))) 1032 (.inl (ty 0, 80, .inl (upd (mkF true b f (a 31) k) (mkN true b f k) (f k))))) 1000 (.inr (9, [.int (nI dn), .ref (ad 1002), .int nw, .ref (ad 1004), .ref (ad 1005), .int (nI pn), .ref (ad 1007), .ref (ad 1008), .ref (ad 1009), .ref (ad 1010), .ref (ad 1011), .ref (ad 1012), .ref (ad 1013), .ref (ad 1014), .ref (ad 1015), .ref (ad 1016), .int (nI en), .int lo, .ref (ad 1019), .ref (ad 1020), .ref (ad 1021), .ref (ad 1022), .int (nI qn), .ref (ad 1024), .ref (ad 1025), .ref (ad 1026), .ref (ad 1027), .ref (ad 1028), .ref (ad 1029), .ref (ad 1030), .long tr, .ref (ad 1032), .int (nI ((mkN true b f k) + 1))]))) H locs := hB
          refine lv_aload_n hx hb dX9_makes_87 rfl (lv_at hl 1 rfl) ?_
          refine m_get (C := RX9) (T := TX9) (N := 33) (ci := 9) hx hb hts in_X9_makes_X9 hown hB (hL 1000 (by decide)) (va_up_self _ _ _) rfl 6 (by decide) (hts (.fieldLink RX9 19 "PaperRoomModel" "kind" "[I") (by decide +kernel)) (fun _ h9 => h9) rfl dX9_makes_88 ?_
          refine lv_iload_n hx hb dX9_makes_91 rfl (lv_at hl 3 rfl) ?_
          refine n_iald hx hb hB (hL 1007 (by decide)) ((va_up_ne _ _ (by decide)).trans ((va_up_ne _ _ (by decide)).trans ((va_up_ne _ _ (by decide)).trans ((va_up_ne _ _ (by decide)).trans h_1007)))) j rfl (by omega) (by omega) dX9_makes_92 ?_
          refine lv_iconst (v := 2) hx hb dX9_makes_93 (by decide) ?_
          refine b_icmp_ne_f 140 hx hb dX9_makes_94 (by decide) (by rw [hkd]) ?_
          refine lv_iload hx hb dX9_makes_97 (lv_at hl 0 rfl) ?_
          refine lv_bipush (v := 32) hx hb dX9_makes_99 (by decide) ?_
          refine b_icmp_ne_f 140 hx hb dX9_makes_101 (by decide) (by rw [h32]) ?_
          refine lv_iload_n hx hb dX9_makes_104 rfl (lv_at hl 2 rfl) ?_
          refine lv_iload hx hb dX9_makes_105 (lv_at hl 5 rfl) ?_
          refine lv_iconst (v := 3) hx hb dX9_makes_107 (by decide) ?_
          refine lv_irem hx hb dX9_makes_108 (by decide) ?_
          refine lv_ishr hx hb dX9_makes_109 ?_
          refine lv_iconst (v := 1) hx hb dX9_makes_110 (by decide) ?_
          refine lv_iand hx hb dX9_makes_111 ?_
          refine lv_iconst (v := 1) hx hb dX9_makes_112 (by decide) ?_
          refine b_icmp_ne_t 137 hx hb dX9_makes_113 (by decide) (fun h8 => of_decide_eq_false hd ((i_eq _ _).mpr h8)) ?_
          refine lv_iinc (v := nI (mkS f (k + 1))) (lv' := [(5, .int (nI (mkS f (k + 1)))), (7, .int (f k)), (0, .ref (ad 1000)), (1, .int b), (2, .int (nI j)), (4, .int (nI ((4 * j) + k0))), (6, .int (nI k))]) hx hb dX9_makes_137 hl (k := 5) rfl (by rw [mkS_1 h32]; exact nI_add _ 1) (by decide) rfl (fun ls hl => ?_)
          refine lv_iinc (v := nI (k + 1)) (lv' := [(6, .int (nI (k + 1))), (5, .int (nI (mkS f (k + 1)))), (7, .int (f k)), (0, .ref (ad 1000)), (1, .int b), (2, .int (nI j)), (4, .int (nI ((4 * j) + k0)))]) hx hb dX9_makes_140 hl (k := 6) rfl (nI_add k 1) (by decide) rfl (fun ls hl => ?_)
          refine lv_goto (tgt := 18) hx hb dX9_makes_143 (by decide) ?_
          have eN := mkN_1 (z := true) (b := b) (f := f) (k := k) (by rw [hd]; simp)
          have eF := mkF_1 (z := true) (b := b) (f := f) (base := a 31) (k := k) (by rw [hd]; simp)
          have hB : m_B D ty A s L ad (va_up (va_up g 1032 (.inl (ty 0, 80, .inl (mkF true b f (a 31) (k + 1))))) 1000 (.inr (9, [.int (nI dn), .ref (ad 1002), .int nw, .ref (ad 1004), .ref (ad 1005), .int (nI pn), .ref (ad 1007), .ref (ad 1008), .ref (ad 1009), .ref (ad 1010), .ref (ad 1011), .ref (ad 1012), .ref (ad 1013), .ref (ad 1014), .ref (ad 1015), .ref (ad 1016), .int (nI en), .int lo, .ref (ad 1019), .ref (ad 1020), .ref (ad 1021), .ref (ad 1022), .int (nI qn), .ref (ad 1024), .ref (ad 1025), .ref (ad 1026), .ref (ad 1027), .ref (ad 1028), .ref (ad 1029), .ref (ad 1030), .long tr, .ref (ad 1032), .int (nI (mkN true b f (k + 1)))]))) H locs := by
            rw [up_4 (by decide)] at hB; rw [eN, ← eF]; exact hB
          have hl : lv_has ls 8 [(0, .ref (ad 1000)), (1, .int b), (2, .int (nI j)), (4, .int (nI ((4 * j) + k0))), (5, .int (nI (mkS f (k + 1)))), (6, .int (nI (k + 1)))] := lv_sub hl [3, 4, 5, 6, 1, 0] rfl
          apply ihj (k := (k + 1)) (H := H) (locs := locs) (ls := ls) <;> first | omega | exact hB | exact hl
      · skip
        refine lv_istore (lv' := [(7, .int (f k)), (0, .ref (ad 1000)), (1, .int b), (2, .int (nI j)), (4, .int (nI ((4 * j) + k0))), (5, .int (nI (mkS f k))), (6, .int (nI k))]) hx hb dX9_makes_64 hl (by decide) rfl (fun ls hl => ?_)
        refine lv_aload_n hx hb dX9_makes_66 rfl (lv_at hl 1 rfl) ?_
        refine m_get (C := RX9) (T := TX9) (N := 33) (ci := 9) hx hb hts in_X9_makes_X9 hown hB (hL 1000 (by decide)) (va_up_self _ _ _) rfl 31 (by decide) (hts (.fieldLink RX9 83 "PaperRoomModel" "made" "[I") (by decide +kernel)) (fun _ h9 => h9) rfl dX9_makes_67 ?_
        refine lv_aload_n hx hb dX9_makes_70 rfl (lv_at hl 1 rfl) ?_
        refine m_get (C := RX9) (T := TX9) (N := 33) (ci := 9) hx hb hts in_X9_makes_X9 hown hB (hL 1000 (by decide)) (va_up_self _ _ _) rfl 32 (by decide) (hts (.fieldLink RX9 127 "PaperRoomModel" "madeSize" "I") (by decide +kernel)) (fun _ h9 => h9) rfl dX9_makes_71 ?_
        refine lv_iload hx hb dX9_makes_74 (lv_at hl 0 rfl) ?_
        refine n_iast hx hb hB (hL 1032 (by decide)) ((va_up_ne _ _ (by decide)).trans (va_up_self _ _ _)) (mkN true b f k) rfl (by omega) (by omega) dX9_makes_76 (fun H locs hB => ?_)
        replace hB : m_B D ty A s L ad (va_up (va_up (va_up g 1032 (.inl (ty 0, 80, .inl (mkF true b f (a 31) k)))) 1000 (.inr (9, [.int (nI dn), .ref (ad 1002), .int nw, .ref (ad 1004), .ref (ad 1005), .int (nI pn), .ref (ad 1007), .ref (ad 1008), .ref (ad 1009), .ref (ad 1010), .ref (ad 1011), .ref (ad 1012), .ref (ad 1013), .ref (ad 1014), .ref (ad 1015), .ref (ad 1016), .int (nI en), .int lo, .ref (ad 1019), .ref (ad 1020), .ref (ad 1021), .ref (ad 1022), .int (nI qn), .ref (ad 1024), .ref (ad 1025), .ref (ad 1026), .ref (ad 1027), .ref (ad 1028), .ref (ad 1029), .ref (ad 1030), .long tr, .ref (ad 1032), .int (nI (mkN true b f k))]))) 1032 (.inl (ty 0, 80, .inl (upd (mkF true b f (a 31) k) (mkN true b f k) (f k))))) H locs := hB
        refine lv_aload_n hx hb dX9_makes_77 rfl (lv_at hl 1 rfl) ?_
        refine lv_dup hx hb dX9_makes_78 rfl ?_
        refine m_get (C := RX9) (T := TX9) (N := 33) (ci := 9) hx hb hts in_X9_makes_X9 hown hB (hL 1000 (by decide)) ((va_up_ne _ _ (by decide)).trans (va_up_self _ _ _)) rfl 32 (by decide) (hts (.fieldLink RX9 127 "PaperRoomModel" "madeSize" "I") (by decide +kernel)) (fun _ h9 => h9) rfl dX9_makes_79 ?_
        refine lv_iconst (v := 1) hx hb dX9_makes_82 (by decide) ?_
        refine lv_iadd hx hb dX9_makes_83 ?_
        refine b_topi (w := nI ((mkN true b f k) + 1)) (nI_add (mkN true b f k) 1) ?_
        refine m_put (C := RX9) (T := TX9) (N := 33) (ci := 9) (v := .int (nI ((mkN true b f k) + 1))) (ft := .int) hx hb hts in_X9_makes_X9 tyX9 tyX9_ok nmX9 hown hB (hL 1000 (by decide)) ((va_up_ne _ _ (by decide)).trans (va_up_self _ _ _)) rfl 32 (by decide) (hts (.fieldLink RX9 127 "PaperRoomModel" "madeSize" "I") (by decide +kernel)) (fun _ h9 => h9) rfl (by decide +kernel) rfl rfl (Nat.le_of_ble_eq_true rfl) dX9_makes_84 (fun H locs hB => ?_)
        replace hB : m_B D ty A s L ad (va_up (va_up (va_up (va_up g 1032 (.inl (ty 0, 80, .inl (mkF true b f (a 31) k)))) 1000 (.inr (9, [.int (nI dn), .ref (ad 1002), .int nw, .ref (ad 1004), .ref (ad 1005), .int (nI pn), .ref (ad 1007), .ref (ad 1008), .ref (ad 1009), .ref (ad 1010), .ref (ad 1011), .ref (ad 1012), .ref (ad 1013), .ref (ad 1014), .ref (ad 1015), .ref (ad 1016), .int (nI en), .int lo, .ref (ad 1019), .ref (ad 1020), .ref (ad 1021), .ref (ad 1022), .int (nI qn), .ref (ad 1024), .ref (ad 1025), .ref (ad 1026), .ref (ad 1027), .ref (ad 1028), .ref (ad 1029), .ref (ad 1030), .long tr, .ref (ad 1032), .int (nI (mkN true b f k))]))) 1032 (.inl (ty 0, 80, .inl (upd (mkF true b f (a 31) k) (mkN true b f k) (f k))))) 1000 (.inr (9, [.int (nI dn), .ref (ad 1002), .int nw, .ref (ad 1004), .ref (ad 1005), .int (nI pn), .ref (ad 1007), .ref (ad 1008), .ref (ad 1009), .ref (ad 1010), .ref (ad 1011), .ref (ad 1012), .ref (ad 1013), .ref (ad 1014), .ref (ad 1015), .ref (ad 1016), .int (nI en), .int lo, .ref (ad 1019), .ref (ad 1020), .ref (ad 1021), .ref (ad 1022), .int (nI qn), .ref (ad 1024), .ref (ad 1025), .ref (ad 1026), .ref (ad 1027), .ref (ad 1028), .ref (ad 1029), .ref (ad 1030), .long tr, .ref (ad 1032), .int (nI ((mkN true b f k) + 1))]))) H locs := hB
        refine lv_aload_n hx hb dX9_makes_87 rfl (lv_at hl 1 rfl) ?_
        refine m_get (C := RX9) (T := TX9) (N := 33) (ci := 9) hx hb hts in_X9_makes_X9 hown hB (hL 1000 (by decide)) (va_up_self _ _ _) rfl 6 (by decide) (hts (.fieldLink RX9 19 "PaperRoomModel" "kind" "[I") (by decide +kernel)) (fun _ h9 => h9) rfl dX9_makes_88 ?_
        refine lv_iload_n hx hb dX9_makes_91 rfl (lv_at hl 3 rfl) ?_
        refine n_iald hx hb hB (hL 1007 (by decide)) ((va_up_ne _ _ (by decide)).trans ((va_up_ne _ _ (by decide)).trans ((va_up_ne _ _ (by decide)).trans ((va_up_ne _ _ (by decide)).trans h_1007)))) j rfl (by omega) (by omega) dX9_makes_92 ?_
        refine lv_iconst (v := 2) hx hb dX9_makes_93 (by decide) ?_
        refine b_icmp_ne_f 140 hx hb dX9_makes_94 (by decide) (by rw [hkd]) ?_
        refine lv_iload hx hb dX9_makes_97 (lv_at hl 0 rfl) ?_
        refine lv_bipush (v := 32) hx hb dX9_makes_99 (by decide) ?_
        refine b_icmp_ne_t 140 hx hb dX9_makes_101 (by decide) (fun h8 => h32 ((i_eq _ _).mpr h8)) ?_
        refine lv_iinc (v := nI (k + 1)) (lv' := [(6, .int (nI (k + 1))), (7, .int (f k)), (0, .ref (ad 1000)), (1, .int b), (2, .int (nI j)), (4, .int (nI ((4 * j) + k0))), (5, .int (nI (mkS f k)))]) hx hb dX9_makes_140 hl (k := 6) rfl (nI_add k 1) (by decide) rfl (fun ls hl => ?_)
        refine lv_goto (tgt := 18) hx hb dX9_makes_143 (by decide) ?_
        have eS := mkS_0 h32
        rw [← eS] at hl
        have eN := mkN_1 (z := true) (b := b) (f := f) (k := k) (by rw [df h32]; simp)
        have eF := mkF_1 (z := true) (b := b) (f := f) (base := a 31) (k := k) (by rw [df h32]; simp)
        have hB : m_B D ty A s L ad (va_up (va_up g 1032 (.inl (ty 0, 80, .inl (mkF true b f (a 31) (k + 1))))) 1000 (.inr (9, [.int (nI dn), .ref (ad 1002), .int nw, .ref (ad 1004), .ref (ad 1005), .int (nI pn), .ref (ad 1007), .ref (ad 1008), .ref (ad 1009), .ref (ad 1010), .ref (ad 1011), .ref (ad 1012), .ref (ad 1013), .ref (ad 1014), .ref (ad 1015), .ref (ad 1016), .int (nI en), .int lo, .ref (ad 1019), .ref (ad 1020), .ref (ad 1021), .ref (ad 1022), .int (nI qn), .ref (ad 1024), .ref (ad 1025), .ref (ad 1026), .ref (ad 1027), .ref (ad 1028), .ref (ad 1029), .ref (ad 1030), .long tr, .ref (ad 1032), .int (nI (mkN true b f (k + 1)))]))) H locs := by
          rw [up_4 (by decide)] at hB; rw [eN, ← eF]; exact hB
        have hl : lv_has ls 8 [(0, .ref (ad 1000)), (1, .int b), (2, .int (nI j)), (4, .int (nI ((4 * j) + k0))), (5, .int (nI (mkS f (k + 1)))), (6, .int (nI (k + 1)))] := lv_sub hl [2, 3, 4, 5, 6, 0] rfl
        apply ihj (k := (k + 1)) (H := H) (locs := locs) (ls := ls) <;> first | omega | exact hB | exact hl
set_option maxHeartbeats 1000000 in
set_option maxRecDepth 100000 in
theorem c_M_makes_f (l : Launch) (D : va_G) (ty : Nat → ClassId) (L : List Nat) (ad : Nat → Nat) (g : Nat → va_E) (a : Nat → Nat → Int32) (dn pn en qn mz : Nat) (nw lo : Int32) (tr : Int64) (b : Int32) (j k0 n : Nat) (f : Nat → Int32) (hM : RM ty L ad g a dn pn en qn mz nw lo tr) (hj8 : j < 8) (hk4 : k0 < 4) (hsz : a 11 (4 * j + k0) = nI n) (hn40 : n ≤ 40) (hf : ∀ i, i < n → f i = pl (a 12 (40 * (4 * j + k0) + i)) (a 13 (40 * (4 * j + k0) + i))) (hkd : ¬ a 6 j = 2) : m_C l yX9_makes wsX9_makes 0 0 0 0 D ty [.ref (ad 1000), .int b, .int (nI j), .int (nI k0)] L ad g (fun v1 L1 ad1 g1 => v1 = none ∧ L1 = L ∧ ad1 = ad ∧ (∀ x, x < 1000 → g1 x = g x) ∧ RM ty L ad g1 (va_up a 31 (mkF false b f (a 31) n)) dn pn en qn (mkN false b f n) nw lo tr) := by
  intro sz
  refine Met.ofW (cc := cX9_makes) (maxL := 8) (ret := none) (by decide) rfl ?_
  intro p e s m args below meth c s₁ B hml hv
  have hx := B.exec
  have hb := B.bytes
  have hrt := B.returns
  have hts := atoms_spec (ws := wsX9_makes) B.pre
  have hown : s.vm.findClass RX9 = some m.cls := findClass_of_methodNamed B.named
  have hlocks := B.notSynchronized
  obtain ⟨rfl, hB⟩ := m_start hv
  generalize va_A (m_w L ad g) sz = A at hB ⊢
  generalize s.heap = H at hB ⊢
  generalize ([] : List Loc) = locs at hB ⊢
  have hl := lv_entry ([.ref (ad 1000), .int b, .int (nI j), .int (nI k0)]) (n := 8) (Nat.le_of_ble_eq_true rfl)
  rw [lg_entry_eq]
  generalize (lg_sl ([.ref (ad 1000), .int b, .int (nI j), .int (nI k0)]) ++ List.replicate (8 - (lg_sl ([.ref (ad 1000), .int b, .int (nI j), .int (nI k0)])).length) Slot.unset).toArray = ls at hl ⊢
  have hl : lv_has ls 8 [(0, .ref (ad 1000)), (1, .int b), (2, .int (nI j)), (3, .int (nI k0))] := hl
  obtain ⟨hL, h_1000, h_1002, h_1004, h_1005, h_1007, h_1008, h_1009, h_1010, h_1011, h_1012, h_1013, h_1014, h_1015, h_1016, h_1019, h_1020, h_1021, h_1022, h_1024, h_1025, h_1026, h_1027, h_1028, h_1029, h_1030, h_1032⟩ := id hM
  have tI_n : (nI n).toInt = (n : Int) := nI_toInt (by omega)
  refine lv_iconst (v := 4) hx hb dX9_makes_0 (by decide) ?_
  refine lv_iload_n hx hb dX9_makes_1 rfl (lv_at hl 2 rfl) ?_
  refine lv_imul hx hb dX9_makes_2 ?_
  refine b_topi (w := nI (4 * j)) (pk_mul 4 j) ?_
  refine lv_iload_n hx hb dX9_makes_3 rfl (lv_at hl 3 rfl) ?_
  refine lv_iadd hx hb dX9_makes_4 ?_
  refine b_topi (w := nI ((4 * j) + k0)) (nI_add (4 * j) k0) ?_
  refine lv_istore (lv' := [(4, .int (nI ((4 * j) + k0))), (0, .ref (ad 1000)), (1, .int b), (2, .int (nI j)), (3, .int (nI k0))]) hx hb dX9_makes_5 hl (by decide) rfl (fun ls hl => ?_)
  refine lv_iconst (v := 0) hx hb dX9_makes_7 (by decide) ?_
  refine lv_istore (lv' := [(5, .int 0), (4, .int (nI ((4 * j) + k0))), (0, .ref (ad 1000)), (1, .int b), (2, .int (nI j)), (3, .int (nI k0))]) hx hb dX9_makes_8 hl (by decide) rfl (fun ls hl => ?_)
  refine lv_aload_n hx hb dX9_makes_10 rfl (lv_at hl 2 rfl) ?_
  refine lv_iconst (v := 0) hx hb dX9_makes_11 (by decide) ?_
  refine m_put (C := RX9) (T := TX9) (N := 33) (ci := 9) (v := .int 0) (ft := .int) hx hb hts in_X9_makes_X9 tyX9 tyX9_ok nmX9 hown hB (hL 1000 (by decide)) h_1000 rfl 32 (by decide) (hts (.fieldLink RX9 127 "PaperRoomModel" "madeSize" "I") (by decide +kernel)) (fun _ h9 => h9) rfl (by decide +kernel) rfl rfl (Nat.le_of_ble_eq_true rfl) dX9_makes_12 (fun H locs hB => ?_)
  replace hB : m_B D ty A s L ad (va_up g 1000 (.inr (9, [.int (nI dn), .ref (ad 1002), .int nw, .ref (ad 1004), .ref (ad 1005), .int (nI pn), .ref (ad 1007), .ref (ad 1008), .ref (ad 1009), .ref (ad 1010), .ref (ad 1011), .ref (ad 1012), .ref (ad 1013), .ref (ad 1014), .ref (ad 1015), .ref (ad 1016), .int (nI en), .int lo, .ref (ad 1019), .ref (ad 1020), .ref (ad 1021), .ref (ad 1022), .int (nI qn), .ref (ad 1024), .ref (ad 1025), .ref (ad 1026), .ref (ad 1027), .ref (ad 1028), .ref (ad 1029), .ref (ad 1030), .long tr, .ref (ad 1032), .int 0]))) H locs := hB
  refine lv_iconst (v := 0) hx hb dX9_makes_15 (by decide) ?_
  refine lv_istore (lv' := [(6, .int 0), (5, .int 0), (4, .int (nI ((4 * j) + k0))), (0, .ref (ad 1000)), (1, .int b), (2, .int (nI j)), (3, .int (nI k0))]) hx hb dX9_makes_16 hl (by decide) rfl (fun ls hl => ?_)
  replace hl : lv_has ls 8 [(0, .ref (ad 1000)), (1, .int b), (2, .int (nI j)), (4, .int (nI ((4 * j) + k0))), (5, .int 0), (6, .int 0)] := lv_sub hl [3, 4, 5, 2, 1, 0] rfl
  obtain ⟨k, hk0⟩ : ∃ k : Nat, k = 0 := ⟨0, rfl⟩
  replace hB : m_B D ty A s L ad (va_up (va_up g 1032 (.inl (ty 0, 80, .inl (mkF false b f (a 31) k)))) 1000 (.inr (9, [.int (nI dn), .ref (ad 1002), .int nw, .ref (ad 1004), .ref (ad 1005), .int (nI pn), .ref (ad 1007), .ref (ad 1008), .ref (ad 1009), .ref (ad 1010), .ref (ad 1011), .ref (ad 1012), .ref (ad 1013), .ref (ad 1014), .ref (ad 1015), .ref (ad 1016), .int (nI en), .int lo, .ref (ad 1019), .ref (ad 1020), .ref (ad 1021), .ref (ad 1022), .int (nI qn), .ref (ad 1024), .ref (ad 1025), .ref (ad 1026), .ref (ad 1027), .ref (ad 1028), .ref (ad 1029), .ref (ad 1030), .long tr, .ref (ad 1032), .int (nI (mkN false b f k))]))) H locs := by
    rw [hk0]
    show m_B D ty A s L ad (va_up (va_up g 1032 (.inl (ty 0, 80, .inl (a 31)))) 1000 (.inr (9, [.int (nI dn), .ref (ad 1002), .int nw, .ref (ad 1004), .ref (ad 1005), .int (nI pn), .ref (ad 1007), .ref (ad 1008), .ref (ad 1009), .ref (ad 1010), .ref (ad 1011), .ref (ad 1012), .ref (ad 1013), .ref (ad 1014), .ref (ad 1015), .ref (ad 1016), .int (nI en), .int lo, .ref (ad 1019), .ref (ad 1020), .ref (ad 1021), .ref (ad 1022), .int (nI qn), .ref (ad 1024), .ref (ad 1025), .ref (ad 1026), .ref (ad 1027), .ref (ad 1028), .ref (ad 1029), .ref (ad 1030), .long tr, .ref (ad 1032), .int (nI 0)]))) H locs; rw [up_2 _ h_1032]; exact hB
  replace hl : lv_has ls 8 [(0, .ref (ad 1000)), (1, .int b), (2, .int (nI j)), (4, .int (nI ((4 * j) + k0))), (5, .int 0), (6, .int (nI k))] := by rw [hk0]; exact hl
  obtain ⟨jz, hj⟩ : ∃ jz : Nat, k + jz = n := ⟨n - k, by omega⟩
  clear hk0
  induction jz generalizing k H locs ls with
  | zero =>
    have hje : k = n := by omega
    have tI_k : (nI k).toInt = (k : Int) := nI_toInt (by omega)
    refine lv_iload hx hb dX9_makes_18 (lv_at hl 5 rfl) ?_
    refine lv_aload_n hx hb dX9_makes_20 rfl (lv_at hl 0 rfl) ?_
    refine m_get (C := RX9) (T := TX9) (N := 33) (ci := 9) hx hb hts in_X9_makes_X9 hown hB (hL 1000 (by decide)) (va_up_self _ _ _) rfl 11 (by decide) (hts (.fieldLink RX9 35 "PaperRoomModel" "size" "[I") (by decide +kernel)) (fun _ h9 => h9) rfl dX9_makes_21 ?_
    refine lv_iload hx hb dX9_makes_24 (lv_at hl 3 rfl) ?_
    refine n_iald hx hb hB (hL 1012 (by decide)) ((va_up_ne _ _ (by decide)).trans ((va_up_ne _ _ (by decide)).trans h_1012)) ((4 * j) + k0) rfl (by omega) (by omega) dX9_makes_26 ?_
    refine b_topi (w := nI n) (hsz) ?_
    refine b_icmp_ge_t 146 hx hb dX9_makes_27 (by decide) (by omega) ?_
    subst hje
    exact m_vret hx hb hrt hlocks hB (Nat.le_refl _) (Nat.le_refl _) dX9_makes_146 ⟨rfl, rfl, rfl, (fun x hx => ((va_up_ne _ _ (by omega)).trans (va_up_ne _ _ (by omega)))), ⟨hL, (va_up_self _ _ _), ((va_up_ne _ _ (by decide)).trans ((va_up_ne _ _ (by decide)).trans h_1002)), ((va_up_ne _ _ (by decide)).trans ((va_up_ne _ _ (by decide)).trans h_1004)), ((va_up_ne _ _ (by decide)).trans ((va_up_ne _ _ (by decide)).trans h_1005)), ((va_up_ne _ _ (by decide)).trans ((va_up_ne _ _ (by decide)).trans h_1007)), ((va_up_ne _ _ (by decide)).trans ((va_up_ne _ _ (by decide)).trans h_1008)), ((va_up_ne _ _ (by decide)).trans ((va_up_ne _ _ (by decide)).trans h_1009)), ((va_up_ne _ _ (by decide)).trans ((va_up_ne _ _ (by decide)).trans h_1010)), ((va_up_ne _ _ (by decide)).trans ((va_up_ne _ _ (by decide)).trans h_1011)), ((va_up_ne _ _ (by decide)).trans ((va_up_ne _ _ (by decide)).trans h_1012)), ((va_up_ne _ _ (by decide)).trans ((va_up_ne _ _ (by decide)).trans h_1013)), ((va_up_ne _ _ (by decide)).trans ((va_up_ne _ _ (by decide)).trans h_1014)), ((va_up_ne _ _ (by decide)).trans ((va_up_ne _ _ (by decide)).trans h_1015)), ((va_up_ne _ _ (by decide)).trans ((va_up_ne _ _ (by decide)).trans h_1016)), ((va_up_ne _ _ (by decide)).trans ((va_up_ne _ _ (by decide)).trans h_1019)), ((va_up_ne _ _ (by decide)).trans ((va_up_ne _ _ (by decide)).trans h_1020)), ((va_up_ne _ _ (by decide)).trans ((va_up_ne _ _ (by decide)).trans h_1021)), ((va_up_ne _ _ (by decide)).trans ((va_up_ne _ _ (by decide)).trans h_1022)), ((va_up_ne _ _ (by decide)).trans ((va_up_ne _ _ (by decide)).trans h_1024)), ((va_up_ne _ _ (by decide)).trans ((va_up_ne _ _ (by decide)).trans h_1025)), ((va_up_ne _ _ (by decide)).trans ((va_up_ne _ _ (by decide)).trans h_1026)), ((va_up_ne _ _ (by decide)).trans ((va_up_ne _ _ (by decide)).trans h_1027)), ((va_up_ne _ _ (by decide)).trans ((va_up_ne _ _ (by decide)).trans h_1028)), ((va_up_ne _ _ (by decide)).trans ((va_up_ne _ _ (by decide)).trans h_1029)), ((va_up_ne _ _ (by decide)).trans ((va_up_ne _ _ (by decide)).trans h_1030)), ((va_up_ne _ _ (by decide)).trans (va_up_self _ _ _))⟩⟩
  | succ jz ihj =>
    have hjl : k < n := by omega
    have tI_k : (nI k).toInt = (k : Int) := nI_toInt (by omega)
    have hN := mkN_le false b f k
    by_cases hz : a 13 ((40 * (4 * j + k0)) + k) = 0
    · skip
      refine lv_iload hx hb dX9_makes_18 (lv_at hl 5 rfl) ?_
      refine lv_aload_n hx hb dX9_makes_20 rfl (lv_at hl 0 rfl) ?_
      refine m_get (C := RX9) (T := TX9) (N := 33) (ci := 9) hx hb hts in_X9_makes_X9 hown hB (hL 1000 (by decide)) (va_up_self _ _ _) rfl 11 (by decide) (hts (.fieldLink RX9 35 "PaperRoomModel" "size" "[I") (by decide +kernel)) (fun _ h9 => h9) rfl dX9_makes_21 ?_
      refine lv_iload hx hb dX9_makes_24 (lv_at hl 3 rfl) ?_
      refine n_iald hx hb hB (hL 1012 (by decide)) ((va_up_ne _ _ (by decide)).trans ((va_up_ne _ _ (by decide)).trans h_1012)) ((4 * j) + k0) rfl (by omega) (by omega) dX9_makes_26 ?_
      refine b_topi (w := nI n) (hsz) ?_
      refine b_icmp_ge_f 146 hx hb dX9_makes_27 (by decide) (by omega) ?_
      refine lv_aload_n hx hb dX9_makes_30 rfl (lv_at hl 0 rfl) ?_
      refine m_get (C := RX9) (T := TX9) (N := 33) (ci := 9) hx hb hts in_X9_makes_X9 hown hB (hL 1000 (by decide)) (va_up_self _ _ _) rfl 13 (by decide) (hts (.fieldLink RX9 41 "PaperRoomModel" "isBlack" "[Z") (by decide +kernel)) (fun _ h9 => h9) rfl dX9_makes_31 ?_
      refine lv_bipush (v := 40) hx hb dX9_makes_34 (by decide) ?_
      refine lv_iload hx hb dX9_makes_36 (lv_at hl 3 rfl) ?_
      refine lv_imul hx hb dX9_makes_38 ?_
      refine b_topi (w := nI (40 * ((4 * j) + k0))) (pk_mul 40 ((4 * j) + k0)) ?_
      refine lv_iload hx hb dX9_makes_39 (lv_at hl 5 rfl) ?_
      refine lv_iadd hx hb dX9_makes_41 ?_
      refine b_topi (w := nI ((40 * ((4 * j) + k0)) + k)) (nI_add (40 * ((4 * j) + k0)) k) ?_
      refine n_zald hx hb hB (hL 1014 (by decide)) ((va_up_ne _ _ (by decide)).trans ((va_up_ne _ _ (by decide)).trans h_1014)) ((40 * ((4 * j) + k0)) + k) rfl (by omega) (by omega) dX9_makes_42 ?_
      refine b_if_eq_t 51 hx hb dX9_makes_43 (by decide) (by rw [hz]; decide) ?_
      refine lv_aload_n hx hb dX9_makes_51 rfl (lv_at hl 0 rfl) ?_
      refine m_get (C := RX9) (T := TX9) (N := 33) (ci := 9) hx hb hts in_X9_makes_X9 hown hB (hL 1000 (by decide)) (va_up_self _ _ _) rfl 12 (by decide) (hts (.fieldLink RX9 38 "PaperRoomModel" "text" "[I") (by decide +kernel)) (fun _ h9 => h9) rfl dX9_makes_52 ?_
      refine lv_bipush (v := 40) hx hb dX9_makes_55 (by decide) ?_
      refine lv_iload hx hb dX9_makes_57 (lv_at hl 3 rfl) ?_
      refine lv_imul hx hb dX9_makes_59 ?_
      refine b_topi (w := nI (40 * ((4 * j) + k0))) (pk_mul 40 ((4 * j) + k0)) ?_
      refine lv_iload hx hb dX9_makes_60 (lv_at hl 5 rfl) ?_
      refine lv_iadd hx hb dX9_makes_62 ?_
      refine b_topi (w := nI ((40 * ((4 * j) + k0)) + k)) (nI_add (40 * ((4 * j) + k0)) k) ?_
      refine n_iald hx hb hB (hL 1013 (by decide)) ((va_up_ne _ _ (by decide)).trans ((va_up_ne _ _ (by decide)).trans h_1013)) ((40 * ((4 * j) + k0)) + k) rfl (by omega) (by omega) dX9_makes_63 ?_
      refine b_topi (w := f k) (by rw [hf k hjl, hz]; rfl) ?_
      refine lv_istore (lv' := [(7, .int (f k)), (0, .ref (ad 1000)), (1, .int b), (2, .int (nI j)), (4, .int (nI ((4 * j) + k0))), (5, .int 0), (6, .int (nI k))]) hx hb dX9_makes_64 hl (by decide) rfl (fun ls hl => ?_)
      refine lv_aload_n hx hb dX9_makes_66 rfl (lv_at hl 1 rfl) ?_
      refine m_get (C := RX9) (T := TX9) (N := 33) (ci := 9) hx hb hts in_X9_makes_X9 hown hB (hL 1000 (by decide)) (va_up_self _ _ _) rfl 31 (by decide) (hts (.fieldLink RX9 83 "PaperRoomModel" "made" "[I") (by decide +kernel)) (fun _ h9 => h9) rfl dX9_makes_67 ?_
      refine lv_aload_n hx hb dX9_makes_70 rfl (lv_at hl 1 rfl) ?_
      refine m_get (C := RX9) (T := TX9) (N := 33) (ci := 9) hx hb hts in_X9_makes_X9 hown hB (hL 1000 (by decide)) (va_up_self _ _ _) rfl 32 (by decide) (hts (.fieldLink RX9 127 "PaperRoomModel" "madeSize" "I") (by decide +kernel)) (fun _ h9 => h9) rfl dX9_makes_71 ?_
      refine lv_iload hx hb dX9_makes_74 (lv_at hl 0 rfl) ?_
      refine n_iast hx hb hB (hL 1032 (by decide)) ((va_up_ne _ _ (by decide)).trans (va_up_self _ _ _)) (mkN false b f k) rfl (by omega) (by omega) dX9_makes_76 (fun H locs hB => ?_)
      replace hB : m_B D ty A s L ad (va_up (va_up (va_up g 1032 (.inl (ty 0, 80, .inl (mkF false b f (a 31) k)))) 1000 (.inr (9, [.int (nI dn), .ref (ad 1002), .int nw, .ref (ad 1004), .ref (ad 1005), .int (nI pn), .ref (ad 1007), .ref (ad 1008), .ref (ad 1009), .ref (ad 1010), .ref (ad 1011), .ref (ad 1012), .ref (ad 1013), .ref (ad 1014), .ref (ad 1015), .ref (ad 1016), .int (nI en), .int lo, .ref (ad 1019), .ref (ad 1020), .ref (ad 1021), .ref (ad 1022), .int (nI qn), .ref (ad 1024), .ref (ad 1025), .ref (ad 1026), .ref (ad 1027), .ref (ad 1028), .ref (ad 1029), .ref (ad 1030), .long tr, .ref (ad 1032), .int (nI (mkN false b f k))]))) 1032 (.inl (ty 0, 80, .inl (upd (mkF false b f (a 31) k) (mkN false b f k) (f k))))) H locs := hB
      refine lv_aload_n hx hb dX9_makes_77 rfl (lv_at hl 1 rfl) ?_
      refine lv_dup hx hb dX9_makes_78 rfl ?_
      refine m_get (C := RX9) (T := TX9) (N := 33) (ci := 9) hx hb hts in_X9_makes_X9 hown hB (hL 1000 (by decide)) ((va_up_ne _ _ (by decide)).trans (va_up_self _ _ _)) rfl 32 (by decide) (hts (.fieldLink RX9 127 "PaperRoomModel" "madeSize" "I") (by decide +kernel)) (fun _ h9 => h9) rfl dX9_makes_79 ?_
      refine lv_iconst (v := 1) hx hb dX9_makes_82 (by decide) ?_
      refine lv_iadd hx hb dX9_makes_83 ?_
      refine b_topi (w := nI ((mkN false b f k) + 1)) (nI_add (mkN false b f k) 1) ?_
      refine m_put (C := RX9) (T := TX9) (N := 33) (ci := 9) (v := .int (nI ((mkN false b f k) + 1))) (ft := .int) hx hb hts in_X9_makes_X9 tyX9 tyX9_ok nmX9 hown hB (hL 1000 (by decide)) ((va_up_ne _ _ (by decide)).trans (va_up_self _ _ _)) rfl 32 (by decide) (hts (.fieldLink RX9 127 "PaperRoomModel" "madeSize" "I") (by decide +kernel)) (fun _ h9 => h9) rfl (by decide +kernel) rfl rfl (Nat.le_of_ble_eq_true rfl) dX9_makes_84 (fun H locs hB => ?_)
      replace hB : m_B D ty A s L ad (va_up (va_up (va_up (va_up g 1032 (.inl (ty 0, 80, .inl (mkF false b f (a 31) k)))) 1000 (.inr (9, [.int (nI dn), .ref (ad 1002), .int nw, .ref (ad 1004), .ref (ad 1005), .int (nI pn), .ref (ad 1007), .ref (ad 1008), .ref (ad 1009), .ref (ad 1010), .ref (ad 1011), .ref (ad 1012), .ref (ad 1013), .ref (ad 1014), .ref (ad 1015), .ref (ad 1016), .int (nI en), .int lo, .ref (ad 1019), .ref (ad 1020), .ref (ad 1021), .ref (ad 1022), .int (nI qn), .ref (ad 1024), .ref (ad 1025), .ref (ad 1026), .ref (ad 1027), .ref (ad 1028), .ref (ad 1029), .ref (ad 1030), .long tr, .ref (ad 1032), .int (nI (mkN false b f k))]))) 1032 (.inl (ty 0, 80, .inl (upd (mkF false b f (a 31) k) (mkN false b f k) (f k))))) 1000 (.inr (9, [.int (nI dn), .ref (ad 1002), .int nw, .ref (ad 1004), .ref (ad 1005), .int (nI pn), .ref (ad 1007), .ref (ad 1008), .ref (ad 1009), .ref (ad 1010), .ref (ad 1011), .ref (ad 1012), .ref (ad 1013), .ref (ad 1014), .ref (ad 1015), .ref (ad 1016), .int (nI en), .int lo, .ref (ad 1019), .ref (ad 1020), .ref (ad 1021), .ref (ad 1022), .int (nI qn), .ref (ad 1024), .ref (ad 1025), .ref (ad 1026), .ref (ad 1027), .ref (ad 1028), .ref (ad 1029), .ref (ad 1030), .long tr, .ref (ad 1032), .int (nI ((mkN false b f k) + 1))]))) H locs := hB
      refine lv_aload_n hx hb dX9_makes_87 rfl (lv_at hl 1 rfl) ?_
      refine m_get (C := RX9) (T := TX9) (N := 33) (ci := 9) hx hb hts in_X9_makes_X9 hown hB (hL 1000 (by decide)) (va_up_self _ _ _) rfl 6 (by decide) (hts (.fieldLink RX9 19 "PaperRoomModel" "kind" "[I") (by decide +kernel)) (fun _ h9 => h9) rfl dX9_makes_88 ?_
      refine lv_iload_n hx hb dX9_makes_91 rfl (lv_at hl 3 rfl) ?_
      refine n_iald hx hb hB (hL 1007 (by decide)) ((va_up_ne _ _ (by decide)).trans ((va_up_ne _ _ (by decide)).trans ((va_up_ne _ _ (by decide)).trans ((va_up_ne _ _ (by decide)).trans h_1007)))) j rfl (by omega) (by omega) dX9_makes_92 ?_
      refine lv_iconst (v := 2) hx hb dX9_makes_93 (by decide) ?_
      refine b_icmp_ne_t 140 hx hb dX9_makes_94 (by decide) (fun h8 => hkd ((i_eq _ _).mpr h8)) ?_
      refine lv_iinc (v := nI (k + 1)) (lv' := [(6, .int (nI (k + 1))), (7, .int (f k)), (0, .ref (ad 1000)), (1, .int b), (2, .int (nI j)), (4, .int (nI ((4 * j) + k0))), (5, .int 0)]) hx hb dX9_makes_140 hl (k := 6) rfl (nI_add k 1) (by decide) rfl (fun ls hl => ?_)
      refine lv_goto (tgt := 18) hx hb dX9_makes_143 (by decide) ?_
      have eN := mkN_1 (z := false) (b := b) (f := f) (k := k) rfl
      have eF := mkF_1 (z := false) (b := b) (f := f) (base := a 31) (k := k) rfl
      have hB : m_B D ty A s L ad (va_up (va_up g 1032 (.inl (ty 0, 80, .inl (mkF false b f (a 31) (k + 1))))) 1000 (.inr (9, [.int (nI dn), .ref (ad 1002), .int nw, .ref (ad 1004), .ref (ad 1005), .int (nI pn), .ref (ad 1007), .ref (ad 1008), .ref (ad 1009), .ref (ad 1010), .ref (ad 1011), .ref (ad 1012), .ref (ad 1013), .ref (ad 1014), .ref (ad 1015), .ref (ad 1016), .int (nI en), .int lo, .ref (ad 1019), .ref (ad 1020), .ref (ad 1021), .ref (ad 1022), .int (nI qn), .ref (ad 1024), .ref (ad 1025), .ref (ad 1026), .ref (ad 1027), .ref (ad 1028), .ref (ad 1029), .ref (ad 1030), .long tr, .ref (ad 1032), .int (nI (mkN false b f (k + 1)))]))) H locs := by
        rw [up_4 (by decide)] at hB; rw [eN, ← eF]; exact hB
      have hl : lv_has ls 8 [(0, .ref (ad 1000)), (1, .int b), (2, .int (nI j)), (4, .int (nI ((4 * j) + k0))), (5, .int 0), (6, .int (nI (k + 1)))] := lv_sub hl [2, 3, 4, 5, 6, 0] rfl
      apply ihj (k := (k + 1)) (H := H) (locs := locs) (ls := ls) <;> first | omega | exact hB | exact hl
    · skip
      refine lv_iload hx hb dX9_makes_18 (lv_at hl 5 rfl) ?_
      refine lv_aload_n hx hb dX9_makes_20 rfl (lv_at hl 0 rfl) ?_
      refine m_get (C := RX9) (T := TX9) (N := 33) (ci := 9) hx hb hts in_X9_makes_X9 hown hB (hL 1000 (by decide)) (va_up_self _ _ _) rfl 11 (by decide) (hts (.fieldLink RX9 35 "PaperRoomModel" "size" "[I") (by decide +kernel)) (fun _ h9 => h9) rfl dX9_makes_21 ?_
      refine lv_iload hx hb dX9_makes_24 (lv_at hl 3 rfl) ?_
      refine n_iald hx hb hB (hL 1012 (by decide)) ((va_up_ne _ _ (by decide)).trans ((va_up_ne _ _ (by decide)).trans h_1012)) ((4 * j) + k0) rfl (by omega) (by omega) dX9_makes_26 ?_
      refine b_topi (w := nI n) (hsz) ?_
      refine b_icmp_ge_f 146 hx hb dX9_makes_27 (by decide) (by omega) ?_
      refine lv_aload_n hx hb dX9_makes_30 rfl (lv_at hl 0 rfl) ?_
      refine m_get (C := RX9) (T := TX9) (N := 33) (ci := 9) hx hb hts in_X9_makes_X9 hown hB (hL 1000 (by decide)) (va_up_self _ _ _) rfl 13 (by decide) (hts (.fieldLink RX9 41 "PaperRoomModel" "isBlack" "[Z") (by decide +kernel)) (fun _ h9 => h9) rfl dX9_makes_31 ?_
      refine lv_bipush (v := 40) hx hb dX9_makes_34 (by decide) ?_
      refine lv_iload hx hb dX9_makes_36 (lv_at hl 3 rfl) ?_
      refine lv_imul hx hb dX9_makes_38 ?_
      refine b_topi (w := nI (40 * ((4 * j) + k0))) (pk_mul 40 ((4 * j) + k0)) ?_
      refine lv_iload hx hb dX9_makes_39 (lv_at hl 5 rfl) ?_
      refine lv_iadd hx hb dX9_makes_41 ?_
      refine b_topi (w := nI ((40 * ((4 * j) + k0)) + k)) (nI_add (40 * ((4 * j) + k0)) k) ?_
      refine n_zald hx hb hB (hL 1014 (by decide)) ((va_up_ne _ _ (by decide)).trans ((va_up_ne _ _ (by decide)).trans h_1014)) ((40 * ((4 * j) + k0)) + k) rfl (by omega) (by omega) dX9_makes_42 ?_
      refine b_if_eq_f 51 hx hb dX9_makes_43 (by decide) (fun h8 => hz ((i_eq _ _).mpr h8)) ?_
      refine lv_bipush (v := 35) hx hb dX9_makes_46 (by decide) ?_
      refine lv_goto (tgt := 64) hx hb dX9_makes_48 (by decide) ?_
      refine b_topi (w := f k) (by rw [hf k hjl, pl, if_neg hz]) ?_
      refine lv_istore (lv' := [(7, .int (f k)), (0, .ref (ad 1000)), (1, .int b), (2, .int (nI j)), (4, .int (nI ((4 * j) + k0))), (5, .int 0), (6, .int (nI k))]) hx hb dX9_makes_64 hl (by decide) rfl (fun ls hl => ?_)
      refine lv_aload_n hx hb dX9_makes_66 rfl (lv_at hl 1 rfl) ?_
      refine m_get (C := RX9) (T := TX9) (N := 33) (ci := 9) hx hb hts in_X9_makes_X9 hown hB (hL 1000 (by decide)) (va_up_self _ _ _) rfl 31 (by decide) (hts (.fieldLink RX9 83 "PaperRoomModel" "made" "[I") (by decide +kernel)) (fun _ h9 => h9) rfl dX9_makes_67 ?_
      refine lv_aload_n hx hb dX9_makes_70 rfl (lv_at hl 1 rfl) ?_
      refine m_get (C := RX9) (T := TX9) (N := 33) (ci := 9) hx hb hts in_X9_makes_X9 hown hB (hL 1000 (by decide)) (va_up_self _ _ _) rfl 32 (by decide) (hts (.fieldLink RX9 127 "PaperRoomModel" "madeSize" "I") (by decide +kernel)) (fun _ h9 => h9) rfl dX9_makes_71 ?_
      refine lv_iload hx hb dX9_makes_74 (lv_at hl 0 rfl) ?_
      refine n_iast hx hb hB (hL 1032 (by decide)) ((va_up_ne _ _ (by decide)).trans (va_up_self _ _ _)) (mkN false b f k) rfl (by omega) (by omega) dX9_makes_76 (fun H locs hB => ?_)
      replace hB : m_B D ty A s L ad (va_up (va_up (va_up g 1032 (.inl (ty 0, 80, .inl (mkF false b f (a 31) k)))) 1000 (.inr (9, [.int (nI dn), .ref (ad 1002), .int nw, .ref (ad 1004), .ref (ad 1005), .int (nI pn), .ref (ad 1007), .ref (ad 1008), .ref (ad 1009), .ref (ad 1010), .ref (ad 1011), .ref (ad 1012), .ref (ad 1013), .ref (ad 1014), .ref (ad 1015), .ref (ad 1016), .int (nI en), .int lo, .ref (ad 1019), .ref (ad 1020), .ref (ad 1021), .ref (ad 1022), .int (nI qn), .ref (ad 1024), .ref (ad 1025), .ref (ad 1026), .ref (ad 1027), .ref (ad 1028), .ref (ad 1029), .ref (ad 1030), .long tr, .ref (ad 1032), .int (nI (mkN false b f k))]))) 1032 (.inl (ty 0, 80, .inl (upd (mkF false b f (a 31) k) (mkN false b f k) (f k))))) H locs := hB
      refine lv_aload_n hx hb dX9_makes_77 rfl (lv_at hl 1 rfl) ?_
      refine lv_dup hx hb dX9_makes_78 rfl ?_
      refine m_get (C := RX9) (T := TX9) (N := 33) (ci := 9) hx hb hts in_X9_makes_X9 hown hB (hL 1000 (by decide)) ((va_up_ne _ _ (by decide)).trans (va_up_self _ _ _)) rfl 32 (by decide) (hts (.fieldLink RX9 127 "PaperRoomModel" "madeSize" "I") (by decide +kernel)) (fun _ h9 => h9) rfl dX9_makes_79 ?_
      refine lv_iconst (v := 1) hx hb dX9_makes_82 (by decide) ?_
      refine lv_iadd hx hb dX9_makes_83 ?_
      refine b_topi (w := nI ((mkN false b f k) + 1)) (nI_add (mkN false b f k) 1) ?_
      refine m_put (C := RX9) (T := TX9) (N := 33) (ci := 9) (v := .int (nI ((mkN false b f k) + 1))) (ft := .int) hx hb hts in_X9_makes_X9 tyX9 tyX9_ok nmX9 hown hB (hL 1000 (by decide)) ((va_up_ne _ _ (by decide)).trans (va_up_self _ _ _)) rfl 32 (by decide) (hts (.fieldLink RX9 127 "PaperRoomModel" "madeSize" "I") (by decide +kernel)) (fun _ h9 => h9) rfl (by decide +kernel) rfl rfl (Nat.le_of_ble_eq_true rfl) dX9_makes_84 (fun H locs hB => ?_)
      replace hB : m_B D ty A s L ad (va_up (va_up (va_up (va_up g 1032 (.inl (ty 0, 80, .inl (mkF false b f (a 31) k)))) 1000 (.inr (9, [.int (nI dn), .ref (ad 1002), .int nw, .ref (ad 1004), .ref (ad 1005), .int (nI pn), .ref (ad 1007), .ref (ad 1008), .ref (ad 1009), .ref (ad 1010), .ref (ad 1011), .ref (ad 1012), .ref (ad 1013), .ref (ad 1014), .ref (ad 1015), .ref (ad 1016), .int (nI en), .int lo, .ref (ad 1019), .ref (ad 1020), .ref (ad 1021), .ref (ad 1022), .int (nI qn), .ref (ad 1024), .ref (ad 1025), .ref (ad 1026), .ref (ad 1027), .ref (ad 1028), .ref (ad 1029), .ref (ad 1030), .long tr, .ref (ad 1032), .int (nI (mkN false b f k))]))) 1032 (.inl (ty 0, 80, .inl (upd (mkF false b f (a 31) k) (mkN false b f k) (f k))))) 1000 (.inr (9, [.int (nI dn), .ref (ad 1002), .int nw, .ref (ad 1004), .ref (ad 1005), .int (nI pn), .ref (ad 1007), .ref (ad 1008), .ref (ad 1009), .ref (ad 1010), .ref (ad 1011), .ref (ad 1012), .ref (ad 1013), .ref (ad 1014), .ref (ad 1015), .ref (ad 1016), .int (nI en), .int lo, .ref (ad 1019), .ref (ad 1020), .ref (ad 1021), .ref (ad 1022), .int (nI qn), .ref (ad 1024), .ref (ad 1025), .ref (ad 1026), .ref (ad 1027), .ref (ad 1028), .ref (ad 1029), .ref (ad 1030), .long tr, .ref (ad 1032), .int (nI ((mkN false b f k) + 1))]))) H locs := hB
      refine lv_aload_n hx hb dX9_makes_87 rfl (lv_at hl 1 rfl) ?_
      refine m_get (C := RX9) (T := TX9) (N := 33) (ci := 9) hx hb hts in_X9_makes_X9 hown hB (hL 1000 (by decide)) (va_up_self _ _ _) rfl 6 (by decide) (hts (.fieldLink RX9 19 "PaperRoomModel" "kind" "[I") (by decide +kernel)) (fun _ h9 => h9) rfl dX9_makes_88 ?_
      refine lv_iload_n hx hb dX9_makes_91 rfl (lv_at hl 3 rfl) ?_
      refine n_iald hx hb hB (hL 1007 (by decide)) ((va_up_ne _ _ (by decide)).trans ((va_up_ne _ _ (by decide)).trans ((va_up_ne _ _ (by decide)).trans ((va_up_ne _ _ (by decide)).trans h_1007)))) j rfl (by omega) (by omega) dX9_makes_92 ?_
      refine lv_iconst (v := 2) hx hb dX9_makes_93 (by decide) ?_
      refine b_icmp_ne_t 140 hx hb dX9_makes_94 (by decide) (fun h8 => hkd ((i_eq _ _).mpr h8)) ?_
      refine lv_iinc (v := nI (k + 1)) (lv' := [(6, .int (nI (k + 1))), (7, .int (f k)), (0, .ref (ad 1000)), (1, .int b), (2, .int (nI j)), (4, .int (nI ((4 * j) + k0))), (5, .int 0)]) hx hb dX9_makes_140 hl (k := 6) rfl (nI_add k 1) (by decide) rfl (fun ls hl => ?_)
      refine lv_goto (tgt := 18) hx hb dX9_makes_143 (by decide) ?_
      have eN := mkN_1 (z := false) (b := b) (f := f) (k := k) rfl
      have eF := mkF_1 (z := false) (b := b) (f := f) (base := a 31) (k := k) rfl
      have hB : m_B D ty A s L ad (va_up (va_up g 1032 (.inl (ty 0, 80, .inl (mkF false b f (a 31) (k + 1))))) 1000 (.inr (9, [.int (nI dn), .ref (ad 1002), .int nw, .ref (ad 1004), .ref (ad 1005), .int (nI pn), .ref (ad 1007), .ref (ad 1008), .ref (ad 1009), .ref (ad 1010), .ref (ad 1011), .ref (ad 1012), .ref (ad 1013), .ref (ad 1014), .ref (ad 1015), .ref (ad 1016), .int (nI en), .int lo, .ref (ad 1019), .ref (ad 1020), .ref (ad 1021), .ref (ad 1022), .int (nI qn), .ref (ad 1024), .ref (ad 1025), .ref (ad 1026), .ref (ad 1027), .ref (ad 1028), .ref (ad 1029), .ref (ad 1030), .long tr, .ref (ad 1032), .int (nI (mkN false b f (k + 1)))]))) H locs := by
        rw [up_4 (by decide)] at hB; rw [eN, ← eF]; exact hB
      have hl : lv_has ls 8 [(0, .ref (ad 1000)), (1, .int b), (2, .int (nI j)), (4, .int (nI ((4 * j) + k0))), (5, .int 0), (6, .int (nI (k + 1)))] := lv_sub hl [2, 3, 4, 5, 6, 0] rfl
      apply ihj (k := (k + 1)) (H := H) (locs := locs) (ls := ls) <;> first | omega | exact hB | exact hl
set_option maxRecDepth 20000 in
theorem in_X9_stands_X9 : ∀ w ∈ wsX90, w ∈ wsX9_stands := by decide +kernel
set_option maxHeartbeats 1000000 in
set_option maxRecDepth 100000 in
theorem c_M_stands (l : Launch) (D : va_G) (ty : Nat → ClassId) (L : List Nat) (ad : Nat → Nat) (g : Nat → va_E) (a : Nat → Nat → Int32) (dn pn en qn mz : Nat) (nw lo : Int32) (tr : Int64) (t q n : Nat) (hM : RM ty L ad g a dn pn en qn mz nw lo tr) (ht32 : t < 32) (hsz : a 11 t = nI n) (hn40 : n ≤ 40) (hq40 : q < n) (hd1 : 1 ≤ dn) (hdn : dn ≤ 40) : m_E l yX9_stands wsX9_stands 0 0 D ty [.ref (ad 1000), .int (nI t), .int (nI q)] L ad g (some (.int (zb (decide (q + dn ≤ n) && ma (fun i => a 12 (40 * t + i)) (fun i => a 13 (40 * t + i)) (a 1) q dn)))) g := by
  intro sz
  refine Met.ofW (cc := cX9_stands) (maxL := 5) (ret := (some .boolean)) (by decide) rfl ?_
  intro p e s m args below meth c s₁ B hml hv
  have hx := B.exec
  have hb := B.bytes
  have hrt := B.returns
  have hts := atoms_spec (ws := wsX9_stands) B.pre
  have hown : s.vm.findClass RX9 = some m.cls := findClass_of_methodNamed B.named
  have hlocks := B.notSynchronized
  obtain ⟨rfl, hB⟩ := m_start hv
  generalize va_A (m_w L ad g) sz = A at hB ⊢
  generalize s.heap = H at hB ⊢
  generalize ([] : List Loc) = locs at hB ⊢
  have hl := lv_entry ([.ref (ad 1000), .int (nI t), .int (nI q)]) (n := 5) (Nat.le_of_ble_eq_true rfl)
  rw [lg_entry_eq]
  generalize (lg_sl ([.ref (ad 1000), .int (nI t), .int (nI q)]) ++ List.replicate (5 - (lg_sl ([.ref (ad 1000), .int (nI t), .int (nI q)])).length) Slot.unset).toArray = ls at hl ⊢
  have hl : lv_has ls 5 [(0, .ref (ad 1000)), (1, .int (nI t)), (2, .int (nI q))] := hl
  obtain ⟨hL, h_1000, h_1002, h_1004, h_1005, h_1007, h_1008, h_1009, h_1010, h_1011, h_1012, h_1013, h_1014, h_1015, h_1016, h_1019, h_1020, h_1021, h_1022, h_1024, h_1025, h_1026, h_1027, h_1028, h_1029, h_1030, h_1032⟩ := id hM
  have tI_n : (nI n).toInt = (n : Int) := nI_toInt (by omega)
  have tI_dn : (nI dn).toInt = (dn : Int) := nI_toInt (by omega)
  have tI_q : (nI q).toInt = (q : Int) := nI_toInt (by omega)
  have tI_qd : (nI (q + dn)).toInt = ((q + dn : Nat) : Int) := nI_toInt (by omega)
  by_cases hq : q + dn ≤ n
  · skip
    refine lv_iload_n hx hb dX9_stands_0 rfl (lv_at hl 2 rfl) ?_
    refine lv_aload_n hx hb dX9_stands_1 rfl (lv_at hl 0 rfl) ?_
    refine m_get (C := RX9) (T := TX9) (N := 33) (ci := 9) hx hb hts in_X9_stands_X9 hown hB (hL 1000 (by decide)) h_1000 rfl 0 (by decide) (hts (.fieldLink RX9 101 "PaperRoomModel" "drafted" "I") (by decide +kernel)) (fun _ h9 => h9) rfl dX9_stands_2 ?_
    refine lv_iadd hx hb dX9_stands_5 ?_
    refine b_topi (w := nI (q + dn)) (nI_add q dn) ?_
    refine lv_aload_n hx hb dX9_stands_6 rfl (lv_at hl 0 rfl) ?_
    refine m_get (C := RX9) (T := TX9) (N := 33) (ci := 9) hx hb hts in_X9_stands_X9 hown hB (hL 1000 (by decide)) h_1000 rfl 11 (by decide) (hts (.fieldLink RX9 35 "PaperRoomModel" "size" "[I") (by decide +kernel)) (fun _ h9 => h9) rfl dX9_stands_7 ?_
    refine lv_iload_n hx hb dX9_stands_10 rfl (lv_at hl 1 rfl) ?_
    refine n_iald hx hb hB (hL 1012 (by decide)) h_1012 t rfl (by omega) (by omega) dX9_stands_11 ?_
    refine b_topi (w := nI n) (hsz) ?_
    refine b_icmp_gt_f 19 hx hb dX9_stands_12 (by decide) (by omega) ?_
    refine lv_iconst (v := 1) hx hb dX9_stands_15 (by decide) ?_
    refine lv_goto (tgt := 20) hx hb dX9_stands_16 (by decide) ?_
    refine lv_istore_n (lv' := [(3, .int 1), (0, .ref (ad 1000)), (1, .int (nI t)), (2, .int (nI q))]) hx hb dX9_stands_20 rfl hl (by decide) rfl (fun ls hl => ?_)
    refine lv_iconst (v := 0) hx hb dX9_stands_21 (by decide) ?_
    refine lv_istore (lv' := [(4, .int 0), (3, .int 1), (0, .ref (ad 1000)), (1, .int (nI t)), (2, .int (nI q))]) hx hb dX9_stands_22 hl (by decide) rfl (fun ls hl => ?_)
    replace hl : lv_has ls 5 [(0, .ref (ad 1000)), (1, .int (nI t)), (2, .int (nI q)), (3, .int 1), (4, .int 0)] := lv_sub hl [2, 3, 4, 1, 0] rfl
    obtain ⟨k, hk0⟩ : ∃ k : Nat, k = 0 := ⟨0, rfl⟩
    replace hl : lv_has ls 5 [(0, .ref (ad 1000)), (1, .int (nI t)), (2, .int (nI q)), (3, .int 1), (4, .int (nI k))] := by rw [hk0]; exact hl
    have hma : ma (fun i => a 12 (40 * t + i)) (fun i => a 13 (40 * t + i)) (a 1) q k = true := by rw [hk0]; exact rfl
    obtain ⟨jz, hj⟩ : ∃ jz : Nat, k + jz = dn := ⟨dn - k, by omega⟩
    clear hk0
    induction jz generalizing k H locs ls with
    | zero =>
      have hje : k = dn := by omega
      have tI_k : (nI k).toInt = (k : Int) := nI_toInt (by omega)
      subst hje
      refine lv_iload hx hb dX9_stands_24 (lv_at hl 4 rfl) ?_
      refine lv_aload_n hx hb dX9_stands_26 rfl (lv_at hl 0 rfl) ?_
      refine m_get (C := RX9) (T := TX9) (N := 33) (ci := 9) hx hb hts in_X9_stands_X9 hown hB (hL 1000 (by decide)) h_1000 rfl 0 (by decide) (hts (.fieldLink RX9 101 "PaperRoomModel" "drafted" "I") (by decide +kernel)) (fun _ h9 => h9) rfl dX9_stands_27 ?_
      refine b_icmp_ge_t 90 hx hb dX9_stands_30 (by decide) (by omega) ?_
      refine lv_iload_n hx hb dX9_stands_90 rfl (lv_at hl 3 rfl) ?_
      exact m_zret hx hb hrt hlocks hB (Nat.le_refl _) (Nat.le_refl _) dX9_stands_91 rfl ⟨zt (by rw [dt hq]; exact hma), rfl, rfl, rfl⟩
    | succ jz ihj =>
      have hjl : k < dn := by omega
      have tI_k : (nI k).toInt = (k : Int) := nI_toInt (by omega)
      have ix : 40 * t + q + k = 40 * t + (q + k) := by omega
      by_cases hz : a 13 (40 * t + (q + k)) = 0
      · skip
        by_cases hs : a 12 (40 * t + (q + k)) = a 1 k
        · skip
          have hma1 := ma_yes (bs := (fun i => a 12 (40 * t + i))) (bk := (fun i => a 13 (40 * t + i))) hma hz hs
          refine lv_iload hx hb dX9_stands_24 (lv_at hl 4 rfl) ?_
          refine lv_aload_n hx hb dX9_stands_26 rfl (lv_at hl 0 rfl) ?_
          refine m_get (C := RX9) (T := TX9) (N := 33) (ci := 9) hx hb hts in_X9_stands_X9 hown hB (hL 1000 (by decide)) h_1000 rfl 0 (by decide) (hts (.fieldLink RX9 101 "PaperRoomModel" "drafted" "I") (by decide +kernel)) (fun _ h9 => h9) rfl dX9_stands_27 ?_
          refine b_icmp_ge_f 90 hx hb dX9_stands_30 (by decide) (by omega) ?_
          refine lv_iload_n hx hb dX9_stands_33 rfl (lv_at hl 3 rfl) ?_
          refine b_if_eq_f 90 hx hb dX9_stands_34 (by decide) (by decide) ?_
          refine lv_aload_n hx hb dX9_stands_37 rfl (lv_at hl 0 rfl) ?_
          refine m_get (C := RX9) (T := TX9) (N := 33) (ci := 9) hx hb hts in_X9_stands_X9 hown hB (hL 1000 (by decide)) h_1000 rfl 13 (by decide) (hts (.fieldLink RX9 41 "PaperRoomModel" "isBlack" "[Z") (by decide +kernel)) (fun _ h9 => h9) rfl dX9_stands_38 ?_
          refine lv_bipush (v := 40) hx hb dX9_stands_41 (by decide) ?_
          refine lv_iload_n hx hb dX9_stands_43 rfl (lv_at hl 1 rfl) ?_
          refine lv_imul hx hb dX9_stands_44 ?_
          refine b_topi (w := nI (40 * t)) (pk_mul 40 t) ?_
          refine lv_iload_n hx hb dX9_stands_45 rfl (lv_at hl 2 rfl) ?_
          refine lv_iadd hx hb dX9_stands_46 ?_
          refine b_topi (w := nI ((40 * t) + q)) (nI_add (40 * t) q) ?_
          refine lv_iload hx hb dX9_stands_47 (lv_at hl 4 rfl) ?_
          refine lv_iadd hx hb dX9_stands_49 ?_
          refine b_topi (w := nI (((40 * t) + q) + k)) (nI_add ((40 * t) + q) k) ?_
          refine n_zald hx hb hB (hL 1014 (by decide)) h_1014 (((40 * t) + q) + k) rfl (by omega) (by omega) dX9_stands_50 ?_
          refine b_topi (w := a 13 (40 * t + (q + k))) (by rw [ix]) ?_
          refine b_if_ne_f 82 hx hb dX9_stands_51 (by decide) (by rw [hz]; decide) ?_
          refine lv_aload_n hx hb dX9_stands_54 rfl (lv_at hl 0 rfl) ?_
          refine m_get (C := RX9) (T := TX9) (N := 33) (ci := 9) hx hb hts in_X9_stands_X9 hown hB (hL 1000 (by decide)) h_1000 rfl 12 (by decide) (hts (.fieldLink RX9 38 "PaperRoomModel" "text" "[I") (by decide +kernel)) (fun _ h9 => h9) rfl dX9_stands_55 ?_
          refine lv_bipush (v := 40) hx hb dX9_stands_58 (by decide) ?_
          refine lv_iload_n hx hb dX9_stands_60 rfl (lv_at hl 1 rfl) ?_
          refine lv_imul hx hb dX9_stands_61 ?_
          refine b_topi (w := nI (40 * t)) (pk_mul 40 t) ?_
          refine lv_iload_n hx hb dX9_stands_62 rfl (lv_at hl 2 rfl) ?_
          refine lv_iadd hx hb dX9_stands_63 ?_
          refine b_topi (w := nI ((40 * t) + q)) (nI_add (40 * t) q) ?_
          refine lv_iload hx hb dX9_stands_64 (lv_at hl 4 rfl) ?_
          refine lv_iadd hx hb dX9_stands_66 ?_
          refine b_topi (w := nI (((40 * t) + q) + k)) (nI_add ((40 * t) + q) k) ?_
          refine n_iald hx hb hB (hL 1013 (by decide)) h_1013 (((40 * t) + q) + k) rfl (by omega) (by omega) dX9_stands_67 ?_
          refine b_topi (w := a 12 (40 * t + (q + k))) (by rw [ix]) ?_
          refine lv_aload_n hx hb dX9_stands_68 rfl (lv_at hl 0 rfl) ?_
          refine m_get (C := RX9) (T := TX9) (N := 33) (ci := 9) hx hb hts in_X9_stands_X9 hown hB (hL 1000 (by decide)) h_1000 rfl 1 (by decide) (hts (.fieldLink RX9 7 "PaperRoomModel" "draft" "[I") (by decide +kernel)) (fun _ h9 => h9) rfl dX9_stands_69 ?_
          refine lv_iload hx hb dX9_stands_72 (lv_at hl 4 rfl) ?_
          refine n_iald hx hb hB (hL 1002 (by decide)) h_1002 k rfl (by omega) (by omega) dX9_stands_74 ?_
          refine b_icmp_ne_f 82 hx hb dX9_stands_75 (by decide) (by rw [hs]) ?_
          refine lv_iconst (v := 1) hx hb dX9_stands_78 (by decide) ?_
          refine lv_goto (tgt := 83) hx hb dX9_stands_79 (by decide) ?_
          refine lv_istore_n (lv' := [(3, .int 1), (0, .ref (ad 1000)), (1, .int (nI t)), (2, .int (nI q)), (4, .int (nI k))]) hx hb dX9_stands_83 rfl hl (by decide) rfl (fun ls hl => ?_)
          refine lv_iinc (v := nI (k + 1)) (lv' := [(4, .int (nI (k + 1))), (3, .int 1), (0, .ref (ad 1000)), (1, .int (nI t)), (2, .int (nI q))]) hx hb dX9_stands_84 hl (k := 4) rfl (nI_add k 1) (by decide) rfl (fun ls hl => ?_)
          refine lv_goto (tgt := 24) hx hb dX9_stands_87 (by decide) ?_
          have hma' : ma (fun i => a 12 (40 * t + i)) (fun i => a 13 (40 * t + i)) (a 1) q (k + 1) = true := hma1
          have hl : lv_has ls 5 [(0, .ref (ad 1000)), (1, .int (nI t)), (2, .int (nI q)), (3, .int 1), (4, .int (nI (k + 1)))] := lv_sub hl [2, 3, 4, 1, 0] rfl
          apply ihj (k := (k + 1)) (H := H) (locs := locs) (ls := ls) <;> first | omega | exact hB | exact hl | exact hma'
        · skip
          refine lv_iload hx hb dX9_stands_24 (lv_at hl 4 rfl) ?_
          refine lv_aload_n hx hb dX9_stands_26 rfl (lv_at hl 0 rfl) ?_
          refine m_get (C := RX9) (T := TX9) (N := 33) (ci := 9) hx hb hts in_X9_stands_X9 hown hB (hL 1000 (by decide)) h_1000 rfl 0 (by decide) (hts (.fieldLink RX9 101 "PaperRoomModel" "drafted" "I") (by decide +kernel)) (fun _ h9 => h9) rfl dX9_stands_27 ?_
          refine b_icmp_ge_f 90 hx hb dX9_stands_30 (by decide) (by omega) ?_
          refine lv_iload_n hx hb dX9_stands_33 rfl (lv_at hl 3 rfl) ?_
          refine b_if_eq_f 90 hx hb dX9_stands_34 (by decide) (by decide) ?_
          refine lv_aload_n hx hb dX9_stands_37 rfl (lv_at hl 0 rfl) ?_
          refine m_get (C := RX9) (T := TX9) (N := 33) (ci := 9) hx hb hts in_X9_stands_X9 hown hB (hL 1000 (by decide)) h_1000 rfl 13 (by decide) (hts (.fieldLink RX9 41 "PaperRoomModel" "isBlack" "[Z") (by decide +kernel)) (fun _ h9 => h9) rfl dX9_stands_38 ?_
          refine lv_bipush (v := 40) hx hb dX9_stands_41 (by decide) ?_
          refine lv_iload_n hx hb dX9_stands_43 rfl (lv_at hl 1 rfl) ?_
          refine lv_imul hx hb dX9_stands_44 ?_
          refine b_topi (w := nI (40 * t)) (pk_mul 40 t) ?_
          refine lv_iload_n hx hb dX9_stands_45 rfl (lv_at hl 2 rfl) ?_
          refine lv_iadd hx hb dX9_stands_46 ?_
          refine b_topi (w := nI ((40 * t) + q)) (nI_add (40 * t) q) ?_
          refine lv_iload hx hb dX9_stands_47 (lv_at hl 4 rfl) ?_
          refine lv_iadd hx hb dX9_stands_49 ?_
          refine b_topi (w := nI (((40 * t) + q) + k)) (nI_add ((40 * t) + q) k) ?_
          refine n_zald hx hb hB (hL 1014 (by decide)) h_1014 (((40 * t) + q) + k) rfl (by omega) (by omega) dX9_stands_50 ?_
          refine b_topi (w := a 13 (40 * t + (q + k))) (by rw [ix]) ?_
          refine b_if_ne_f 82 hx hb dX9_stands_51 (by decide) (by rw [hz]; decide) ?_
          refine lv_aload_n hx hb dX9_stands_54 rfl (lv_at hl 0 rfl) ?_
          refine m_get (C := RX9) (T := TX9) (N := 33) (ci := 9) hx hb hts in_X9_stands_X9 hown hB (hL 1000 (by decide)) h_1000 rfl 12 (by decide) (hts (.fieldLink RX9 38 "PaperRoomModel" "text" "[I") (by decide +kernel)) (fun _ h9 => h9) rfl dX9_stands_55 ?_
          refine lv_bipush (v := 40) hx hb dX9_stands_58 (by decide) ?_
          refine lv_iload_n hx hb dX9_stands_60 rfl (lv_at hl 1 rfl) ?_
          refine lv_imul hx hb dX9_stands_61 ?_
          refine b_topi (w := nI (40 * t)) (pk_mul 40 t) ?_
          refine lv_iload_n hx hb dX9_stands_62 rfl (lv_at hl 2 rfl) ?_
          refine lv_iadd hx hb dX9_stands_63 ?_
          refine b_topi (w := nI ((40 * t) + q)) (nI_add (40 * t) q) ?_
          refine lv_iload hx hb dX9_stands_64 (lv_at hl 4 rfl) ?_
          refine lv_iadd hx hb dX9_stands_66 ?_
          refine b_topi (w := nI (((40 * t) + q) + k)) (nI_add ((40 * t) + q) k) ?_
          refine n_iald hx hb hB (hL 1013 (by decide)) h_1013 (((40 * t) + q) + k) rfl (by omega) (by omega) dX9_stands_67 ?_
          refine b_topi (w := a 12 (40 * t + (q + k))) (by rw [ix]) ?_
          refine lv_aload_n hx hb dX9_stands_68 rfl (lv_at hl 0 rfl) ?_
          refine m_get (C := RX9) (T := TX9) (N := 33) (ci := 9) hx hb hts in_X9_stands_X9 hown hB (hL 1000 (by decide)) h_1000 rfl 1 (by decide) (hts (.fieldLink RX9 7 "PaperRoomModel" "draft" "[I") (by decide +kernel)) (fun _ h9 => h9) rfl dX9_stands_69 ?_
          refine lv_iload hx hb dX9_stands_72 (lv_at hl 4 rfl) ?_
          refine n_iald hx hb hB (hL 1002 (by decide)) h_1002 k rfl (by omega) (by omega) dX9_stands_74 ?_
          refine b_icmp_ne_t 82 hx hb dX9_stands_75 (by decide) (fun h8 => hs ((i_eq _ _).mpr h8)) ?_
          refine lv_iconst (v := 0) hx hb dX9_stands_82 (by decide) ?_
          refine lv_istore_n (lv' := [(3, .int 0), (0, .ref (ad 1000)), (1, .int (nI t)), (2, .int (nI q)), (4, .int (nI k))]) hx hb dX9_stands_83 rfl hl (by decide) rfl (fun ls hl => ?_)
          refine lv_iinc (v := nI (k + 1)) (lv' := [(4, .int (nI (k + 1))), (3, .int 0), (0, .ref (ad 1000)), (1, .int (nI t)), (2, .int (nI q))]) hx hb dX9_stands_84 hl (k := 4) rfl (nI_add k 1) (by decide) rfl (fun ls hl => ?_)
          refine lv_goto (tgt := 24) hx hb dX9_stands_87 (by decide) ?_
          have tI_k1 : (nI (k + 1)).toInt = ((k + 1 : Nat) : Int) := nI_toInt (by omega)
          have hbad : (decide (q + dn ≤ n) && ma (fun i => a 12 (40 * t + i)) (fun i => a 13 (40 * t + i)) (a 1) q dn) = false := by rw [ma_dif (bs := (fun i => a 12 (40 * t + i))) (bk := (fun i => a 13 (40 * t + i))) (bs2 := a 1) (q := q) (k := k) hs (by omega : k < dn)]; simp
          by_cases hlast : k + 1 < dn
          · skip
            refine lv_iload hx hb dX9_stands_24 (lv_at hl 0 rfl) ?_
            refine lv_aload_n hx hb dX9_stands_26 rfl (lv_at hl 2 rfl) ?_
            refine m_get (C := RX9) (T := TX9) (N := 33) (ci := 9) hx hb hts in_X9_stands_X9 hown hB (hL 1000 (by decide)) h_1000 rfl 0 (by decide) (hts (.fieldLink RX9 101 "PaperRoomModel" "drafted" "I") (by decide +kernel)) (fun _ h9 => h9) rfl dX9_stands_27 ?_
            refine b_icmp_ge_f 90 hx hb dX9_stands_30 (by decide) (by omega) ?_
            refine lv_iload_n hx hb dX9_stands_33 rfl (lv_at hl 1 rfl) ?_
            refine b_if_eq_t 90 hx hb dX9_stands_34 (by decide) (by decide) ?_
            refine lv_iload_n hx hb dX9_stands_90 rfl (lv_at hl 1 rfl) ?_
            exact m_zret hx hb hrt hlocks hB (Nat.le_refl _) (Nat.le_refl _) dX9_stands_91 rfl ⟨zf hbad, rfl, rfl, rfl⟩
          · skip
            refine lv_iload hx hb dX9_stands_24 (lv_at hl 0 rfl) ?_
            refine lv_aload_n hx hb dX9_stands_26 rfl (lv_at hl 2 rfl) ?_
            refine m_get (C := RX9) (T := TX9) (N := 33) (ci := 9) hx hb hts in_X9_stands_X9 hown hB (hL 1000 (by decide)) h_1000 rfl 0 (by decide) (hts (.fieldLink RX9 101 "PaperRoomModel" "drafted" "I") (by decide +kernel)) (fun _ h9 => h9) rfl dX9_stands_27 ?_
            refine b_icmp_ge_t 90 hx hb dX9_stands_30 (by decide) (by omega) ?_
            refine lv_iload_n hx hb dX9_stands_90 rfl (lv_at hl 1 rfl) ?_
            exact m_zret hx hb hrt hlocks hB (Nat.le_refl _) (Nat.le_refl _) dX9_stands_91 rfl ⟨zf hbad, rfl, rfl, rfl⟩
      · skip
        refine lv_iload hx hb dX9_stands_24 (lv_at hl 4 rfl) ?_
        refine lv_aload_n hx hb dX9_stands_26 rfl (lv_at hl 0 rfl) ?_
        refine m_get (C := RX9) (T := TX9) (N := 33) (ci := 9) hx hb hts in_X9_stands_X9 hown hB (hL 1000 (by decide)) h_1000 rfl 0 (by decide) (hts (.fieldLink RX9 101 "PaperRoomModel" "drafted" "I") (by decide +kernel)) (fun _ h9 => h9) rfl dX9_stands_27 ?_
        refine b_icmp_ge_f 90 hx hb dX9_stands_30 (by decide) (by omega) ?_
        refine lv_iload_n hx hb dX9_stands_33 rfl (lv_at hl 3 rfl) ?_
        refine b_if_eq_f 90 hx hb dX9_stands_34 (by decide) (by decide) ?_
        refine lv_aload_n hx hb dX9_stands_37 rfl (lv_at hl 0 rfl) ?_
        refine m_get (C := RX9) (T := TX9) (N := 33) (ci := 9) hx hb hts in_X9_stands_X9 hown hB (hL 1000 (by decide)) h_1000 rfl 13 (by decide) (hts (.fieldLink RX9 41 "PaperRoomModel" "isBlack" "[Z") (by decide +kernel)) (fun _ h9 => h9) rfl dX9_stands_38 ?_
        refine lv_bipush (v := 40) hx hb dX9_stands_41 (by decide) ?_
        refine lv_iload_n hx hb dX9_stands_43 rfl (lv_at hl 1 rfl) ?_
        refine lv_imul hx hb dX9_stands_44 ?_
        refine b_topi (w := nI (40 * t)) (pk_mul 40 t) ?_
        refine lv_iload_n hx hb dX9_stands_45 rfl (lv_at hl 2 rfl) ?_
        refine lv_iadd hx hb dX9_stands_46 ?_
        refine b_topi (w := nI ((40 * t) + q)) (nI_add (40 * t) q) ?_
        refine lv_iload hx hb dX9_stands_47 (lv_at hl 4 rfl) ?_
        refine lv_iadd hx hb dX9_stands_49 ?_
        refine b_topi (w := nI (((40 * t) + q) + k)) (nI_add ((40 * t) + q) k) ?_
        refine n_zald hx hb hB (hL 1014 (by decide)) h_1014 (((40 * t) + q) + k) rfl (by omega) (by omega) dX9_stands_50 ?_
        refine b_topi (w := a 13 (40 * t + (q + k))) (by rw [ix]) ?_
        refine b_if_ne_t 82 hx hb dX9_stands_51 (by decide) (fun h8 => hz ((i_eq _ _).mpr h8)) ?_
        refine lv_iconst (v := 0) hx hb dX9_stands_82 (by decide) ?_
        refine lv_istore_n (lv' := [(3, .int 0), (0, .ref (ad 1000)), (1, .int (nI t)), (2, .int (nI q)), (4, .int (nI k))]) hx hb dX9_stands_83 rfl hl (by decide) rfl (fun ls hl => ?_)
        refine lv_iinc (v := nI (k + 1)) (lv' := [(4, .int (nI (k + 1))), (3, .int 0), (0, .ref (ad 1000)), (1, .int (nI t)), (2, .int (nI q))]) hx hb dX9_stands_84 hl (k := 4) rfl (nI_add k 1) (by decide) rfl (fun ls hl => ?_)
        refine lv_goto (tgt := 24) hx hb dX9_stands_87 (by decide) ?_
        have tI_k1 : (nI (k + 1)).toInt = ((k + 1 : Nat) : Int) := nI_toInt (by omega)
        have hbad : (decide (q + dn ≤ n) && ma (fun i => a 12 (40 * t + i)) (fun i => a 13 (40 * t + i)) (a 1) q dn) = false := by rw [ma_blk (bs := (fun i => a 12 (40 * t + i))) (bk := (fun i => a 13 (40 * t + i))) (bs2 := a 1) (q := q) (k := k) hz (by omega : k < dn)]; simp
        by_cases hlast : k + 1 < dn
        · skip
          refine lv_iload hx hb dX9_stands_24 (lv_at hl 0 rfl) ?_
          refine lv_aload_n hx hb dX9_stands_26 rfl (lv_at hl 2 rfl) ?_
          refine m_get (C := RX9) (T := TX9) (N := 33) (ci := 9) hx hb hts in_X9_stands_X9 hown hB (hL 1000 (by decide)) h_1000 rfl 0 (by decide) (hts (.fieldLink RX9 101 "PaperRoomModel" "drafted" "I") (by decide +kernel)) (fun _ h9 => h9) rfl dX9_stands_27 ?_
          refine b_icmp_ge_f 90 hx hb dX9_stands_30 (by decide) (by omega) ?_
          refine lv_iload_n hx hb dX9_stands_33 rfl (lv_at hl 1 rfl) ?_
          refine b_if_eq_t 90 hx hb dX9_stands_34 (by decide) (by decide) ?_
          refine lv_iload_n hx hb dX9_stands_90 rfl (lv_at hl 1 rfl) ?_
          exact m_zret hx hb hrt hlocks hB (Nat.le_refl _) (Nat.le_refl _) dX9_stands_91 rfl ⟨zf hbad, rfl, rfl, rfl⟩
        · skip
          refine lv_iload hx hb dX9_stands_24 (lv_at hl 0 rfl) ?_
          refine lv_aload_n hx hb dX9_stands_26 rfl (lv_at hl 2 rfl) ?_
          refine m_get (C := RX9) (T := TX9) (N := 33) (ci := 9) hx hb hts in_X9_stands_X9 hown hB (hL 1000 (by decide)) h_1000 rfl 0 (by decide) (hts (.fieldLink RX9 101 "PaperRoomModel" "drafted" "I") (by decide +kernel)) (fun _ h9 => h9) rfl dX9_stands_27 ?_
          refine b_icmp_ge_t 90 hx hb dX9_stands_30 (by decide) (by omega) ?_
          refine lv_iload_n hx hb dX9_stands_90 rfl (lv_at hl 1 rfl) ?_
          exact m_zret hx hb hrt hlocks hB (Nat.le_refl _) (Nat.le_refl _) dX9_stands_91 rfl ⟨zf hbad, rfl, rfl, rfl⟩
  · skip
    refine lv_iload_n hx hb dX9_stands_0 rfl (lv_at hl 2 rfl) ?_
    refine lv_aload_n hx hb dX9_stands_1 rfl (lv_at hl 0 rfl) ?_
    refine m_get (C := RX9) (T := TX9) (N := 33) (ci := 9) hx hb hts in_X9_stands_X9 hown hB (hL 1000 (by decide)) h_1000 rfl 0 (by decide) (hts (.fieldLink RX9 101 "PaperRoomModel" "drafted" "I") (by decide +kernel)) (fun _ h9 => h9) rfl dX9_stands_2 ?_
    refine lv_iadd hx hb dX9_stands_5 ?_
    refine b_topi (w := nI (q + dn)) (nI_add q dn) ?_
    refine lv_aload_n hx hb dX9_stands_6 rfl (lv_at hl 0 rfl) ?_
    refine m_get (C := RX9) (T := TX9) (N := 33) (ci := 9) hx hb hts in_X9_stands_X9 hown hB (hL 1000 (by decide)) h_1000 rfl 11 (by decide) (hts (.fieldLink RX9 35 "PaperRoomModel" "size" "[I") (by decide +kernel)) (fun _ h9 => h9) rfl dX9_stands_7 ?_
    refine lv_iload_n hx hb dX9_stands_10 rfl (lv_at hl 1 rfl) ?_
    refine n_iald hx hb hB (hL 1012 (by decide)) h_1012 t rfl (by omega) (by omega) dX9_stands_11 ?_
    refine b_topi (w := nI n) (hsz) ?_
    refine b_icmp_gt_t 19 hx hb dX9_stands_12 (by decide) (by omega) ?_
    refine lv_iconst (v := 0) hx hb dX9_stands_19 (by decide) ?_
    refine lv_istore_n (lv' := [(3, .int 0), (0, .ref (ad 1000)), (1, .int (nI t)), (2, .int (nI q))]) hx hb dX9_stands_20 rfl hl (by decide) rfl (fun ls hl => ?_)
    refine lv_iconst (v := 0) hx hb dX9_stands_21 (by decide) ?_
    refine lv_istore (lv' := [(4, .int 0), (3, .int 0), (0, .ref (ad 1000)), (1, .int (nI t)), (2, .int (nI q))]) hx hb dX9_stands_22 hl (by decide) rfl (fun ls hl => ?_)
    refine lv_iload hx hb dX9_stands_24 (lv_at hl 0 rfl) ?_
    refine lv_aload_n hx hb dX9_stands_26 rfl (lv_at hl 2 rfl) ?_
    refine m_get (C := RX9) (T := TX9) (N := 33) (ci := 9) hx hb hts in_X9_stands_X9 hown hB (hL 1000 (by decide)) h_1000 rfl 0 (by decide) (hts (.fieldLink RX9 101 "PaperRoomModel" "drafted" "I") (by decide +kernel)) (fun _ h9 => h9) rfl dX9_stands_27 ?_
    refine b_icmp_ge_f 90 hx hb dX9_stands_30 (by decide) (by have := (by decide : (0 : Int32).toInt = 0); omega) ?_
    refine lv_iload_n hx hb dX9_stands_33 rfl (lv_at hl 1 rfl) ?_
    refine b_if_eq_t 90 hx hb dX9_stands_34 (by decide) (by decide) ?_
    refine lv_iload_n hx hb dX9_stands_90 rfl (lv_at hl 1 rfl) ?_
    exact m_zret hx hb hrt hlocks hB (Nat.le_refl _) (Nat.le_refl _) dX9_stands_91 rfl ⟨zf (by rw [df (by omega)]; rfl), rfl, rfl, rfl⟩
