set_option maxRecDepth 20000 in
theorem in_X7_blackenSpan_X7 : ∀ w ∈ wsX70, w ∈ wsX7_blackenSpan := by decide +kernel
set_option maxHeartbeats 1000000 in
set_option maxRecDepth 100000 in
theorem c_Text_span (l : Launch) (D : va_G) (ty : Nat → ClassId) (L : List Nat) (ad : Nat → Nat) (g : Nat → va_E) (t ro a bl n : Nat) (bs bk : Nat → Int32) (x y : Nat) (m_t : t ∈ L) (m_ro : ro ∈ L) (m_a : a ∈ L) (m_bl : bl ∈ L) (h_t : g t = .inr (7, [.ref (ad ro), .ref (ad bl)])) (h_ro : g ro = .inr (5, [.ref (ad a), .int (nI n)])) (h_a : g a = .inl (ty 2, n, .inl bs)) (h_bl : g bl = .inl (ty 3, n, .inl bk)) (hc : n ≤ 40) (ne : t ≠ bl) (hy : y ≤ n) (hxy : x < y) (hbk : ∀ k, k < n → bk k = 0 ∨ bk k = 1) : m_E l yX7_blackenSpan wsX7_blackenSpan 0 0 D ty [.ref (ad t), .int (nI x), .int (nI y)] L ad g (some (.int (nI (bl_c bk x y n)))) (va_up g bl (.inl (ty 3, n, .inl (bl_f bk x y n)))) := by
  intro sz
  refine Met.ofW (cc := cX7_blackenSpan) (maxL := 5) (ret := (some .int)) (by decide) rfl ?_
  intro p e s m args below meth c s₁ B hml hv
  have hx := B.exec
  have hb := B.bytes
  have hrt := B.returns
  have hts := atoms_spec (ws := wsX7_blackenSpan) B.pre
  have hown : s.vm.findClass RX7 = some m.cls := findClass_of_methodNamed B.named
  have hlocks := B.notSynchronized
  obtain ⟨rfl, hB⟩ := m_start hv
  generalize va_A (m_w L ad g) sz = A at hB ⊢
  generalize s.heap = H at hB ⊢
  generalize ([] : List Loc) = locs at hB ⊢
  have hl := lv_entry ([.ref (ad t), .int (nI x), .int (nI y)]) (n := 5) (Nat.le_of_ble_eq_true rfl)
  rw [lg_entry_eq]
  generalize (lg_sl ([.ref (ad t), .int (nI x), .int (nI y)]) ++ List.replicate (5 - (lg_sl ([.ref (ad t), .int (nI x), .int (nI y)])).length) Slot.unset).toArray = ls at hl ⊢
  have hl : lv_has ls 5 [(0, .ref (ad t)), (1, .int (nI x)), (2, .int (nI y))] := hl
  have tI_n : (nI n).toInt = (n : Int) := nI_toInt (by omega)
  have tI_x : (nI x).toInt = (x : Int) := nI_toInt (by omega)
  have tI_y : (nI y).toInt = (y : Int) := nI_toInt (by omega)
  refine lv_iconst (v := 0) hx hb dX7_blackenSpan_0 (by decide) ?_
  refine lv_istore_n (lv' := [(3, .int 0), (0, .ref (ad t)), (1, .int (nI x)), (2, .int (nI y))]) hx hb dX7_blackenSpan_1 rfl hl (by decide) rfl (fun ls hl => ?_)
  refine lv_iconst (v := 0) hx hb dX7_blackenSpan_2 (by decide) ?_
  refine lv_istore (lv' := [(4, .int 0), (3, .int 0), (0, .ref (ad t)), (1, .int (nI x)), (2, .int (nI y))]) hx hb dX7_blackenSpan_3 hl (by decide) rfl (fun ls hl => ?_)
  replace hl : lv_has ls 5 [(0, .ref (ad t)), (1, .int (nI x)), (2, .int (nI y)), (3, .int 0), (4, .int 0)] := lv_sub hl [2, 3, 4, 1, 0] rfl
  obtain ⟨k, hk0⟩ : ∃ k : Nat, k = 0 := ⟨0, rfl⟩
  replace hB : m_B D ty A s L ad (va_up g bl (.inl (ty 3, n, .inl (bl_f bk x y k)))) H locs := by
    rw [hk0]
    rw [bl_f_0, up_same h_bl]; exact hB
  replace hl : lv_has ls 5 [(0, .ref (ad t)), (1, .int (nI x)), (2, .int (nI y)), (3, .int (nI (bl_c bk x y k))), (4, .int (nI k))] := by rw [hk0]; exact hl
  obtain ⟨jz, hj⟩ : ∃ jz : Nat, k + jz = n := ⟨n - k, by omega⟩
  clear hk0
  induction jz generalizing k H locs ls with
  | zero =>
    have hje : k = n := by omega
    have tI_k : (nI k).toInt = (k : Int) := nI_toInt (by omega)
    refine lv_iload hx hb dX7_blackenSpan_5 (lv_at hl 4 rfl) ?_
    refine lv_aload_n hx hb dX7_blackenSpan_7 rfl (lv_at hl 0 rfl) ?_
    refine m_get (C := RX7) (T := TX7) (N := 2) (ci := 7) hx hb hts in_X7_blackenSpan_X7 hown hB m_t ((va_up_ne _ _ ne).trans h_t) rfl 1 (by decide) (hts (.fieldLink RX7 30 "PaperRoom$Text" "black" "[Z") (by decide +kernel)) (fun _ h9 => h9) rfl dX7_blackenSpan_8 ?_
    refine m_alen hx hb hB m_bl 3 (va_up_self _ _ _) rfl (v := nI n) rfl dX7_blackenSpan_11 ?_
    refine b_icmp_ge_t 54 hx hb dX7_blackenSpan_12 (by decide) (by omega) ?_
    refine lv_iload_n hx hb dX7_blackenSpan_54 rfl (lv_at hl 3 rfl) ?_
    exact m_iret hx hb hrt hlocks hB (Nat.le_refl _) (Nat.le_refl _) dX7_blackenSpan_55 ⟨by rw [hje], rfl, rfl, by rw [hje]⟩
  | succ jz ihj =>
    have hjl : k < n := by omega
    have tI_k : (nI k).toInt = (k : Int) := nI_toInt (by omega)
    rcases (show k < x ∨ (x ≤ k ∧ y ≤ k) ∨ (x ≤ k ∧ k < y) by omega) with h9 | h9 | h9
    · skip
      refine lv_iload hx hb dX7_blackenSpan_5 (lv_at hl 4 rfl) ?_
      refine lv_aload_n hx hb dX7_blackenSpan_7 rfl (lv_at hl 0 rfl) ?_
      refine m_get (C := RX7) (T := TX7) (N := 2) (ci := 7) hx hb hts in_X7_blackenSpan_X7 hown hB m_t ((va_up_ne _ _ ne).trans h_t) rfl 1 (by decide) (hts (.fieldLink RX7 30 "PaperRoom$Text" "black" "[Z") (by decide +kernel)) (fun _ h9 => h9) rfl dX7_blackenSpan_8 ?_
      refine m_alen hx hb hB m_bl 3 (va_up_self _ _ _) rfl (v := nI n) rfl dX7_blackenSpan_11 ?_
      refine b_icmp_ge_f 54 hx hb dX7_blackenSpan_12 (by decide) (by omega) ?_
      refine lv_iload hx hb dX7_blackenSpan_15 (lv_at hl 4 rfl) ?_
      refine lv_iload_n hx hb dX7_blackenSpan_17 rfl (lv_at hl 1 rfl) ?_
      refine b_icmp_lt_t 35 hx hb dX7_blackenSpan_18 (by decide) (by omega) ?_
      rcases hbk k (by omega) with hb1 | hb1
      · skip
        refine lv_aload_n hx hb dX7_blackenSpan_35 rfl (lv_at hl 0 rfl) ?_
        refine m_get (C := RX7) (T := TX7) (N := 2) (ci := 7) hx hb hts in_X7_blackenSpan_X7 hown hB m_t ((va_up_ne _ _ ne).trans h_t) rfl 1 (by decide) (hts (.fieldLink RX7 30 "PaperRoom$Text" "black" "[Z") (by decide +kernel)) (fun _ h9 => h9) rfl dX7_blackenSpan_36 ?_
        refine lv_iload hx hb dX7_blackenSpan_39 (lv_at hl 4 rfl) ?_
        refine n_zald hx hb hB m_bl (va_up_self _ _ _) k rfl (by omega) (by omega) dX7_blackenSpan_41 ?_
        refine b_topi (w := 0) (by rw [bl_f_at, hb1]) ?_
        refine b_if_eq_t 48 hx hb dX7_blackenSpan_42 (by decide) (by decide) ?_
        refine lv_iinc (v := nI (k + 1)) (lv' := [(4, .int (nI (k + 1))), (0, .ref (ad t)), (1, .int (nI x)), (2, .int (nI y)), (3, .int (nI (bl_c bk x y k)))]) hx hb dX7_blackenSpan_48 hl (k := 4) rfl (nI_add k 1) (by decide) rfl (fun ls hl => ?_)
        refine lv_goto (tgt := 5) hx hb dX7_blackenSpan_51 (by decide) ?_
        have e9 : bl_c bk x y (k + 1) = bl_c bk x y k := bl_c_out (by omega) hb1
        rw [← e9] at hl
        have hB : m_B D ty A s L ad (va_up g bl (.inl (ty 3, n, .inl (bl_f bk x y (k + 1))))) H locs := by
          rw [← bl_f_out (by omega)]; exact hB
        have hl : lv_has ls 5 [(0, .ref (ad t)), (1, .int (nI x)), (2, .int (nI y)), (3, .int (nI (bl_c bk x y (k + 1)))), (4, .int (nI (k + 1)))] := lv_sub hl [1, 2, 3, 4, 0] rfl
        apply ihj (k := (k + 1)) (H := H) (locs := locs) (ls := ls) <;> first | omega | exact hB | exact hl
      · skip
        refine lv_aload_n hx hb dX7_blackenSpan_35 rfl (lv_at hl 0 rfl) ?_
        refine m_get (C := RX7) (T := TX7) (N := 2) (ci := 7) hx hb hts in_X7_blackenSpan_X7 hown hB m_t ((va_up_ne _ _ ne).trans h_t) rfl 1 (by decide) (hts (.fieldLink RX7 30 "PaperRoom$Text" "black" "[Z") (by decide +kernel)) (fun _ h9 => h9) rfl dX7_blackenSpan_36 ?_
        refine lv_iload hx hb dX7_blackenSpan_39 (lv_at hl 4 rfl) ?_
        refine n_zald hx hb hB m_bl (va_up_self _ _ _) k rfl (by omega) (by omega) dX7_blackenSpan_41 ?_
        refine b_topi (w := 1) (by rw [bl_f_at, hb1]) ?_
        refine b_if_eq_f 48 hx hb dX7_blackenSpan_42 (by decide) (by decide) ?_
        refine lv_iinc (v := nI (bl_c bk x y (k + 1))) (lv' := [(3, .int (nI (bl_c bk x y (k + 1)))), (0, .ref (ad t)), (1, .int (nI x)), (2, .int (nI y)), (4, .int (nI k))]) hx hb dX7_blackenSpan_45 hl (k := 3) rfl (by rw [bl_c_in (Or.inr (by rw [hb1]; decide))]; exact nI_add _ 1) (by decide) rfl (fun ls hl => ?_)
        refine lv_iinc (v := nI (k + 1)) (lv' := [(4, .int (nI (k + 1))), (3, .int (nI (bl_c bk x y (k + 1)))), (0, .ref (ad t)), (1, .int (nI x)), (2, .int (nI y))]) hx hb dX7_blackenSpan_48 hl (k := 4) rfl (nI_add k 1) (by decide) rfl (fun ls hl => ?_)
        refine lv_goto (tgt := 5) hx hb dX7_blackenSpan_51 (by decide) ?_
        have hB : m_B D ty A s L ad (va_up g bl (.inl (ty 3, n, .inl (bl_f bk x y (k + 1))))) H locs := by
          rw [← bl_f_out (by omega)]; exact hB
        have hl : lv_has ls 5 [(0, .ref (ad t)), (1, .int (nI x)), (2, .int (nI y)), (3, .int (nI (bl_c bk x y (k + 1)))), (4, .int (nI (k + 1)))] := lv_sub hl [2, 3, 4, 1, 0] rfl
        apply ihj (k := (k + 1)) (H := H) (locs := locs) (ls := ls) <;> first | omega | exact hB | exact hl
    · skip
      refine lv_iload hx hb dX7_blackenSpan_5 (lv_at hl 4 rfl) ?_
      refine lv_aload_n hx hb dX7_blackenSpan_7 rfl (lv_at hl 0 rfl) ?_
      refine m_get (C := RX7) (T := TX7) (N := 2) (ci := 7) hx hb hts in_X7_blackenSpan_X7 hown hB m_t ((va_up_ne _ _ ne).trans h_t) rfl 1 (by decide) (hts (.fieldLink RX7 30 "PaperRoom$Text" "black" "[Z") (by decide +kernel)) (fun _ h9 => h9) rfl dX7_blackenSpan_8 ?_
      refine m_alen hx hb hB m_bl 3 (va_up_self _ _ _) rfl (v := nI n) rfl dX7_blackenSpan_11 ?_
      refine b_icmp_ge_f 54 hx hb dX7_blackenSpan_12 (by decide) (by omega) ?_
      refine lv_iload hx hb dX7_blackenSpan_15 (lv_at hl 4 rfl) ?_
      refine lv_iload_n hx hb dX7_blackenSpan_17 rfl (lv_at hl 1 rfl) ?_
      refine b_icmp_lt_f 35 hx hb dX7_blackenSpan_18 (by decide) (by omega) ?_
      refine lv_iload hx hb dX7_blackenSpan_21 (lv_at hl 4 rfl) ?_
      refine lv_iload_n hx hb dX7_blackenSpan_23 rfl (lv_at hl 2 rfl) ?_
      refine b_icmp_ge_t 35 hx hb dX7_blackenSpan_24 (by decide) (by omega) ?_
      rcases hbk k (by omega) with hb1 | hb1
      · skip
        refine lv_aload_n hx hb dX7_blackenSpan_35 rfl (lv_at hl 0 rfl) ?_
        refine m_get (C := RX7) (T := TX7) (N := 2) (ci := 7) hx hb hts in_X7_blackenSpan_X7 hown hB m_t ((va_up_ne _ _ ne).trans h_t) rfl 1 (by decide) (hts (.fieldLink RX7 30 "PaperRoom$Text" "black" "[Z") (by decide +kernel)) (fun _ h9 => h9) rfl dX7_blackenSpan_36 ?_
        refine lv_iload hx hb dX7_blackenSpan_39 (lv_at hl 4 rfl) ?_
        refine n_zald hx hb hB m_bl (va_up_self _ _ _) k rfl (by omega) (by omega) dX7_blackenSpan_41 ?_
        refine b_topi (w := 0) (by rw [bl_f_at, hb1]) ?_
        refine b_if_eq_t 48 hx hb dX7_blackenSpan_42 (by decide) (by decide) ?_
        refine lv_iinc (v := nI (k + 1)) (lv' := [(4, .int (nI (k + 1))), (0, .ref (ad t)), (1, .int (nI x)), (2, .int (nI y)), (3, .int (nI (bl_c bk x y k)))]) hx hb dX7_blackenSpan_48 hl (k := 4) rfl (nI_add k 1) (by decide) rfl (fun ls hl => ?_)
        refine lv_goto (tgt := 5) hx hb dX7_blackenSpan_51 (by decide) ?_
        have e9 : bl_c bk x y (k + 1) = bl_c bk x y k := bl_c_out (by omega) hb1
        rw [← e9] at hl
        have hB : m_B D ty A s L ad (va_up g bl (.inl (ty 3, n, .inl (bl_f bk x y (k + 1))))) H locs := by
          rw [← bl_f_out (by omega)]; exact hB
        have hl : lv_has ls 5 [(0, .ref (ad t)), (1, .int (nI x)), (2, .int (nI y)), (3, .int (nI (bl_c bk x y (k + 1)))), (4, .int (nI (k + 1)))] := lv_sub hl [1, 2, 3, 4, 0] rfl
        apply ihj (k := (k + 1)) (H := H) (locs := locs) (ls := ls) <;> first | omega | exact hB | exact hl
      · skip
        refine lv_aload_n hx hb dX7_blackenSpan_35 rfl (lv_at hl 0 rfl) ?_
        refine m_get (C := RX7) (T := TX7) (N := 2) (ci := 7) hx hb hts in_X7_blackenSpan_X7 hown hB m_t ((va_up_ne _ _ ne).trans h_t) rfl 1 (by decide) (hts (.fieldLink RX7 30 "PaperRoom$Text" "black" "[Z") (by decide +kernel)) (fun _ h9 => h9) rfl dX7_blackenSpan_36 ?_
        refine lv_iload hx hb dX7_blackenSpan_39 (lv_at hl 4 rfl) ?_
        refine n_zald hx hb hB m_bl (va_up_self _ _ _) k rfl (by omega) (by omega) dX7_blackenSpan_41 ?_
        refine b_topi (w := 1) (by rw [bl_f_at, hb1]) ?_
        refine b_if_eq_f 48 hx hb dX7_blackenSpan_42 (by decide) (by decide) ?_
        refine lv_iinc (v := nI (bl_c bk x y (k + 1))) (lv' := [(3, .int (nI (bl_c bk x y (k + 1)))), (0, .ref (ad t)), (1, .int (nI x)), (2, .int (nI y)), (4, .int (nI k))]) hx hb dX7_blackenSpan_45 hl (k := 3) rfl (by rw [bl_c_in (Or.inr (by rw [hb1]; decide))]; exact nI_add _ 1) (by decide) rfl (fun ls hl => ?_)
        refine lv_iinc (v := nI (k + 1)) (lv' := [(4, .int (nI (k + 1))), (3, .int (nI (bl_c bk x y (k + 1)))), (0, .ref (ad t)), (1, .int (nI x)), (2, .int (nI y))]) hx hb dX7_blackenSpan_48 hl (k := 4) rfl (nI_add k 1) (by decide) rfl (fun ls hl => ?_)
        refine lv_goto (tgt := 5) hx hb dX7_blackenSpan_51 (by decide) ?_
        have hB : m_B D ty A s L ad (va_up g bl (.inl (ty 3, n, .inl (bl_f bk x y (k + 1))))) H locs := by
          rw [← bl_f_out (by omega)]; exact hB
        have hl : lv_has ls 5 [(0, .ref (ad t)), (1, .int (nI x)), (2, .int (nI y)), (3, .int (nI (bl_c bk x y (k + 1)))), (4, .int (nI (k + 1)))] := lv_sub hl [2, 3, 4, 1, 0] rfl
        apply ihj (k := (k + 1)) (H := H) (locs := locs) (ls := ls) <;> first | omega | exact hB | exact hl
    · skip
      refine lv_iload hx hb dX7_blackenSpan_5 (lv_at hl 4 rfl) ?_
      refine lv_aload_n hx hb dX7_blackenSpan_7 rfl (lv_at hl 0 rfl) ?_
      refine m_get (C := RX7) (T := TX7) (N := 2) (ci := 7) hx hb hts in_X7_blackenSpan_X7 hown hB m_t ((va_up_ne _ _ ne).trans h_t) rfl 1 (by decide) (hts (.fieldLink RX7 30 "PaperRoom$Text" "black" "[Z") (by decide +kernel)) (fun _ h9 => h9) rfl dX7_blackenSpan_8 ?_
      refine m_alen hx hb hB m_bl 3 (va_up_self _ _ _) rfl (v := nI n) rfl dX7_blackenSpan_11 ?_
      refine b_icmp_ge_f 54 hx hb dX7_blackenSpan_12 (by decide) (by omega) ?_
      refine lv_iload hx hb dX7_blackenSpan_15 (lv_at hl 4 rfl) ?_
      refine lv_iload_n hx hb dX7_blackenSpan_17 rfl (lv_at hl 1 rfl) ?_
      refine b_icmp_lt_f 35 hx hb dX7_blackenSpan_18 (by decide) (by omega) ?_
      refine lv_iload hx hb dX7_blackenSpan_21 (lv_at hl 4 rfl) ?_
      refine lv_iload_n hx hb dX7_blackenSpan_23 rfl (lv_at hl 2 rfl) ?_
      refine b_icmp_ge_f 35 hx hb dX7_blackenSpan_24 (by decide) (by omega) ?_
      refine lv_aload_n hx hb dX7_blackenSpan_27 rfl (lv_at hl 0 rfl) ?_
      refine m_get (C := RX7) (T := TX7) (N := 2) (ci := 7) hx hb hts in_X7_blackenSpan_X7 hown hB m_t ((va_up_ne _ _ ne).trans h_t) rfl 1 (by decide) (hts (.fieldLink RX7 30 "PaperRoom$Text" "black" "[Z") (by decide +kernel)) (fun _ h9 => h9) rfl dX7_blackenSpan_28 ?_
      refine lv_iload hx hb dX7_blackenSpan_31 (lv_at hl 4 rfl) ?_
      refine lv_iconst (v := 1) hx hb dX7_blackenSpan_33 (by decide) ?_
      refine n_zast hx hb hB m_bl (va_up_self _ _ _) k rfl (by omega) (by omega) dX7_blackenSpan_34 (fun H locs hB => ?_)
      replace hB : m_B D ty A s L ad (va_up (va_up g bl (.inl (ty 3, n, .inl (bl_f bk x y k)))) bl (.inl (ty 3, n, .inl (upd (bl_f bk x y k) k (vp_nar .boolean 1))))) H locs := hB
      refine lv_aload_n hx hb dX7_blackenSpan_35 rfl (lv_at hl 0 rfl) ?_
      refine m_get (C := RX7) (T := TX7) (N := 2) (ci := 7) hx hb hts in_X7_blackenSpan_X7 hown hB m_t ((va_up_ne _ _ ne).trans ((va_up_ne _ _ ne).trans h_t)) rfl 1 (by decide) (hts (.fieldLink RX7 30 "PaperRoom$Text" "black" "[Z") (by decide +kernel)) (fun _ h9 => h9) rfl dX7_blackenSpan_36 ?_
      refine lv_iload hx hb dX7_blackenSpan_39 (lv_at hl 4 rfl) ?_
      refine n_zald hx hb hB m_bl (va_up_self _ _ _) k rfl (by omega) (by omega) dX7_blackenSpan_41 ?_
      refine b_topi (w := 1) (by rw [pk_us]; decide) ?_
      refine b_if_eq_f 48 hx hb dX7_blackenSpan_42 (by decide) (by decide) ?_
      refine lv_iinc (v := nI (bl_c bk x y (k + 1))) (lv' := [(3, .int (nI (bl_c bk x y (k + 1)))), (0, .ref (ad t)), (1, .int (nI x)), (2, .int (nI y)), (4, .int (nI k))]) hx hb dX7_blackenSpan_45 hl (k := 3) rfl (by rw [bl_c_in (Or.inl ⟨by omega, by omega⟩)]; exact nI_add _ 1) (by decide) rfl (fun ls hl => ?_)
      refine lv_iinc (v := nI (k + 1)) (lv' := [(4, .int (nI (k + 1))), (3, .int (nI (bl_c bk x y (k + 1)))), (0, .ref (ad t)), (1, .int (nI x)), (2, .int (nI y))]) hx hb dX7_blackenSpan_48 hl (k := 4) rfl (nI_add k 1) (by decide) rfl (fun ls hl => ?_)
      refine lv_goto (tgt := 5) hx hb dX7_blackenSpan_51 (by decide) ?_
      have hB : m_B D ty A s L ad (va_up g bl (.inl (ty 3, n, .inl (bl_f bk x y (k + 1))))) H locs := by
        rw [bx_uu, bl_f_in (by omega) (by omega)] at hB; exact hB
      have hl : lv_has ls 5 [(0, .ref (ad t)), (1, .int (nI x)), (2, .int (nI y)), (3, .int (nI (bl_c bk x y (k + 1)))), (4, .int (nI (k + 1)))] := lv_sub hl [2, 3, 4, 1, 0] rfl
      apply ihj (k := (k + 1)) (H := H) (locs := locs) (ls := ls) <;> first | omega | exact hB | exact hl
