set_option maxHeartbeats 1000000 in
set_option maxRecDepth 100000 in
theorem c_Paper_copy (l : Launch) (D : va_G) (ty : Nat → ClassId) (L : List Nat) (ad : Nat → Nat) (g : Nat → va_E) (pp : Nat) (b : Int32) (t ro a bl n : Nat) (bs bk : Nat → Int32) (r ra n0 : Nat) (bs0 f : Nat → Int32) (m_t : t ∈ L) (m_ro : ro ∈ L) (m_a : a ∈ L) (m_bl : bl ∈ L) (m_r : r ∈ L) (m_ra : ra ∈ L) (h_t : g t = .inr (7, [.ref (ad ro), .ref (ad bl)])) (h_ro : g ro = .inr (5, [.ref (ad a), .int (nI n)])) (h_a : g a = .inl (ty 2, n, .inl bs)) (h_bl : g bl = .inl (ty 3, n, .inl bk)) (h_r : g r = .inr (5, [.ref (ad ra), .int (nI n0)])) (h_ra : g ra = .inl (ty 2, 80, .inl bs0)) (hc : n ≤ 40) (hbk : ∀ k, k < n → bk k = 0 ∨ bk k = 1) (hf : ∀ k, k < n → f k = pl (bs k) (bk k)) (h8 : ∀ k, k < n → (f k).toInt8.toInt32 = f k) (ne_t_r : t ≠ r) (ne_t_ra : t ≠ ra) (ne_ro_r : ro ≠ r) (ne_ro_ra : ro ≠ ra) (ne_a_r : a ≠ r) (ne_a_ra : a ≠ ra) (ne_bl_r : bl ≠ r) (ne_bl_ra : bl ≠ ra) (ne_r_ra : r ≠ ra) : m_E l yX2_copyFor wsX2_copyFor 3 63 D ty [.ref (ad pp), .int b, .ref (ad t), .ref (ad r)] L ad g none (va_up (va_up g ra (.inl (ty 2, 80, .inl (mkF false b f bs0 n)))) r (.inr (5, [.ref (ad ra), .int (nI (mkN false b f n))]))) := by
  intro sz
  refine Met.ofW (cc := cX2_copyFor) (maxL := 5) (ret := none) (by decide) rfl ?_
  intro p e s m args below meth c s₁ B hml hv
  have hx := B.exec
  have hb := B.bytes
  have hrt := B.returns
  have hts := atoms_spec (ws := wsX2_copyFor) B.pre
  have hown : s.vm.findClass RX2 = some m.cls := findClass_of_methodNamed B.named
  have hlocks := B.notSynchronized
  obtain ⟨rfl, hB⟩ := m_start hv
  generalize va_A (m_w L ad g) sz = A at hB ⊢
  generalize s.heap = H at hB ⊢
  generalize ([] : List Loc) = locs at hB ⊢
  have hl := lv_entry ([.ref (ad pp), .int b, .ref (ad t), .ref (ad r)]) (n := 5) (Nat.le_of_ble_eq_true rfl)
  rw [lg_entry_eq]
  generalize (lg_sl ([.ref (ad pp), .int b, .ref (ad t), .ref (ad r)]) ++ List.replicate (5 - (lg_sl ([.ref (ad pp), .int b, .ref (ad t), .ref (ad r)])).length) Slot.unset).toArray = ls at hl ⊢
  have hl : lv_has ls 5 [(0, .ref (ad pp)), (1, .int b), (2, .ref (ad t)), (3, .ref (ad r))] := hl
  have tI_n : (nI n).toInt = (n : Int) := nI_toInt (by omega)
  refine lv_aload_n hx hb dX2_copyFor_0 rfl (lv_at hl 3 rfl) ?_
  refine m_callVZ (ci := 5) (As := []) (rest := []) (c_Row_empty l D ty L ad g r ra n0 m_r h_r) ⟨hx, hb, hml, hown, hts⟩ (cwV 0 hts gX2_copyFor_X5_empty rfl rfl rfl (by decide +kernel) ⟨Nat.le_of_ble_eq_true rfl, Nat.le_of_ble_eq_true rfl⟩) hB m_r h_r rfl rfl hl.1 rfl (Nat.le_of_ble_eq_true rfl) dX2_copyFor_1 ⟨Nat.le_of_ble_eq_true rfl, Nat.le_of_ble_eq_true rfl⟩ (fun H locs hB => ?_)
  replace hB : m_B D ty A s L ad (va_up g r (.inr (5, [.ref (ad ra), .int 0]))) H locs := hB
  refine lv_iconst (v := 0) hx hb dX2_copyFor_4 (by decide) ?_
  refine lv_istore (lv' := [(4, .int 0), (0, .ref (ad pp)), (1, .int b), (2, .ref (ad t)), (3, .ref (ad r))]) hx hb dX2_copyFor_5 hl (by decide) rfl (fun ls hl => ?_)
  replace hl : lv_has ls 5 [(0, .ref (ad pp)), (1, .int b), (2, .ref (ad t)), (3, .ref (ad r)), (4, .int 0)] := lv_sub hl [1, 2, 3, 4, 0] rfl
  obtain ⟨k, hk0⟩ : ∃ k : Nat, k = 0 := ⟨0, rfl⟩
  replace hB : m_B D ty A s L ad (va_up (va_up g ra (.inl (ty 2, 80, .inl (mkF false b f bs0 k)))) r (.inr (5, [.ref (ad ra), .int (nI (mkN false b f k))]))) H locs := by
    rw [hk0]
    show m_B D ty A s L ad (va_up (va_up g ra (.inl (ty 2, 80, .inl bs0))) r (.inr (5, [.ref (ad ra), .int (nI 0)]))) H locs; rw [up_2 _ h_ra]; exact hB
  replace hl : lv_has ls 5 [(0, .ref (ad pp)), (1, .int b), (2, .ref (ad t)), (3, .ref (ad r)), (4, .int (nI k))] := by rw [hk0]; exact hl
  obtain ⟨jz, hj⟩ : ∃ jz : Nat, k + jz = n := ⟨n - k, by omega⟩
  clear hk0
  induction jz generalizing k H locs ls with
  | zero =>
    have hje : k = n := by omega
    have tI_k : (nI k).toInt = (k : Int) := nI_toInt (by omega)
    refine lv_iload hx hb dX2_copyFor_7 (lv_at hl 4 rfl) ?_
    refine lv_aload_n hx hb dX2_copyFor_9 rfl (lv_at hl 2 rfl) ?_
    refine m_callVE (ci := 7) (As := []) (rest := [.int (nI k)]) (c_Text_length l D ty L ad _ t ro a bl n m_t m_ro ((va_up_ne _ _ ne_t_r).trans ((va_up_ne _ _ ne_t_ra).trans h_t)) ((va_up_ne _ _ ne_ro_r).trans ((va_up_ne _ _ ne_ro_ra).trans h_ro))) ⟨hx, hb, hml, hown, hts⟩ (cwV 0 hts gX2_copyFor_X7_length rfl rfl rfl (by decide +kernel) ⟨Nat.le_of_ble_eq_true rfl, Nat.le_of_ble_eq_true rfl⟩) hB m_t ((va_up_ne _ _ ne_t_r).trans ((va_up_ne _ _ ne_t_ra).trans h_t)) rfl rfl hl.1 rfl (Nat.le_of_ble_eq_true rfl) dX2_copyFor_10 ⟨Nat.le_of_ble_eq_true rfl, Nat.le_of_ble_eq_true rfl⟩ (fun H locs hB => ?_)
    refine b_icmp_ge_t 32 hx hb dX2_copyFor_13 (by decide) (by omega) ?_
    exact m_vret hx hb hrt hlocks hB (Nat.le_refl _) (Nat.le_refl _) dX2_copyFor_32 ⟨rfl, rfl, rfl, by rw [hje]⟩
  | succ jz ihj =>
    have hjl : k < n := by omega
    have tI_k : (nI k).toInt = (k : Int) := nI_toInt (by omega)
    have hN := mkN_le false b f k
    refine lv_iload hx hb dX2_copyFor_7 (lv_at hl 4 rfl) ?_
    refine lv_aload_n hx hb dX2_copyFor_9 rfl (lv_at hl 2 rfl) ?_
    refine m_callVE (ci := 7) (As := []) (rest := [.int (nI k)]) (c_Text_length l D ty L ad _ t ro a bl n m_t m_ro ((va_up_ne _ _ ne_t_r).trans ((va_up_ne _ _ ne_t_ra).trans h_t)) ((va_up_ne _ _ ne_ro_r).trans ((va_up_ne _ _ ne_ro_ra).trans h_ro))) ⟨hx, hb, hml, hown, hts⟩ (cwV 0 hts gX2_copyFor_X7_length rfl rfl rfl (by decide +kernel) ⟨Nat.le_of_ble_eq_true rfl, Nat.le_of_ble_eq_true rfl⟩) hB m_t ((va_up_ne _ _ ne_t_r).trans ((va_up_ne _ _ ne_t_ra).trans h_t)) rfl rfl hl.1 rfl (Nat.le_of_ble_eq_true rfl) dX2_copyFor_10 ⟨Nat.le_of_ble_eq_true rfl, Nat.le_of_ble_eq_true rfl⟩ (fun H locs hB => ?_)
    refine b_icmp_ge_f 32 hx hb dX2_copyFor_13 (by decide) (by omega) ?_
    refine lv_aload_n hx hb dX2_copyFor_16 rfl (lv_at hl 3 rfl) ?_
    refine lv_aload_n hx hb dX2_copyFor_17 rfl (lv_at hl 2 rfl) ?_
    refine lv_iload hx hb dX2_copyFor_18 (lv_at hl 4 rfl) ?_
    refine m_callVE (ci := 7) (As := [.int (nI k)]) (rest := [.ref (ad r)]) (c_Text_plain l D ty L ad _ t ro a bl n bs bk k m_t m_ro m_a m_bl ((va_up_ne _ _ ne_t_r).trans ((va_up_ne _ _ ne_t_ra).trans h_t)) ((va_up_ne _ _ ne_ro_r).trans ((va_up_ne _ _ ne_ro_ra).trans h_ro)) ((va_up_ne _ _ ne_a_r).trans ((va_up_ne _ _ ne_a_ra).trans h_a)) ((va_up_ne _ _ ne_bl_r).trans ((va_up_ne _ _ ne_bl_ra).trans h_bl)) hc hjl (hbk k hjl)) ⟨hx, hb, hml, hown, hts⟩ (cwV 1 hts gX2_copyFor_X7_plain rfl rfl rfl (by decide +kernel) ⟨Nat.le_of_ble_eq_true rfl, Nat.le_of_ble_eq_true rfl⟩) hB m_t ((va_up_ne _ _ ne_t_r).trans ((va_up_ne _ _ ne_t_ra).trans h_t)) rfl rfl hl.1 rfl (Nat.le_of_ble_eq_true rfl) dX2_copyFor_20 ⟨Nat.le_of_ble_eq_true rfl, Nat.le_of_ble_eq_true rfl⟩ (fun H locs hB => ?_)
    refine b_topi (w := f k) ((hf k hjl).symm) ?_
    refine m_callVZ (ci := 5) (As := [.int (f k)]) (rest := []) (c_Row_put l D ty L ad _ r ra (mkN false b f k) 80 (mkF false b f bs0 k) (f k) m_r m_ra (va_up_self _ _ _) ((va_up_ne _ _ (Ne.symm ne_r_ra)).trans (va_up_self _ _ _)) ne_r_ra (by omega) (by omega) (h8 k hjl)) ⟨hx, hb, hml, hown, hts⟩ (cwV 1 hts gX2_copyFor_X5_put rfl rfl rfl (by decide +kernel) ⟨Nat.le_of_ble_eq_true rfl, Nat.le_of_ble_eq_true rfl⟩) hB m_r (va_up_self _ _ _) rfl rfl hl.1 rfl (Nat.le_of_ble_eq_true rfl) dX2_copyFor_23 ⟨Nat.le_of_ble_eq_true rfl, Nat.le_of_ble_eq_true rfl⟩ (fun H locs hB => ?_)
    replace hB : m_B D ty A s L ad (va_up (va_up g ra (.inl (ty 2, 80, .inl (upd (mkF false b f bs0 k) (mkN false b f k) (f k))))) r (.inr (5, [.ref (ad ra), .int (nI ((mkN false b f k) + 1))]))) H locs := by rw [up_4 ne_r_ra] at hB; exact hB
    refine lv_iinc (v := nI (k + 1)) (lv' := [(4, .int (nI (k + 1))), (0, .ref (ad pp)), (1, .int b), (2, .ref (ad t)), (3, .ref (ad r))]) hx hb dX2_copyFor_26 hl (k := 4) rfl (nI_add k 1) (by decide) rfl (fun ls hl => ?_)
    refine lv_goto (tgt := 7) hx hb dX2_copyFor_29 (by decide) ?_
    have eN := mkN_1 (z := false) (b := b) (f := f) (k := k) rfl
    have eF := mkF_1 (z := false) (b := b) (f := f) (base := bs0) (k := k) rfl
    have hB : m_B D ty A s L ad (va_up (va_up g ra (.inl (ty 2, 80, .inl (mkF false b f bs0 (k + 1))))) r (.inr (5, [.ref (ad ra), .int (nI (mkN false b f (k + 1)))]))) H locs := by
      rw [eN, ← eF]; exact hB
    have hl : lv_has ls 5 [(0, .ref (ad pp)), (1, .int b), (2, .ref (ad t)), (3, .ref (ad r)), (4, .int (nI (k + 1)))] := lv_sub hl [1, 2, 3, 4, 0] rfl
    apply ihj (k := (k + 1)) (H := H) (locs := locs) (ls := ls) <;> first | omega | exact hB | exact hl
set_option maxHeartbeats 1000000 in
set_option maxRecDepth 100000 in
theorem c_Marked_copy (l : Launch) (D : va_G) (ty : Nat → ClassId) (L : List Nat) (ad : Nat → Nat) (g : Nat → va_E) (pp : Nat) (b : Int32) (t ro a bl n : Nat) (bs bk : Nat → Int32) (r ra n0 : Nat) (bs0 f : Nat → Int32) (m_t : t ∈ L) (m_ro : ro ∈ L) (m_a : a ∈ L) (m_bl : bl ∈ L) (m_r : r ∈ L) (m_ra : ra ∈ L) (h_t : g t = .inr (7, [.ref (ad ro), .ref (ad bl)])) (h_ro : g ro = .inr (5, [.ref (ad a), .int (nI n)])) (h_a : g a = .inl (ty 2, n, .inl bs)) (h_bl : g bl = .inl (ty 3, n, .inl bk)) (h_r : g r = .inr (5, [.ref (ad ra), .int (nI n0)])) (h_ra : g ra = .inl (ty 2, 80, .inl bs0)) (hc : n ≤ 40) (hbk : ∀ k, k < n → bk k = 0 ∨ bk k = 1) (hf : ∀ k, k < n → f k = pl (bs k) (bk k)) (h8 : ∀ k, k < n → (f k).toInt8.toInt32 = f k) (ne_t_r : t ≠ r) (ne_t_ra : t ≠ ra) (ne_ro_r : ro ≠ r) (ne_ro_ra : ro ≠ ra) (ne_a_r : a ≠ r) (ne_a_ra : a ≠ ra) (ne_bl_r : bl ≠ r) (ne_bl_ra : bl ≠ ra) (ne_r_ra : r ≠ ra) : m_E l yX1_copyFor wsX1_copyFor 3 63 D ty [.ref (ad pp), .int b, .ref (ad t), .ref (ad r)] L ad g none (va_up (va_up g ra (.inl (ty 2, 80, .inl (mkF true b f bs0 n)))) r (.inr (5, [.ref (ad ra), .int (nI (mkN true b f n))]))) := by
  intro sz
  refine Met.ofW (cc := cX1_copyFor) (maxL := 7) (ret := none) (by decide) rfl ?_
  intro p e s m args below meth c s₁ B hml hv
  have hx := B.exec
  have hb := B.bytes
  have hrt := B.returns
  have hts := atoms_spec (ws := wsX1_copyFor) B.pre
  have hown : s.vm.findClass RX1 = some m.cls := findClass_of_methodNamed B.named
  have hlocks := B.notSynchronized
  obtain ⟨rfl, hB⟩ := m_start hv
  generalize va_A (m_w L ad g) sz = A at hB ⊢
  generalize s.heap = H at hB ⊢
  generalize ([] : List Loc) = locs at hB ⊢
  have hl := lv_entry ([.ref (ad pp), .int b, .ref (ad t), .ref (ad r)]) (n := 7) (Nat.le_of_ble_eq_true rfl)
  rw [lg_entry_eq]
  generalize (lg_sl ([.ref (ad pp), .int b, .ref (ad t), .ref (ad r)]) ++ List.replicate (7 - (lg_sl ([.ref (ad pp), .int b, .ref (ad t), .ref (ad r)])).length) Slot.unset).toArray = ls at hl ⊢
  have hl : lv_has ls 7 [(0, .ref (ad pp)), (1, .int b), (2, .ref (ad t)), (3, .ref (ad r))] := hl
  have tI_n : (nI n).toInt = (n : Int) := nI_toInt (by omega)
  refine lv_aload_n hx hb dX1_copyFor_0 rfl (lv_at hl 3 rfl) ?_
  refine m_callVZ (ci := 5) (As := []) (rest := []) (c_Row_empty l D ty L ad g r ra n0 m_r h_r) ⟨hx, hb, hml, hown, hts⟩ (cwV 0 hts gX1_copyFor_X5_empty rfl rfl rfl (by decide +kernel) ⟨Nat.le_of_ble_eq_true rfl, Nat.le_of_ble_eq_true rfl⟩) hB m_r h_r rfl rfl hl.1 rfl (Nat.le_of_ble_eq_true rfl) dX1_copyFor_1 ⟨Nat.le_of_ble_eq_true rfl, Nat.le_of_ble_eq_true rfl⟩ (fun H locs hB => ?_)
  replace hB : m_B D ty A s L ad (va_up g r (.inr (5, [.ref (ad ra), .int 0]))) H locs := hB
  refine lv_iconst (v := 0) hx hb dX1_copyFor_4 (by decide) ?_
  refine lv_istore (lv' := [(4, .int 0), (0, .ref (ad pp)), (1, .int b), (2, .ref (ad t)), (3, .ref (ad r))]) hx hb dX1_copyFor_5 hl (by decide) rfl (fun ls hl => ?_)
  refine lv_iconst (v := 0) hx hb dX1_copyFor_7 (by decide) ?_
  refine lv_istore (lv' := [(5, .int 0), (4, .int 0), (0, .ref (ad pp)), (1, .int b), (2, .ref (ad t)), (3, .ref (ad r))]) hx hb dX1_copyFor_8 hl (by decide) rfl (fun ls hl => ?_)
  replace hl : lv_has ls 7 [(0, .ref (ad pp)), (1, .int b), (2, .ref (ad t)), (3, .ref (ad r)), (4, .int 0), (5, .int 0)] := lv_sub hl [2, 3, 4, 5, 1, 0] rfl
  obtain ⟨k, hk0⟩ : ∃ k : Nat, k = 0 := ⟨0, rfl⟩
  replace hB : m_B D ty A s L ad (va_up (va_up g ra (.inl (ty 2, 80, .inl (mkF true b f bs0 k)))) r (.inr (5, [.ref (ad ra), .int (nI (mkN true b f k))]))) H locs := by
    rw [hk0]
    show m_B D ty A s L ad (va_up (va_up g ra (.inl (ty 2, 80, .inl bs0))) r (.inr (5, [.ref (ad ra), .int (nI 0)]))) H locs; rw [up_2 _ h_ra]; exact hB
  replace hl : lv_has ls 7 [(0, .ref (ad pp)), (1, .int b), (2, .ref (ad t)), (3, .ref (ad r)), (4, .int (nI (mkS f k))), (5, .int (nI k))] := by rw [hk0]; exact hl
  obtain ⟨jz, hj⟩ : ∃ jz : Nat, k + jz = n := ⟨n - k, by omega⟩
  clear hk0
  induction jz generalizing k H locs ls with
  | zero =>
    have hje : k = n := by omega
    have tI_k : (nI k).toInt = (k : Int) := nI_toInt (by omega)
    refine lv_iload hx hb dX1_copyFor_10 (lv_at hl 5 rfl) ?_
    refine lv_aload_n hx hb dX1_copyFor_12 rfl (lv_at hl 2 rfl) ?_
    refine m_callVE (ci := 7) (As := []) (rest := [.int (nI k)]) (c_Text_length l D ty L ad _ t ro a bl n m_t m_ro ((va_up_ne _ _ ne_t_r).trans ((va_up_ne _ _ ne_t_ra).trans h_t)) ((va_up_ne _ _ ne_ro_r).trans ((va_up_ne _ _ ne_ro_ra).trans h_ro))) ⟨hx, hb, hml, hown, hts⟩ (cwV 0 hts gX1_copyFor_X7_length rfl rfl rfl (by decide +kernel) ⟨Nat.le_of_ble_eq_true rfl, Nat.le_of_ble_eq_true rfl⟩) hB m_t ((va_up_ne _ _ ne_t_r).trans ((va_up_ne _ _ ne_t_ra).trans h_t)) rfl rfl hl.1 rfl (Nat.le_of_ble_eq_true rfl) dX1_copyFor_13 ⟨Nat.le_of_ble_eq_true rfl, Nat.le_of_ble_eq_true rfl⟩ (fun H locs hB => ?_)
    refine b_icmp_ge_t 67 hx hb dX1_copyFor_16 (by decide) (by omega) ?_
    exact m_vret hx hb hrt hlocks hB (Nat.le_refl _) (Nat.le_refl _) dX1_copyFor_67 ⟨rfl, rfl, rfl, by rw [hje]⟩
  | succ jz ihj =>
    have hjl : k < n := by omega
    have tI_k : (nI k).toInt = (k : Int) := nI_toInt (by omega)
    have hN := mkN_le true b f k
    by_cases h32 : f k = 32
    · skip
      rcases (show dbl b (mkS f k) = true ∨ dbl b (mkS f k) = false by cases dbl b (mkS f k) <;> simp) with hd | hd
      · skip
        refine lv_iload hx hb dX1_copyFor_10 (lv_at hl 5 rfl) ?_
        refine lv_aload_n hx hb dX1_copyFor_12 rfl (lv_at hl 2 rfl) ?_
        refine m_callVE (ci := 7) (As := []) (rest := [.int (nI k)]) (c_Text_length l D ty L ad _ t ro a bl n m_t m_ro ((va_up_ne _ _ ne_t_r).trans ((va_up_ne _ _ ne_t_ra).trans h_t)) ((va_up_ne _ _ ne_ro_r).trans ((va_up_ne _ _ ne_ro_ra).trans h_ro))) ⟨hx, hb, hml, hown, hts⟩ (cwV 0 hts gX1_copyFor_X7_length rfl rfl rfl (by decide +kernel) ⟨Nat.le_of_ble_eq_true rfl, Nat.le_of_ble_eq_true rfl⟩) hB m_t ((va_up_ne _ _ ne_t_r).trans ((va_up_ne _ _ ne_t_ra).trans h_t)) rfl rfl hl.1 rfl (Nat.le_of_ble_eq_true rfl) dX1_copyFor_13 ⟨Nat.le_of_ble_eq_true rfl, Nat.le_of_ble_eq_true rfl⟩ (fun H locs hB => ?_)
        refine b_icmp_ge_f 67 hx hb dX1_copyFor_16 (by decide) (by omega) ?_
        refine lv_aload_n hx hb dX1_copyFor_19 rfl (lv_at hl 2 rfl) ?_
        refine lv_iload hx hb dX1_copyFor_20 (lv_at hl 5 rfl) ?_
        refine m_callVE (ci := 7) (As := [.int (nI k)]) (rest := []) (c_Text_plain l D ty L ad _ t ro a bl n bs bk k m_t m_ro m_a m_bl ((va_up_ne _ _ ne_t_r).trans ((va_up_ne _ _ ne_t_ra).trans h_t)) ((va_up_ne _ _ ne_ro_r).trans ((va_up_ne _ _ ne_ro_ra).trans h_ro)) ((va_up_ne _ _ ne_a_r).trans ((va_up_ne _ _ ne_a_ra).trans h_a)) ((va_up_ne _ _ ne_bl_r).trans ((va_up_ne _ _ ne_bl_ra).trans h_bl)) hc hjl (hbk k hjl)) ⟨hx, hb, hml, hown, hts⟩ (cwV 1 hts gX1_copyFor_X7_plain rfl rfl rfl (by decide +kernel) ⟨Nat.le_of_ble_eq_true rfl, Nat.le_of_ble_eq_true rfl⟩) hB m_t ((va_up_ne _ _ ne_t_r).trans ((va_up_ne _ _ ne_t_ra).trans h_t)) rfl rfl hl.1 rfl (Nat.le_of_ble_eq_true rfl) dX1_copyFor_22 ⟨Nat.le_of_ble_eq_true rfl, Nat.le_of_ble_eq_true rfl⟩ (fun H locs hB => ?_)
        refine b_topi (w := f k) ((hf k hjl).symm) ?_
        refine lv_istore (lv' := [(6, .int (f k)), (0, .ref (ad pp)), (1, .int b), (2, .ref (ad t)), (3, .ref (ad r)), (4, .int (nI (mkS f k))), (5, .int (nI k))]) hx hb dX1_copyFor_25 hl (by decide) rfl (fun ls hl => ?_)
        refine lv_aload_n hx hb dX1_copyFor_27 rfl (lv_at hl 4 rfl) ?_
        refine lv_iload hx hb dX1_copyFor_28 (lv_at hl 0 rfl) ?_
        refine m_callVZ (ci := 5) (As := [.int (f k)]) (rest := []) (c_Row_put l D ty L ad _ r ra (mkN true b f k) 80 (mkF true b f bs0 k) (f k) m_r m_ra (va_up_self _ _ _) ((va_up_ne _ _ (Ne.symm ne_r_ra)).trans (va_up_self _ _ _)) ne_r_ra (by omega) (by omega) (h8 k hjl)) ⟨hx, hb, hml, hown, hts⟩ (cwV 1 hts gX1_copyFor_X5_put rfl rfl rfl (by decide +kernel) ⟨Nat.le_of_ble_eq_true rfl, Nat.le_of_ble_eq_true rfl⟩) hB m_r (va_up_self _ _ _) rfl rfl hl.1 rfl (Nat.le_of_ble_eq_true rfl) dX1_copyFor_30 ⟨Nat.le_of_ble_eq_true rfl, Nat.le_of_ble_eq_true rfl⟩ (fun H locs hB => ?_)
        replace hB : m_B D ty A s L ad (va_up (va_up g ra (.inl (ty 2, 80, .inl (upd (mkF true b f bs0 k) (mkN true b f k) (f k))))) r (.inr (5, [.ref (ad ra), .int (nI ((mkN true b f k) + 1))]))) H locs := by rw [up_4 ne_r_ra] at hB; exact hB
        refine lv_iload hx hb dX1_copyFor_33 (lv_at hl 0 rfl) ?_
        refine lv_bipush (v := 32) hx hb dX1_copyFor_35 (by decide) ?_
        refine b_icmp_ne_f 61 hx hb dX1_copyFor_37 (by decide) (by rw [h32]) ?_
        refine lv_iload_n hx hb dX1_copyFor_40 rfl (lv_at hl 2 rfl) ?_
        refine lv_iload hx hb dX1_copyFor_41 (lv_at hl 5 rfl) ?_
        refine lv_iconst (v := 3) hx hb dX1_copyFor_43 (by decide) ?_
        refine lv_irem hx hb dX1_copyFor_44 (by decide) ?_
        refine lv_ishr hx hb dX1_copyFor_45 ?_
        refine lv_iconst (v := 1) hx hb dX1_copyFor_46 (by decide) ?_
        refine lv_iand hx hb dX1_copyFor_47 ?_
        refine lv_iconst (v := 1) hx hb dX1_copyFor_48 (by decide) ?_
        refine b_icmp_ne_f 58 hx hb dX1_copyFor_49 (by decide) (by rw [of_decide_eq_true hd]) ?_
        refine lv_aload_n hx hb dX1_copyFor_52 rfl (lv_at hl 4 rfl) ?_
        refine lv_bipush (v := 32) hx hb dX1_copyFor_53 (by decide) ?_
        refine m_callVZ (ci := 5) (As := [.int 32]) (rest := []) (c_Row_put l D ty L ad _ r ra (mkN true b f k + 1) 80 (upd (mkF true b f bs0 k) (mkN true b f k) (f k)) 32 m_r m_ra (va_up_self _ _ _) ((va_up_ne _ _ (Ne.symm ne_r_ra)).trans (va_up_self _ _ _)) ne_r_ra (by omega) (by omega) (by decide)) ⟨hx, hb, hml, hown, hts⟩ (cwV 1 hts gX1_copyFor_X5_put rfl rfl rfl (by decide +kernel) ⟨Nat.le_of_ble_eq_true rfl, Nat.le_of_ble_eq_true rfl⟩) hB m_r (va_up_self _ _ _) rfl rfl hl.1 rfl (Nat.le_of_ble_eq_true rfl) dX1_copyFor_55 ⟨Nat.le_of_ble_eq_true rfl, Nat.le_of_ble_eq_true rfl⟩ (fun H locs hB => ?_)
        replace hB : m_B D ty A s L ad (va_up (va_up g ra (.inl (ty 2, 80, .inl (upd (upd (mkF true b f bs0 k) (mkN true b f k) (f k)) (mkN true b f k + 1) 32)))) r (.inr (5, [.ref (ad ra), .int (nI ((mkN true b f k + 1) + 1))]))) H locs := by rw [up_4 ne_r_ra] at hB; exact hB
        refine lv_iinc (v := nI (mkS f (k + 1))) (lv' := [(4, .int (nI (mkS f (k + 1)))), (6, .int (f k)), (0, .ref (ad pp)), (1, .int b), (2, .ref (ad t)), (3, .ref (ad r)), (5, .int (nI k))]) hx hb dX1_copyFor_58 hl (k := 5) rfl (by rw [mkS_1 h32]; exact nI_add _ 1) (by decide) rfl (fun ls hl => ?_)
        refine lv_iinc (v := nI (k + 1)) (lv' := [(5, .int (nI (k + 1))), (4, .int (nI (mkS f (k + 1)))), (6, .int (f k)), (0, .ref (ad pp)), (1, .int b), (2, .ref (ad t)), (3, .ref (ad r))]) hx hb dX1_copyFor_61 hl (k := 6) rfl (nI_add k 1) (by decide) rfl (fun ls hl => ?_)
        refine lv_goto (tgt := 10) hx hb dX1_copyFor_64 (by decide) ?_
        have eN := mkN_2 (z := true) (b := b) (f := f) (k := k) (by rw [dt h32, hd]; rfl)
        have eF := mkF_2 (z := true) (b := b) (f := f) (base := bs0) (k := k) (by rw [dt h32, hd]; rfl)
        have hB : m_B D ty A s L ad (va_up (va_up g ra (.inl (ty 2, 80, .inl (mkF true b f bs0 (k + 1))))) r (.inr (5, [.ref (ad ra), .int (nI (mkN true b f (k + 1)))]))) H locs := by
          rw [eN, ← eF]; exact hB
        have hl : lv_has ls 7 [(0, .ref (ad pp)), (1, .int b), (2, .ref (ad t)), (3, .ref (ad r)), (4, .int (nI (mkS f (k + 1)))), (5, .int (nI (k + 1)))] := lv_sub hl [3, 4, 5, 6, 1, 0] rfl
        apply ihj (k := (k + 1)) (H := H) (locs := locs) (ls := ls) <;> first | omega | exact hB | exact hl
      · skip
        refine lv_iload hx hb dX1_copyFor_10 (lv_at hl 5 rfl) ?_
        refine lv_aload_n hx hb dX1_copyFor_12 rfl (lv_at hl 2 rfl) ?_
        refine m_callVE (ci := 7) (As := []) (rest := [.int (nI k)]) (c_Text_length l D ty L ad _ t ro a bl n m_t m_ro ((va_up_ne _ _ ne_t_r).trans ((va_up_ne _ _ ne_t_ra).trans h_t)) ((va_up_ne _ _ ne_ro_r).trans ((va_up_ne _ _ ne_ro_ra).trans h_ro))) ⟨hx, hb, hml, hown, hts⟩ (cwV 0 hts gX1_copyFor_X7_length rfl rfl rfl (by decide +kernel) ⟨Nat.le_of_ble_eq_true rfl, Nat.le_of_ble_eq_true rfl⟩) hB m_t ((va_up_ne _ _ ne_t_r).trans ((va_up_ne _ _ ne_t_ra).trans h_t)) rfl rfl hl.1 rfl (Nat.le_of_ble_eq_true rfl) dX1_copyFor_13 ⟨Nat.le_of_ble_eq_true rfl, Nat.le_of_ble_eq_true rfl⟩ (fun H locs hB => ?_)
        refine b_icmp_ge_f 67 hx hb dX1_copyFor_16 (by decide) (by omega) ?_
        refine lv_aload_n hx hb dX1_copyFor_19 rfl (lv_at hl 2 rfl) ?_
        refine lv_iload hx hb dX1_copyFor_20 (lv_at hl 5 rfl) ?_
        refine m_callVE (ci := 7) (As := [.int (nI k)]) (rest := []) (c_Text_plain l D ty L ad _ t ro a bl n bs bk k m_t m_ro m_a m_bl ((va_up_ne _ _ ne_t_r).trans ((va_up_ne _ _ ne_t_ra).trans h_t)) ((va_up_ne _ _ ne_ro_r).trans ((va_up_ne _ _ ne_ro_ra).trans h_ro)) ((va_up_ne _ _ ne_a_r).trans ((va_up_ne _ _ ne_a_ra).trans h_a)) ((va_up_ne _ _ ne_bl_r).trans ((va_up_ne _ _ ne_bl_ra).trans h_bl)) hc hjl (hbk k hjl)) ⟨hx, hb, hml, hown, hts⟩ (cwV 1 hts gX1_copyFor_X7_plain rfl rfl rfl (by decide +kernel) ⟨Nat.le_of_ble_eq_true rfl, Nat.le_of_ble_eq_true rfl⟩) hB m_t ((va_up_ne _ _ ne_t_r).trans ((va_up_ne _ _ ne_t_ra).trans h_t)) rfl rfl hl.1 rfl (Nat.le_of_ble_eq_true rfl) dX1_copyFor_22 ⟨Nat.le_of_ble_eq_true rfl, Nat.le_of_ble_eq_true rfl⟩ (fun H locs hB => ?_)
        refine b_topi (w := f k) ((hf k hjl).symm) ?_
        refine lv_istore (lv' := [(6, .int (f k)), (0, .ref (ad pp)), (1, .int b), (2, .ref (ad t)), (3, .ref (ad r)), (4, .int (nI (mkS f k))), (5, .int (nI k))]) hx hb dX1_copyFor_25 hl (by decide) rfl (fun ls hl => ?_)
        refine lv_aload_n hx hb dX1_copyFor_27 rfl (lv_at hl 4 rfl) ?_
        refine lv_iload hx hb dX1_copyFor_28 (lv_at hl 0 rfl) ?_
        refine m_callVZ (ci := 5) (As := [.int (f k)]) (rest := []) (c_Row_put l D ty L ad _ r ra (mkN true b f k) 80 (mkF true b f bs0 k) (f k) m_r m_ra (va_up_self _ _ _) ((va_up_ne _ _ (Ne.symm ne_r_ra)).trans (va_up_self _ _ _)) ne_r_ra (by omega) (by omega) (h8 k hjl)) ⟨hx, hb, hml, hown, hts⟩ (cwV 1 hts gX1_copyFor_X5_put rfl rfl rfl (by decide +kernel) ⟨Nat.le_of_ble_eq_true rfl, Nat.le_of_ble_eq_true rfl⟩) hB m_r (va_up_self _ _ _) rfl rfl hl.1 rfl (Nat.le_of_ble_eq_true rfl) dX1_copyFor_30 ⟨Nat.le_of_ble_eq_true rfl, Nat.le_of_ble_eq_true rfl⟩ (fun H locs hB => ?_)
        replace hB : m_B D ty A s L ad (va_up (va_up g ra (.inl (ty 2, 80, .inl (upd (mkF true b f bs0 k) (mkN true b f k) (f k))))) r (.inr (5, [.ref (ad ra), .int (nI ((mkN true b f k) + 1))]))) H locs := by rw [up_4 ne_r_ra] at hB; exact hB
        refine lv_iload hx hb dX1_copyFor_33 (lv_at hl 0 rfl) ?_
        refine lv_bipush (v := 32) hx hb dX1_copyFor_35 (by decide) ?_
        refine b_icmp_ne_f 61 hx hb dX1_copyFor_37 (by decide) (by rw [h32]) ?_
        refine lv_iload_n hx hb dX1_copyFor_40 rfl (lv_at hl 2 rfl) ?_
        refine lv_iload hx hb dX1_copyFor_41 (lv_at hl 5 rfl) ?_
        refine lv_iconst (v := 3) hx hb dX1_copyFor_43 (by decide) ?_
        refine lv_irem hx hb dX1_copyFor_44 (by decide) ?_
        refine lv_ishr hx hb dX1_copyFor_45 ?_
        refine lv_iconst (v := 1) hx hb dX1_copyFor_46 (by decide) ?_
        refine lv_iand hx hb dX1_copyFor_47 ?_
        refine lv_iconst (v := 1) hx hb dX1_copyFor_48 (by decide) ?_
        refine b_icmp_ne_t 58 hx hb dX1_copyFor_49 (by decide) (fun h8 => of_decide_eq_false hd ((i_eq _ _).mpr h8)) ?_
        refine lv_iinc (v := nI (mkS f (k + 1))) (lv' := [(4, .int (nI (mkS f (k + 1)))), (6, .int (f k)), (0, .ref (ad pp)), (1, .int b), (2, .ref (ad t)), (3, .ref (ad r)), (5, .int (nI k))]) hx hb dX1_copyFor_58 hl (k := 5) rfl (by rw [mkS_1 h32]; exact nI_add _ 1) (by decide) rfl (fun ls hl => ?_)
        refine lv_iinc (v := nI (k + 1)) (lv' := [(5, .int (nI (k + 1))), (4, .int (nI (mkS f (k + 1)))), (6, .int (f k)), (0, .ref (ad pp)), (1, .int b), (2, .ref (ad t)), (3, .ref (ad r))]) hx hb dX1_copyFor_61 hl (k := 6) rfl (nI_add k 1) (by decide) rfl (fun ls hl => ?_)
        refine lv_goto (tgt := 10) hx hb dX1_copyFor_64 (by decide) ?_
        have eN := mkN_1 (z := true) (b := b) (f := f) (k := k) (by rw [hd]; simp)
        have eF := mkF_1 (z := true) (b := b) (f := f) (base := bs0) (k := k) (by rw [hd]; simp)
        have hB : m_B D ty A s L ad (va_up (va_up g ra (.inl (ty 2, 80, .inl (mkF true b f bs0 (k + 1))))) r (.inr (5, [.ref (ad ra), .int (nI (mkN true b f (k + 1)))]))) H locs := by
          rw [eN, ← eF]; exact hB
        have hl : lv_has ls 7 [(0, .ref (ad pp)), (1, .int b), (2, .ref (ad t)), (3, .ref (ad r)), (4, .int (nI (mkS f (k + 1)))), (5, .int (nI (k + 1)))] := lv_sub hl [3, 4, 5, 6, 1, 0] rfl
        apply ihj (k := (k + 1)) (H := H) (locs := locs) (ls := ls) <;> first | omega | exact hB | exact hl
    · skip
      refine lv_iload hx hb dX1_copyFor_10 (lv_at hl 5 rfl) ?_
      refine lv_aload_n hx hb dX1_copyFor_12 rfl (lv_at hl 2 rfl) ?_
      refine m_callVE (ci := 7) (As := []) (rest := [.int (nI k)]) (c_Text_length l D ty L ad _ t ro a bl n m_t m_ro ((va_up_ne _ _ ne_t_r).trans ((va_up_ne _ _ ne_t_ra).trans h_t)) ((va_up_ne _ _ ne_ro_r).trans ((va_up_ne _ _ ne_ro_ra).trans h_ro))) ⟨hx, hb, hml, hown, hts⟩ (cwV 0 hts gX1_copyFor_X7_length rfl rfl rfl (by decide +kernel) ⟨Nat.le_of_ble_eq_true rfl, Nat.le_of_ble_eq_true rfl⟩) hB m_t ((va_up_ne _ _ ne_t_r).trans ((va_up_ne _ _ ne_t_ra).trans h_t)) rfl rfl hl.1 rfl (Nat.le_of_ble_eq_true rfl) dX1_copyFor_13 ⟨Nat.le_of_ble_eq_true rfl, Nat.le_of_ble_eq_true rfl⟩ (fun H locs hB => ?_)
      refine b_icmp_ge_f 67 hx hb dX1_copyFor_16 (by decide) (by omega) ?_
      refine lv_aload_n hx hb dX1_copyFor_19 rfl (lv_at hl 2 rfl) ?_
      refine lv_iload hx hb dX1_copyFor_20 (lv_at hl 5 rfl) ?_
      refine m_callVE (ci := 7) (As := [.int (nI k)]) (rest := []) (c_Text_plain l D ty L ad _ t ro a bl n bs bk k m_t m_ro m_a m_bl ((va_up_ne _ _ ne_t_r).trans ((va_up_ne _ _ ne_t_ra).trans h_t)) ((va_up_ne _ _ ne_ro_r).trans ((va_up_ne _ _ ne_ro_ra).trans h_ro)) ((va_up_ne _ _ ne_a_r).trans ((va_up_ne _ _ ne_a_ra).trans h_a)) ((va_up_ne _ _ ne_bl_r).trans ((va_up_ne _ _ ne_bl_ra).trans h_bl)) hc hjl (hbk k hjl)) ⟨hx, hb, hml, hown, hts⟩ (cwV 1 hts gX1_copyFor_X7_plain rfl rfl rfl (by decide +kernel) ⟨Nat.le_of_ble_eq_true rfl, Nat.le_of_ble_eq_true rfl⟩) hB m_t ((va_up_ne _ _ ne_t_r).trans ((va_up_ne _ _ ne_t_ra).trans h_t)) rfl rfl hl.1 rfl (Nat.le_of_ble_eq_true rfl) dX1_copyFor_22 ⟨Nat.le_of_ble_eq_true rfl, Nat.le_of_ble_eq_true rfl⟩ (fun H locs hB => ?_)
      refine b_topi (w := f k) ((hf k hjl).symm) ?_
      refine lv_istore (lv' := [(6, .int (f k)), (0, .ref (ad pp)), (1, .int b), (2, .ref (ad t)), (3, .ref (ad r)), (4, .int (nI (mkS f k))), (5, .int (nI k))]) hx hb dX1_copyFor_25 hl (by decide) rfl (fun ls hl => ?_)
      refine lv_aload_n hx hb dX1_copyFor_27 rfl (lv_at hl 4 rfl) ?_
      refine lv_iload hx hb dX1_copyFor_28 (lv_at hl 0 rfl) ?_
      refine m_callVZ (ci := 5) (As := [.int (f k)]) (rest := []) (c_Row_put l D ty L ad _ r ra (mkN true b f k) 80 (mkF true b f bs0 k) (f k) m_r m_ra (va_up_self _ _ _) ((va_up_ne _ _ (Ne.symm ne_r_ra)).trans (va_up_self _ _ _)) ne_r_ra (by omega) (by omega) (h8 k hjl)) ⟨hx, hb, hml, hown, hts⟩ (cwV 1 hts gX1_copyFor_X5_put rfl rfl rfl (by decide +kernel) ⟨Nat.le_of_ble_eq_true rfl, Nat.le_of_ble_eq_true rfl⟩) hB m_r (va_up_self _ _ _) rfl rfl hl.1 rfl (Nat.le_of_ble_eq_true rfl) dX1_copyFor_30 ⟨Nat.le_of_ble_eq_true rfl, Nat.le_of_ble_eq_true rfl⟩ (fun H locs hB => ?_)
      replace hB : m_B D ty A s L ad (va_up (va_up g ra (.inl (ty 2, 80, .inl (upd (mkF true b f bs0 k) (mkN true b f k) (f k))))) r (.inr (5, [.ref (ad ra), .int (nI ((mkN true b f k) + 1))]))) H locs := by rw [up_4 ne_r_ra] at hB; exact hB
      refine lv_iload hx hb dX1_copyFor_33 (lv_at hl 0 rfl) ?_
      refine lv_bipush (v := 32) hx hb dX1_copyFor_35 (by decide) ?_
      refine b_icmp_ne_t 61 hx hb dX1_copyFor_37 (by decide) (fun h8 => h32 ((i_eq _ _).mpr h8)) ?_
      refine lv_iinc (v := nI (k + 1)) (lv' := [(5, .int (nI (k + 1))), (6, .int (f k)), (0, .ref (ad pp)), (1, .int b), (2, .ref (ad t)), (3, .ref (ad r)), (4, .int (nI (mkS f k)))]) hx hb dX1_copyFor_61 hl (k := 6) rfl (nI_add k 1) (by decide) rfl (fun ls hl => ?_)
      refine lv_goto (tgt := 10) hx hb dX1_copyFor_64 (by decide) ?_
      have eS := mkS_0 h32
      rw [← eS] at hl
      have eN := mkN_1 (z := true) (b := b) (f := f) (k := k) (by rw [df h32]; simp)
      have eF := mkF_1 (z := true) (b := b) (f := f) (base := bs0) (k := k) (by rw [df h32]; simp)
      have hB : m_B D ty A s L ad (va_up (va_up g ra (.inl (ty 2, 80, .inl (mkF true b f bs0 (k + 1))))) r (.inr (5, [.ref (ad ra), .int (nI (mkN true b f (k + 1)))]))) H locs := by
        rw [eN, ← eF]; exact hB
      have hl : lv_has ls 7 [(0, .ref (ad pp)), (1, .int b), (2, .ref (ad t)), (3, .ref (ad r)), (4, .int (nI (mkS f (k + 1)))), (5, .int (nI (k + 1)))] := lv_sub hl [2, 3, 4, 5, 6, 0] rfl
      apply ihj (k := (k + 1)) (H := H) (locs := locs) (ls := ls) <;> first | omega | exact hB | exact hl
