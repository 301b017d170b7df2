set_option maxRecDepth 20000 in
theorem in_X7_holdsAt_X7 : ∀ w ∈ wsX70, w ∈ wsX7_holdsAt := by decide +kernel
set_option maxHeartbeats 1000000 in
set_option maxRecDepth 100000 in
theorem c_Text_holdsAt (l : Launch) (D : va_G) (ty : Nat → ClassId) (L : List Nat) (ad : Nat → Nat) (g : Nat → va_E) (t ro a bl n : Nat) (bs bk : Nat → Int32) (r2 a2 n2 cap2 : Nat) (bs2 : Nat → Int32) (q : Nat) (m_t : t ∈ L) (m_ro : ro ∈ L) (m_a : a ∈ L) (m_bl : bl ∈ L) (m_r2 : r2 ∈ L) (m_a2 : a2 ∈ L) (h_t : g t = .inr (7, [.ref (ad ro), .ref (ad bl)])) (h_ro : g ro = .inr (5, [.ref (ad a), .int (nI n)])) (h_a : g a = .inl (ty 2, n, .inl bs)) (h_bl : g bl = .inl (ty 3, n, .inl bk)) (h_r2 : g r2 = .inr (5, [.ref (ad a2), .int (nI n2)])) (h_a2 : g a2 = .inl (ty 2, cap2, .inl bs2)) (hc : n ≤ 40) (hn2 : n2 ≤ cap2) (hc2 : cap2 ≤ 40) (hbk : ∀ k, k < n → bk k = 0 ∨ bk k = 1) (hq : q + n2 ≤ n) : m_E l yX7_holdsAt wsX7_holdsAt 2 42 D ty [.ref (ad t), .int (nI q), .ref (ad r2)] L ad g (some (.int (zb (ma bs bk bs2 q n2)))) g := by
  intro sz
  refine Met.ofW (cc := cX7_holdsAt) (maxL := 4) (ret := (some .boolean)) (by decide) rfl ?_
  intro p e s m args below meth c s₁ B hml hv
  have hx := B.exec
  have hb := B.bytes
  have hrt := B.returns
  have hts := atoms_spec (ws := wsX7_holdsAt) B.pre
  have hown : s.vm.findClass RX7 = some m.cls := findClass_of_methodNamed B.named
  have hlocks := B.notSynchronized
  obtain ⟨rfl, hB⟩ := m_start hv
  generalize va_A (m_w L ad g) sz = A at hB ⊢
  generalize s.heap = H at hB ⊢
  generalize ([] : List Loc) = locs at hB ⊢
  have hl := lv_entry ([.ref (ad t), .int (nI q), .ref (ad r2)]) (n := 4) (Nat.le_of_ble_eq_true rfl)
  rw [lg_entry_eq]
  generalize (lg_sl ([.ref (ad t), .int (nI q), .ref (ad r2)]) ++ List.replicate (4 - (lg_sl ([.ref (ad t), .int (nI q), .ref (ad r2)])).length) Slot.unset).toArray = ls at hl ⊢
  have hl : lv_has ls 4 [(0, .ref (ad t)), (1, .int (nI q)), (2, .ref (ad r2))] := hl
  have tI_n : (nI n).toInt = (n : Int) := nI_toInt (by omega)
  have tI_n2 : (nI n2).toInt = (n2 : Int) := nI_toInt (by omega)
  have tI_q : (nI q).toInt = (q : Int) := nI_toInt (by omega)
  refine lv_iconst (v := 0) hx hb dX7_holdsAt_0 (by decide) ?_
  refine lv_istore_n (lv' := [(3, .int 0), (0, .ref (ad t)), (1, .int (nI q)), (2, .ref (ad r2))]) hx hb dX7_holdsAt_1 rfl hl (by decide) rfl (fun ls hl => ?_)
  replace hl : lv_has ls 4 [(0, .ref (ad t)), (1, .int (nI q)), (2, .ref (ad r2)), (3, .int 0)] := lv_sub hl [1, 2, 3, 0] rfl
  obtain ⟨k, hk0⟩ : ∃ k : Nat, k = 0 := ⟨0, rfl⟩
  replace hl : lv_has ls 4 [(0, .ref (ad t)), (1, .int (nI q)), (2, .ref (ad r2)), (3, .int (nI k))] := by rw [hk0]; exact hl
  have hma : ma bs bk bs2 q k = true := by rw [hk0]; exact rfl
  obtain ⟨jz, hj⟩ : ∃ jz : Nat, k + jz = n2 := ⟨n2 - k, by omega⟩
  clear hk0
  induction jz generalizing k H locs ls with
  | zero =>
    have hje : k = n2 := by omega
    have tI_k : (nI k).toInt = (k : Int) := nI_toInt (by omega)
    refine lv_iload_n hx hb dX7_holdsAt_2 rfl (lv_at hl 3 rfl) ?_
    refine lv_aload_n hx hb dX7_holdsAt_3 rfl (lv_at hl 2 rfl) ?_
    refine m_callVE (ci := 5) (As := []) (rest := [.int (nI k)]) (c_Row_length l D ty L ad g r2 a2 n2 m_r2 h_r2) ⟨hx, hb, hml, hown, hts⟩ (cwV 0 hts gX7_holdsAt_X5_length rfl rfl rfl (by decide +kernel) ⟨Nat.le_of_ble_eq_true rfl, Nat.le_of_ble_eq_true rfl⟩) hB m_r2 h_r2 rfl rfl hl.1 rfl (Nat.le_of_ble_eq_true rfl) dX7_holdsAt_4 ⟨Nat.le_of_ble_eq_true rfl, Nat.le_of_ble_eq_true rfl⟩ (fun H locs hB => ?_)
    refine b_icmp_ge_t 46 hx hb dX7_holdsAt_7 (by decide) (by omega) ?_
    refine lv_iconst (v := 1) hx hb dX7_holdsAt_46 (by decide) ?_
    exact m_zret hx hb hrt hlocks hB (Nat.le_refl _) (Nat.le_refl _) dX7_holdsAt_47 rfl ⟨by rw [zb_t (hje ▸ hma)], rfl, rfl, rfl⟩
  | succ jz ihj =>
    have hjl : k < n2 := by omega
    have tI_k : (nI k).toInt = (k : Int) := nI_toInt (by omega)
    rcases hbk (q + k) (by omega) with hb1 | hb1
    · skip
      by_cases hs : bs (q + k) = bs2 k
      · skip
        have hma1 := ma_yes hma hb1 hs
        refine lv_iload_n hx hb dX7_holdsAt_2 rfl (lv_at hl 3 rfl) ?_
        refine lv_aload_n hx hb dX7_holdsAt_3 rfl (lv_at hl 2 rfl) ?_
        refine m_callVE (ci := 5) (As := []) (rest := [.int (nI k)]) (c_Row_length l D ty L ad g r2 a2 n2 m_r2 h_r2) ⟨hx, hb, hml, hown, hts⟩ (cwV 0 hts gX7_holdsAt_X5_length rfl rfl rfl (by decide +kernel) ⟨Nat.le_of_ble_eq_true rfl, Nat.le_of_ble_eq_true rfl⟩) hB m_r2 h_r2 rfl rfl hl.1 rfl (Nat.le_of_ble_eq_true rfl) dX7_holdsAt_4 ⟨Nat.le_of_ble_eq_true rfl, Nat.le_of_ble_eq_true rfl⟩ (fun H locs hB => ?_)
        refine b_icmp_ge_f 46 hx hb dX7_holdsAt_7 (by decide) (by omega) ?_
        refine lv_aload_n hx hb dX7_holdsAt_10 rfl (lv_at hl 0 rfl) ?_
        refine lv_iload_n hx hb dX7_holdsAt_11 rfl (lv_at hl 1 rfl) ?_
        refine lv_iload_n hx hb dX7_holdsAt_12 rfl (lv_at hl 3 rfl) ?_
        refine lv_iadd hx hb dX7_holdsAt_13 ?_
        refine b_topi (w := nI (q + k)) (nI_add q k) ?_
        refine m_callVE (ci := 7) (As := [.int (nI (q + k))]) (rest := []) (c_Text_isBlack l D ty L ad g t ro a bl n bs bk (q + k) m_t m_ro m_a m_bl h_t h_ro h_a h_bl hc (by omega) (hbk _ (by omega))) ⟨hx, hb, hml, hown, hts⟩ (cwV 1 hts gX7_holdsAt_X7_isBlack rfl rfl rfl (by decide +kernel) ⟨Nat.le_of_ble_eq_true rfl, Nat.le_of_ble_eq_true rfl⟩) hB m_t h_t rfl rfl hl.1 rfl (Nat.le_of_ble_eq_true rfl) dX7_holdsAt_14 ⟨Nat.le_of_ble_eq_true rfl, Nat.le_of_ble_eq_true rfl⟩ (fun H locs hB => ?_)
        refine b_if_ne_f 38 hx hb dX7_holdsAt_17 (by decide) (by rw [hb1]; decide) ?_
        refine lv_aload_n hx hb dX7_holdsAt_20 rfl (lv_at hl 0 rfl) ?_
        refine m_get (C := RX7) (T := TX7) (N := 2) (ci := 7) hx hb hts in_X7_holdsAt_X7 hown hB m_t h_t rfl 0 (by decide) (hts (.fieldLink RX7 18 "PaperRoom$Text" "row" "LPaperRoom$Row;") (by decide +kernel)) (fun _ h9 => h9) rfl dX7_holdsAt_21 ?_
        refine lv_iload_n hx hb dX7_holdsAt_24 rfl (lv_at hl 1 rfl) ?_
        refine lv_iload_n hx hb dX7_holdsAt_25 rfl (lv_at hl 3 rfl) ?_
        refine lv_iadd hx hb dX7_holdsAt_26 ?_
        refine b_topi (w := nI (q + k)) (nI_add q k) ?_
        refine m_callVE (ci := 5) (As := [.int (nI (q + k))]) (rest := []) (c_Row_get_t l D ty L ad g ro a n n bs (q + k) m_ro m_a h_ro h_a (by omega) (Nat.le_refl _) (by omega)) ⟨hx, hb, hml, hown, hts⟩ (cwV 1 hts gX7_holdsAt_X5_get rfl rfl rfl (by decide +kernel) ⟨Nat.le_of_ble_eq_true rfl, Nat.le_of_ble_eq_true rfl⟩) hB m_ro h_ro rfl rfl hl.1 rfl (Nat.le_of_ble_eq_true rfl) dX7_holdsAt_27 ⟨Nat.le_of_ble_eq_true rfl, Nat.le_of_ble_eq_true rfl⟩ (fun H locs hB => ?_)
        refine lv_aload_n hx hb dX7_holdsAt_30 rfl (lv_at hl 2 rfl) ?_
        refine lv_iload_n hx hb dX7_holdsAt_31 rfl (lv_at hl 3 rfl) ?_
        refine m_callVE (ci := 5) (As := [.int (nI k)]) (rest := [.int (bs (q + k))]) (c_Row_get_t l D ty L ad g r2 a2 n2 cap2 bs2 k m_r2 m_a2 h_r2 h_a2 (by omega) hn2 (by omega)) ⟨hx, hb, hml, hown, hts⟩ (cwV 1 hts gX7_holdsAt_X5_get rfl rfl rfl (by decide +kernel) ⟨Nat.le_of_ble_eq_true rfl, Nat.le_of_ble_eq_true rfl⟩) hB m_r2 h_r2 rfl rfl hl.1 rfl (Nat.le_of_ble_eq_true rfl) dX7_holdsAt_32 ⟨Nat.le_of_ble_eq_true rfl, Nat.le_of_ble_eq_true rfl⟩ (fun H locs hB => ?_)
        refine b_icmp_eq_t 40 hx hb dX7_holdsAt_35 (by decide) (by rw [hs]) ?_
        refine lv_iinc (v := nI (k + 1)) (lv' := [(3, .int (nI (k + 1))), (0, .ref (ad t)), (1, .int (nI q)), (2, .ref (ad r2))]) hx hb dX7_holdsAt_40 hl (k := 3) rfl (nI_add k 1) (by decide) rfl (fun ls hl => ?_)
        refine lv_goto (tgt := 2) hx hb dX7_holdsAt_43 (by decide) ?_
        have hma' : ma bs bk bs2 q (k + 1) = true := hma1
        have hl : lv_has ls 4 [(0, .ref (ad t)), (1, .int (nI q)), (2, .ref (ad r2)), (3, .int (nI (k + 1)))] := lv_sub hl [1, 2, 3, 0] rfl
        apply ihj (k := (k + 1)) (H := H) (locs := locs) (ls := ls) <;> first | omega | exact hB | exact hl | exact hma'
      · skip
        refine lv_iload_n hx hb dX7_holdsAt_2 rfl (lv_at hl 3 rfl) ?_
        refine lv_aload_n hx hb dX7_holdsAt_3 rfl (lv_at hl 2 rfl) ?_
        refine m_callVE (ci := 5) (As := []) (rest := [.int (nI k)]) (c_Row_length l D ty L ad g r2 a2 n2 m_r2 h_r2) ⟨hx, hb, hml, hown, hts⟩ (cwV 0 hts gX7_holdsAt_X5_length rfl rfl rfl (by decide +kernel) ⟨Nat.le_of_ble_eq_true rfl, Nat.le_of_ble_eq_true rfl⟩) hB m_r2 h_r2 rfl rfl hl.1 rfl (Nat.le_of_ble_eq_true rfl) dX7_holdsAt_4 ⟨Nat.le_of_ble_eq_true rfl, Nat.le_of_ble_eq_true rfl⟩ (fun H locs hB => ?_)
        refine b_icmp_ge_f 46 hx hb dX7_holdsAt_7 (by decide) (by omega) ?_
        refine lv_aload_n hx hb dX7_holdsAt_10 rfl (lv_at hl 0 rfl) ?_
        refine lv_iload_n hx hb dX7_holdsAt_11 rfl (lv_at hl 1 rfl) ?_
        refine lv_iload_n hx hb dX7_holdsAt_12 rfl (lv_at hl 3 rfl) ?_
        refine lv_iadd hx hb dX7_holdsAt_13 ?_
        refine b_topi (w := nI (q + k)) (nI_add q k) ?_
        refine m_callVE (ci := 7) (As := [.int (nI (q + k))]) (rest := []) (c_Text_isBlack l D ty L ad g t ro a bl n bs bk (q + k) m_t m_ro m_a m_bl h_t h_ro h_a h_bl hc (by omega) (hbk _ (by omega))) ⟨hx, hb, hml, hown, hts⟩ (cwV 1 hts gX7_holdsAt_X7_isBlack rfl rfl rfl (by decide +kernel) ⟨Nat.le_of_ble_eq_true rfl, Nat.le_of_ble_eq_true rfl⟩) hB m_t h_t rfl rfl hl.1 rfl (Nat.le_of_ble_eq_true rfl) dX7_holdsAt_14 ⟨Nat.le_of_ble_eq_true rfl, Nat.le_of_ble_eq_true rfl⟩ (fun H locs hB => ?_)
        refine b_if_ne_f 38 hx hb dX7_holdsAt_17 (by decide) (by rw [hb1]; decide) ?_
        refine lv_aload_n hx hb dX7_holdsAt_20 rfl (lv_at hl 0 rfl) ?_
        refine m_get (C := RX7) (T := TX7) (N := 2) (ci := 7) hx hb hts in_X7_holdsAt_X7 hown hB m_t h_t rfl 0 (by decide) (hts (.fieldLink RX7 18 "PaperRoom$Text" "row" "LPaperRoom$Row;") (by decide +kernel)) (fun _ h9 => h9) rfl dX7_holdsAt_21 ?_
        refine lv_iload_n hx hb dX7_holdsAt_24 rfl (lv_at hl 1 rfl) ?_
        refine lv_iload_n hx hb dX7_holdsAt_25 rfl (lv_at hl 3 rfl) ?_
        refine lv_iadd hx hb dX7_holdsAt_26 ?_
        refine b_topi (w := nI (q + k)) (nI_add q k) ?_
        refine m_callVE (ci := 5) (As := [.int (nI (q + k))]) (rest := []) (c_Row_get_t l D ty L ad g ro a n n bs (q + k) m_ro m_a h_ro h_a (by omega) (Nat.le_refl _) (by omega)) ⟨hx, hb, hml, hown, hts⟩ (cwV 1 hts gX7_holdsAt_X5_get rfl rfl rfl (by decide +kernel) ⟨Nat.le_of_ble_eq_true rfl, Nat.le_of_ble_eq_true rfl⟩) hB m_ro h_ro rfl rfl hl.1 rfl (Nat.le_of_ble_eq_true rfl) dX7_holdsAt_27 ⟨Nat.le_of_ble_eq_true rfl, Nat.le_of_ble_eq_true rfl⟩ (fun H locs hB => ?_)
        refine lv_aload_n hx hb dX7_holdsAt_30 rfl (lv_at hl 2 rfl) ?_
        refine lv_iload_n hx hb dX7_holdsAt_31 rfl (lv_at hl 3 rfl) ?_
        refine m_callVE (ci := 5) (As := [.int (nI k)]) (rest := [.int (bs (q + k))]) (c_Row_get_t l D ty L ad g r2 a2 n2 cap2 bs2 k m_r2 m_a2 h_r2 h_a2 (by omega) hn2 (by omega)) ⟨hx, hb, hml, hown, hts⟩ (cwV 1 hts gX7_holdsAt_X5_get rfl rfl rfl (by decide +kernel) ⟨Nat.le_of_ble_eq_true rfl, Nat.le_of_ble_eq_true rfl⟩) hB m_r2 h_r2 rfl rfl hl.1 rfl (Nat.le_of_ble_eq_true rfl) dX7_holdsAt_32 ⟨Nat.le_of_ble_eq_true rfl, Nat.le_of_ble_eq_true rfl⟩ (fun H locs hB => ?_)
        refine b_icmp_eq_f 40 hx hb dX7_holdsAt_35 (by decide) (fun h9 => hs ((i_eq _ _).mpr h9)) ?_
        refine lv_iconst (v := 0) hx hb dX7_holdsAt_38 (by decide) ?_
        exact m_zret hx hb hrt hlocks hB (Nat.le_refl _) (Nat.le_refl _) dX7_holdsAt_39 rfl ⟨by rw [zb_f (ma_dif hs (by omega : k < n2))], rfl, rfl, rfl⟩
    · skip
      refine lv_iload_n hx hb dX7_holdsAt_2 rfl (lv_at hl 3 rfl) ?_
      refine lv_aload_n hx hb dX7_holdsAt_3 rfl (lv_at hl 2 rfl) ?_
      refine m_callVE (ci := 5) (As := []) (rest := [.int (nI k)]) (c_Row_length l D ty L ad g r2 a2 n2 m_r2 h_r2) ⟨hx, hb, hml, hown, hts⟩ (cwV 0 hts gX7_holdsAt_X5_length rfl rfl rfl (by decide +kernel) ⟨Nat.le_of_ble_eq_true rfl, Nat.le_of_ble_eq_true rfl⟩) hB m_r2 h_r2 rfl rfl hl.1 rfl (Nat.le_of_ble_eq_true rfl) dX7_holdsAt_4 ⟨Nat.le_of_ble_eq_true rfl, Nat.le_of_ble_eq_true rfl⟩ (fun H locs hB => ?_)
      refine b_icmp_ge_f 46 hx hb dX7_holdsAt_7 (by decide) (by omega) ?_
      refine lv_aload_n hx hb dX7_holdsAt_10 rfl (lv_at hl 0 rfl) ?_
      refine lv_iload_n hx hb dX7_holdsAt_11 rfl (lv_at hl 1 rfl) ?_
      refine lv_iload_n hx hb dX7_holdsAt_12 rfl (lv_at hl 3 rfl) ?_
      refine lv_iadd hx hb dX7_holdsAt_13 ?_
      refine b_topi (w := nI (q + k)) (nI_add q k) ?_
      refine m_callVE (ci := 7) (As := [.int (nI (q + k))]) (rest := []) (c_Text_isBlack l D ty L ad g t ro a bl n bs bk (q + k) m_t m_ro m_a m_bl h_t h_ro h_a h_bl hc (by omega) (hbk _ (by omega))) ⟨hx, hb, hml, hown, hts⟩ (cwV 1 hts gX7_holdsAt_X7_isBlack rfl rfl rfl (by decide +kernel) ⟨Nat.le_of_ble_eq_true rfl, Nat.le_of_ble_eq_true rfl⟩) hB m_t h_t rfl rfl hl.1 rfl (Nat.le_of_ble_eq_true rfl) dX7_holdsAt_14 ⟨Nat.le_of_ble_eq_true rfl, Nat.le_of_ble_eq_true rfl⟩ (fun H locs hB => ?_)
      refine b_if_ne_t 38 hx hb dX7_holdsAt_17 (by decide) (by rw [hb1]; decide) ?_
      refine lv_iconst (v := 0) hx hb dX7_holdsAt_38 (by decide) ?_
      exact m_zret hx hb hrt hlocks hB (Nat.le_refl _) (Nat.le_refl _) dX7_holdsAt_39 rfl ⟨by rw [zb_f (ma_blk (bs := bs) (bk := bk) (bs2 := bs2) (q := q) (k := k) (by rw [hb1]; decide) (by omega : k < n2))], rfl, rfl, rfl⟩
set_option maxHeartbeats 1000000 in
set_option maxRecDepth 100000 in
theorem c_Text_holds (l : Launch) (D : va_G) (ty : Nat → ClassId) (L : List Nat) (ad : Nat → Nat) (g : Nat → va_E) (t ro a bl n : Nat) (bs bk : Nat → Int32) (r2 a2 n2 cap2 : Nat) (bs2 : Nat → Int32) (m_t : t ∈ L) (m_ro : ro ∈ L) (m_a : a ∈ L) (m_bl : bl ∈ L) (m_r2 : r2 ∈ L) (m_a2 : a2 ∈ L) (h_t : g t = .inr (7, [.ref (ad ro), .ref (ad bl)])) (h_ro : g ro = .inr (5, [.ref (ad a), .int (nI n)])) (h_a : g a = .inl (ty 2, n, .inl bs)) (h_bl : g bl = .inl (ty 3, n, .inl bk)) (h_r2 : g r2 = .inr (5, [.ref (ad a2), .int (nI n2)])) (h_a2 : g a2 = .inl (ty 2, cap2, .inl bs2)) (hc : n ≤ 40) (hn2 : n2 ≤ cap2) (hc2 : cap2 ≤ 40) (hbk : ∀ k, k < n → bk k = 0 ∨ bk k = 1) (h0 : 1 ≤ n2) : m_E l yX7_holds wsX7_holds 3 65 D ty [.ref (ad t), .ref (ad r2)] L ad g (some (.int (zb (mz bs bk bs2 n2 (n + 1 - n2))))) g := by
  intro sz
  refine Met.ofW (cc := cX7_holds) (maxL := 4) (ret := (some .boolean)) (by decide) rfl ?_
  intro p e s m args below meth c s₁ B hml hv
  have hx := B.exec
  have hb := B.bytes
  have hrt := B.returns
  have hts := atoms_spec (ws := wsX7_holds) B.pre
  have hown : s.vm.findClass RX7 = some m.cls := findClass_of_methodNamed B.named
  have hlocks := B.notSynchronized
  obtain ⟨rfl, hB⟩ := m_start hv
  generalize va_A (m_w L ad g) sz = A at hB ⊢
  generalize s.heap = H at hB ⊢
  generalize ([] : List Loc) = locs at hB ⊢
  have hl := lv_entry ([.ref (ad t), .ref (ad r2)]) (n := 4) (Nat.le_of_ble_eq_true rfl)
  rw [lg_entry_eq]
  generalize (lg_sl ([.ref (ad t), .ref (ad r2)]) ++ List.replicate (4 - (lg_sl ([.ref (ad t), .ref (ad r2)])).length) Slot.unset).toArray = ls at hl ⊢
  have hl : lv_has ls 4 [(0, .ref (ad t)), (1, .ref (ad r2))] := hl
  have tI_n : (nI n).toInt = (n : Int) := nI_toInt (by omega)
  have tI_n2 : (nI n2).toInt = (n2 : Int) := nI_toInt (by omega)
  refine lv_aload_n hx hb dX7_holds_0 rfl (lv_at hl 0 rfl) ?_
  refine m_callVE (ci := 7) (As := []) (rest := []) (c_Text_length l D ty L ad g t ro a bl n m_t m_ro h_t h_ro) ⟨hx, hb, hml, hown, hts⟩ (cwV 0 hts gX7_holds_X7_length rfl rfl rfl (by decide +kernel) ⟨Nat.le_of_ble_eq_true rfl, Nat.le_of_ble_eq_true rfl⟩) hB m_t h_t rfl rfl hl.1 rfl (Nat.le_of_ble_eq_true rfl) dX7_holds_1 ⟨Nat.le_of_ble_eq_true rfl, Nat.le_of_ble_eq_true rfl⟩ (fun H locs hB => ?_)
  refine lv_aload_n hx hb dX7_holds_4 rfl (lv_at hl 1 rfl) ?_
  refine m_callVE (ci := 5) (As := []) (rest := [.int (nI n)]) (c_Row_length l D ty L ad g r2 a2 n2 m_r2 h_r2) ⟨hx, hb, hml, hown, hts⟩ (cwV 0 hts gX7_holds_X5_length rfl rfl rfl (by decide +kernel) ⟨Nat.le_of_ble_eq_true rfl, Nat.le_of_ble_eq_true rfl⟩) hB m_r2 h_r2 rfl rfl hl.1 rfl (Nat.le_of_ble_eq_true rfl) dX7_holds_5 ⟨Nat.le_of_ble_eq_true rfl, Nat.le_of_ble_eq_true rfl⟩ (fun H locs hB => ?_)
  refine lv_isub hx hb dX7_holds_8 ?_
  refine lv_istore_n (lv' := [(2, .int ((nI n) - (nI n2))), (0, .ref (ad t)), (1, .ref (ad r2))]) hx hb dX7_holds_9 rfl hl (by decide) rfl (fun ls hl => ?_)
  refine lv_iconst (v := 0) hx hb dX7_holds_10 (by decide) ?_
  refine lv_istore_n (lv' := [(3, .int 0), (2, .int ((nI n) - (nI n2))), (0, .ref (ad t)), (1, .ref (ad r2))]) hx hb dX7_holds_11 rfl hl (by decide) rfl (fun ls hl => ?_)
  have td : (nI n - nI n2).toInt = (n : Int) - n2 := pk_sub_toInt (by omega) (by omega)
  replace hl : lv_has ls 4 [(0, .ref (ad t)), (1, .ref (ad r2)), (2, .int ((nI n) - (nI n2))), (3, .int 0)] := lv_sub hl [2, 3, 1, 0] rfl
  obtain ⟨k, hk0⟩ : ∃ k : Nat, k = 0 := ⟨0, rfl⟩
  replace hl : lv_has ls 4 [(0, .ref (ad t)), (1, .ref (ad r2)), (2, .int ((nI n) - (nI n2))), (3, .int (nI k))] := by rw [hk0]; exact hl
  have hmz : mz bs bk bs2 n2 k = false := by rw [hk0]; exact rfl
  obtain ⟨jz, hj⟩ : ∃ jz : Nat, k + jz = n + 1 - n2 := ⟨n + 1 - n2 - k, by omega⟩
  clear hk0
  induction jz generalizing k H locs ls with
  | zero =>
    have hje : k = n + 1 - n2 := by omega
    have tI_k : (nI k).toInt = (k : Int) := nI_toInt (by omega)
    refine lv_iload_n hx hb dX7_holds_12 rfl (lv_at hl 3 rfl) ?_
    refine lv_iload_n hx hb dX7_holds_13 rfl (lv_at hl 2 rfl) ?_
    refine b_icmp_gt_t 34 hx hb dX7_holds_14 (by decide) (by omega) ?_
    refine lv_iconst (v := 0) hx hb dX7_holds_34 (by decide) ?_
    exact m_zret hx hb hrt hlocks hB (Nat.le_refl _) (Nat.le_refl _) dX7_holds_35 rfl ⟨by rw [zb_f (hje ▸ hmz)], rfl, rfl, rfl⟩
  | succ jz ihj =>
    have hjl : k < n + 1 - n2 := by omega
    have tI_k : (nI k).toInt = (k : Int) := nI_toInt (by omega)
    rcases (show ma bs bk bs2 k n2 = true ∨ ma bs bk bs2 k n2 = false by cases ma bs bk bs2 k n2 <;> simp) with hm | hm
    · skip
      refine lv_iload_n hx hb dX7_holds_12 rfl (lv_at hl 3 rfl) ?_
      refine lv_iload_n hx hb dX7_holds_13 rfl (lv_at hl 2 rfl) ?_
      refine b_icmp_gt_f 34 hx hb dX7_holds_14 (by decide) (by omega) ?_
      refine lv_aload_n hx hb dX7_holds_17 rfl (lv_at hl 0 rfl) ?_
      refine lv_iload_n hx hb dX7_holds_18 rfl (lv_at hl 3 rfl) ?_
      refine lv_aload_n hx hb dX7_holds_19 rfl (lv_at hl 1 rfl) ?_
      refine m_callVE (ci := 7) (As := [.int (nI k), .ref (ad r2)]) (rest := []) (c_Text_holdsAt l D ty L ad g t ro a bl n bs bk r2 a2 n2 cap2 bs2 k m_t m_ro m_a m_bl m_r2 m_a2 h_t h_ro h_a h_bl h_r2 h_a2 hc hn2 hc2 hbk (by omega)) ⟨hx, hb, hml, hown, hts⟩ (cwV 2 hts gX7_holds_X7_holdsAt rfl rfl rfl (by decide +kernel) ⟨Nat.le_of_ble_eq_true rfl, Nat.le_of_ble_eq_true rfl⟩) hB m_t h_t rfl rfl hl.1 rfl (Nat.le_of_ble_eq_true rfl) dX7_holds_20 ⟨Nat.le_of_ble_eq_true rfl, Nat.le_of_ble_eq_true rfl⟩ (fun H locs hB => ?_)
      refine b_if_eq_f 28 hx hb dX7_holds_23 (by decide) (by rw [hm]; decide) ?_
      refine lv_iconst (v := 1) hx hb dX7_holds_26 (by decide) ?_
      exact m_zret hx hb hrt hlocks hB (Nat.le_refl _) (Nat.le_refl _) dX7_holds_27 rfl ⟨by rw [zb_t (mz_yes hm (n + 1 - n2) (by omega))], rfl, rfl, rfl⟩
    · skip
      have hmz1 := mz_no hmz hm
      refine lv_iload_n hx hb dX7_holds_12 rfl (lv_at hl 3 rfl) ?_
      refine lv_iload_n hx hb dX7_holds_13 rfl (lv_at hl 2 rfl) ?_
      refine b_icmp_gt_f 34 hx hb dX7_holds_14 (by decide) (by omega) ?_
      refine lv_aload_n hx hb dX7_holds_17 rfl (lv_at hl 0 rfl) ?_
      refine lv_iload_n hx hb dX7_holds_18 rfl (lv_at hl 3 rfl) ?_
      refine lv_aload_n hx hb dX7_holds_19 rfl (lv_at hl 1 rfl) ?_
      refine m_callVE (ci := 7) (As := [.int (nI k), .ref (ad r2)]) (rest := []) (c_Text_holdsAt l D ty L ad g t ro a bl n bs bk r2 a2 n2 cap2 bs2 k m_t m_ro m_a m_bl m_r2 m_a2 h_t h_ro h_a h_bl h_r2 h_a2 hc hn2 hc2 hbk (by omega)) ⟨hx, hb, hml, hown, hts⟩ (cwV 2 hts gX7_holds_X7_holdsAt rfl rfl rfl (by decide +kernel) ⟨Nat.le_of_ble_eq_true rfl, Nat.le_of_ble_eq_true rfl⟩) hB m_t h_t rfl rfl hl.1 rfl (Nat.le_of_ble_eq_true rfl) dX7_holds_20 ⟨Nat.le_of_ble_eq_true rfl, Nat.le_of_ble_eq_true rfl⟩ (fun H locs hB => ?_)
      refine b_if_eq_t 28 hx hb dX7_holds_23 (by decide) (by rw [hm]; decide) ?_
      refine lv_iinc (v := nI (k + 1)) (lv' := [(3, .int (nI (k + 1))), (0, .ref (ad t)), (1, .ref (ad r2)), (2, .int ((nI n) - (nI n2)))]) hx hb dX7_holds_28 hl (k := 3) rfl (nI_add k 1) (by decide) rfl (fun ls hl => ?_)
      refine lv_goto (tgt := 12) hx hb dX7_holds_31 (by decide) ?_
      have hmz' : mz bs bk bs2 n2 (k + 1) = false := hmz1
      have hl : lv_has ls 4 [(0, .ref (ad t)), (1, .ref (ad r2)), (2, .int ((nI n) - (nI n2))), (3, .int (nI (k + 1)))] := lv_sub hl [1, 2, 3, 0] rfl
      apply ihj (k := (k + 1)) (H := H) (locs := locs) (ls := ls) <;> first | omega | exact hB | exact hl | exact hmz'
