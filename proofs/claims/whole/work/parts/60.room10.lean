theorem c_Row_begins (l : Launch) (D : va_G) (ty : Nat → ClassId) (L : List Nat) (ad : Nat → Nat) (g : Nat → va_E) (r a n cap : Nat) (bs : Nat → Int32) (r2 a2 n2 cap2 : Nat) (bs2 : Nat → Int32) (m_r : r ∈ L) (m_a : a ∈ L) (m_r2 : r2 ∈ L) (m_a2 : a2 ∈ L) (h_r : g r = .inr (5, [.ref (ad a), .int (nI n)])) (h_a : g a = .inl (ty 2, cap, .inl bs)) (h_r2 : g r2 = .inr (5, [.ref (ad a2), .int (nI n2)])) (h_a2 : g a2 = .inl (ty 2, cap2, .inl bs2)) (hn : n ≤ cap) (hc : cap ≤ 1000) (hn2 : n2 ≤ cap2) (hc2 : cap2 ≤ 1000) : m_E l yX5_beginsWith wsX5_beginsWith 2 42 D ty [.ref (ad r), .ref (ad r2)] L ad g (some (.int (zb (decide (n2 ≤ n) && eqp bs bs2 n2)))) g := by
  by_cases h1 : n2 ≤ n
  · rcases bool2 (eqp bs bs2 n2) with h2 | h2
    · rw [dt h1, h2]
      exact c_Row_begins_t l D ty L ad g r a n cap bs r2 a2 n2 cap2 bs2 m_r m_a m_r2 m_a2 h_r h_a h_r2 h_a2 hn hc hn2 hc2 h1 (eqp_of h2)
    · obtain ⟨q, q1, q2, q3⟩ := eqp_first h2
      rw [dt h1, h2]
      exact c_Row_begins_f2 l D ty L ad g r a n cap bs r2 a2 n2 cap2 bs2 q m_r m_a m_r2 m_a2 h_r h_a h_r2 h_a2 hn hc hn2 hc2 h1 q1 q2 q3
  · rw [df h1]
    exact c_Row_begins_f1 l D ty L ad g r a n cap bs r2 a2 n2 cap2 bs2 m_r m_a m_r2 m_a2 h_r h_a h_r2 h_a2 hn hc hn2 hc2 (by omega)
set_option maxRecDepth 20000 in
theorem in_X8_isFoundIn_X8 : ∀ w ∈ wsX80, w ∈ wsX8_isFoundIn := by decide +kernel
set_option maxHeartbeats 1000000 in
set_option maxRecDepth 100000 in
theorem c_X_found0 (l : Launch) (D : va_G) (ty : Nat → ClassId) (L : List Nat) (ad : Nat → Nat) (g : Nat → va_E) (pn qn : Nat) (nw : Int32) (tr : Int64) (fs fe : Nat → Int32) (pp pt vn : Nat) (wd : Int32) (lg : Int32) (tf : Nat → Option Nat) (b f dn t ro a bl n : Nat) (bs bk db : Nat → Int32) (m_0 : 0 ∈ L) (m_1 : 1 ∈ L) (m_2 : 2 ∈ L) (m_3 : 3 ∈ L) (m_4 : 4 ∈ L) (m_5 : 5 ∈ L) (m_pp : pp ∈ L) (m_pt : pt ∈ L) (m_t : t ∈ L) (m_ro : ro ∈ L) (m_a : a ∈ L) (m_bl : bl ∈ L) (h_0 : g 0 = .inr (8, [.ref (ad 1), .ref (ad 3), .ref (ad 6), .int (nI pn), .ref (ad 7), .ref (ad 20), .ref (ad 22), .ref (ad 28), .int (nI qn), .ref (ad 29), .int nw, .long tr])) (h_1 : g 1 = .inr (5, [.ref (ad 2), .int (nI dn)])) (h_2 : g 2 = .inl (ty 2, 40, .inl db)) (h_3 : g 3 = .inr (4, [.ref (ad 4), .ref (ad 5)])) (h_4 : g 4 = .inl (ty 0, 12, .inl fs)) (h_5 : g 5 = .inl (ty 0, 12, .inl fe)) (h_pp : g pp = .inr (0, [.int (nI f), .ref (ad pt), .int (nI vn), .int wd, .int lg])) (h_pt : g pt = .inl (ty 7, 4, .inr (.inr (.inr (.inr tf))))) (h_t : g t = .inr (7, [.ref (ad ro), .ref (ad bl)])) (h_ro : g ro = .inr (5, [.ref (ad a), .int (nI n)])) (h_a : g a = .inl (ty 2, n, .inl bs)) (h_bl : g bl = .inl (ty 3, n, .inl bk)) (hb6 : b < 6) (hf4 : f < 4) (hwd : wd = 0 ∨ wd = 1) (hv1 : 1 ≤ vn) (hv4 : vn ≤ 4) (htf : tf (vn - 1) = some (ad t)) (hn40 : n ≤ 40) (hd1 : 1 ≤ dn) (hdn : dn ≤ 40) (hbk : ∀ i, i < n → bk i = 0 ∨ bk i = 1) : m_E l yX8_isFoundIn wsX8_isFoundIn 5 113 D ty [.ref (ad 0), .ref (ad pp), .int (nI b)] L ad g (some (.int (zb ((opn wd fs fe (b % 3 * 4 + f) nw && decide (lg.toInt ≤ nw.toInt)) && mz bs bk db dn (n + 1 - dn))))) g := by
  intro sz
  refine Met.ofW (cc := cX8_isFoundIn) (maxL := 4) (ret := (some .boolean)) (by decide) rfl ?_
  intro p e s m args below meth c s₁ B hml hv
  have hx := B.exec
  have hb := B.bytes
  have hrt := B.returns
  have hts := atoms_spec (ws := wsX8_isFoundIn) B.pre
  have hown : s.vm.findClass RX8 = some m.cls := findClass_of_methodNamed B.named
  have hlocks := B.notSynchronized
  obtain ⟨rfl, hB⟩ := m_start hv
  generalize va_A (m_w L ad g) sz = A at hB ⊢
  generalize s.heap = H at hB ⊢
  generalize ([] : List Loc) = locs at hB ⊢
  have hl := lv_entry ([.ref (ad 0), .ref (ad pp), .int (nI b)]) (n := 4) (Nat.le_of_ble_eq_true rfl)
  rw [lg_entry_eq]
  generalize (lg_sl ([.ref (ad 0), .ref (ad pp), .int (nI b)]) ++ List.replicate (4 - (lg_sl ([.ref (ad 0), .ref (ad pp), .int (nI b)])).length) Slot.unset).toArray = ls at hl ⊢
  have hl : lv_has ls 4 [(0, .ref (ad 0)), (1, .ref (ad pp)), (2, .int (nI b))] := hl
  rcases bool2 (opn wd fs fe (b % 3 * 4 + f) nw && decide (lg.toInt ≤ nw.toInt)) with hs | hs
  · skip
    rcases bool2 (mz bs bk db dn (n + 1 - dn)) with hh | hh
    · skip
      refine lv_aload_n hx hb dX8_isFoundIn_0 rfl (lv_at hl 1 rfl) ?_
      refine lv_ifnull hx hb dX8_isFoundIn_1 ?_
      refine lv_aload_n hx hb dX8_isFoundIn_4 rfl (lv_at hl 0 rfl) ?_
      refine lv_aload_n hx hb dX8_isFoundIn_5 rfl (lv_at hl 1 rfl) ?_
      refine lv_iload_n hx hb dX8_isFoundIn_6 rfl (lv_at hl 2 rfl) ?_
      refine m_callVE (ci := 8) (As := [.ref (ad pp), .int (nI b)]) (rest := []) (c_X_isOpen0 l D ty L ad g pn qn nw tr fs fe pp pt vn wd lg b f m_0 m_3 m_4 m_5 m_pp h_0 h_3 h_4 h_5 h_pp hb6 hf4 hwd) ⟨hx, hb, hml, hown, hts⟩ (cwV 2 hts gX8_isFoundIn_X8_isOpen rfl rfl rfl (by decide +kernel) ⟨Nat.le_of_ble_eq_true rfl, Nat.le_of_ble_eq_true rfl⟩) hB m_0 h_0 rfl rfl hl.1 rfl (Nat.le_of_ble_eq_true rfl) dX8_isFoundIn_7 ⟨Nat.le_of_ble_eq_true rfl, Nat.le_of_ble_eq_true rfl⟩ (fun H locs hB => ?_)
      refine b_if_ne_t 15 hx hb dX8_isFoundIn_10 (by decide) (by rw [hs]; decide) ?_
      refine lv_aload_n hx hb dX8_isFoundIn_15 rfl (lv_at hl 1 rfl) ?_
      refine lv_aload_n hx hb dX8_isFoundIn_16 rfl (lv_at hl 1 rfl) ?_
      refine m_callUE (ci := 0) (As := []) (rest := [.ref (ad pp)]) (c_Held_versions l D ty L ad g pp pt vn (nI f) wd lg m_pp h_pp) ⟨hx, hb, hml, hown, hts⟩ (va_cwU 0 hts gX8_isFoundIn_X2_versions_u137X0 rfl rfl rfl rfl (by decide +kernel) ⟨Nat.le_of_ble_eq_true rfl, Nat.le_of_ble_eq_true rfl⟩) hB m_pp h_pp rfl rfl hl.1 rfl (Nat.le_of_ble_eq_true rfl) dX8_isFoundIn_17 ⟨Nat.le_of_ble_eq_true rfl, Nat.le_of_ble_eq_true rfl⟩ (fun H locs hB => ?_)
      refine lv_iconst (v := 1) hx hb dX8_isFoundIn_20 (by decide) ?_
      refine lv_isub hx hb dX8_isFoundIn_21 ?_
      refine b_topi (w := nI (vn - 1)) (pk_sub (a := vn) (b := 1) hv1) ?_
      refine m_callUE (ci := 0) (As := [.int (nI (vn - 1))]) (rest := []) ((by have h9 := c_Held_text_t l D ty L ad g pp pt vn (nI f) wd lg tf (vn - 1) m_pp m_pt h_pp h_pt (by omega); rw [htf] at h9; exact h9 : m_E l yX2_text wsX2_text 1 21 D ty [.ref (ad pp), .int (nI (vn - 1))] L ad g (some (.ref (ad t))) g)) ⟨hx, hb, hml, hown, hts⟩ (va_cwU 1 hts gX8_isFoundIn_X2_text_u247X0 rfl rfl rfl rfl (by decide +kernel) ⟨Nat.le_of_ble_eq_true rfl, Nat.le_of_ble_eq_true rfl⟩) hB m_pp h_pp rfl rfl hl.1 rfl (Nat.le_of_ble_eq_true rfl) dX8_isFoundIn_22 ⟨Nat.le_of_ble_eq_true rfl, Nat.le_of_ble_eq_true rfl⟩ (fun H locs hB => ?_)
      refine lv_astore_n (lv' := [(3, .ref (ad t)), (0, .ref (ad 0)), (1, .ref (ad pp)), (2, .int (nI b))]) hx hb dX8_isFoundIn_25 rfl hl (by decide) rfl (fun ls hl => ?_)
      refine lv_aload_n hx hb dX8_isFoundIn_26 rfl (lv_at hl 0 rfl) ?_
      refine lv_ifnull hx hb dX8_isFoundIn_27 ?_
      refine lv_aload_n hx hb dX8_isFoundIn_30 rfl (lv_at hl 0 rfl) ?_
      refine lv_aload_n hx hb dX8_isFoundIn_31 rfl (lv_at hl 1 rfl) ?_
      refine m_get (C := RX8) (T := TX8) (N := 12) (ci := 8) hx hb hts in_X8_isFoundIn_X8 hown hB m_0 h_0 rfl 0 (by decide) (hts (.fieldLink RX8 14 "PaperRoom" "draft" "LPaperRoom$Row;") (by decide +kernel)) (fun _ h9 => h9) rfl dX8_isFoundIn_32 ?_
      refine m_callVE (ci := 7) (As := [.ref (ad 1)]) (rest := []) (c_Text_holds l D ty L ad g t ro a bl n bs bk 1 2 dn 40 db m_t m_ro m_a m_bl m_1 m_2 h_t h_ro h_a h_bl h_1 h_2 hn40 (by omega) (by omega) hbk hd1) ⟨hx, hb, hml, hown, hts⟩ (cwV 1 hts gX8_isFoundIn_X7_holds rfl rfl rfl (by decide +kernel) ⟨Nat.le_of_ble_eq_true rfl, Nat.le_of_ble_eq_true rfl⟩) hB m_t h_t rfl rfl hl.1 rfl (Nat.le_of_ble_eq_true rfl) dX8_isFoundIn_35 ⟨Nat.le_of_ble_eq_true rfl, Nat.le_of_ble_eq_true rfl⟩ (fun H locs hB => ?_)
      refine b_if_eq_f 45 hx hb dX8_isFoundIn_38 (by decide) (by rw [hh]; decide) ?_
      refine lv_iconst (v := 1) hx hb dX8_isFoundIn_41 (by decide) ?_
      refine lv_goto (tgt := 46) hx hb dX8_isFoundIn_42 (by decide) ?_
      exact m_zret hx hb hrt hlocks hB (Nat.le_refl _) (Nat.le_refl _) dX8_isFoundIn_46 rfl ⟨zt (by rw [hs, hh]; rfl), rfl, rfl, rfl⟩
    · skip
      refine lv_aload_n hx hb dX8_isFoundIn_0 rfl (lv_at hl 1 rfl) ?_
      refine lv_ifnull hx hb dX8_isFoundIn_1 ?_
      refine lv_aload_n hx hb dX8_isFoundIn_4 rfl (lv_at hl 0 rfl) ?_
      refine lv_aload_n hx hb dX8_isFoundIn_5 rfl (lv_at hl 1 rfl) ?_
      refine lv_iload_n hx hb dX8_isFoundIn_6 rfl (lv_at hl 2 rfl) ?_
      refine m_callVE (ci := 8) (As := [.ref (ad pp), .int (nI b)]) (rest := []) (c_X_isOpen0 l D ty L ad g pn qn nw tr fs fe pp pt vn wd lg b f m_0 m_3 m_4 m_5 m_pp h_0 h_3 h_4 h_5 h_pp hb6 hf4 hwd) ⟨hx, hb, hml, hown, hts⟩ (cwV 2 hts gX8_isFoundIn_X8_isOpen rfl rfl rfl (by decide +kernel) ⟨Nat.le_of_ble_eq_true rfl, Nat.le_of_ble_eq_true rfl⟩) hB m_0 h_0 rfl rfl hl.1 rfl (Nat.le_of_ble_eq_true rfl) dX8_isFoundIn_7 ⟨Nat.le_of_ble_eq_true rfl, Nat.le_of_ble_eq_true rfl⟩ (fun H locs hB => ?_)
      refine b_if_ne_t 15 hx hb dX8_isFoundIn_10 (by decide) (by rw [hs]; decide) ?_
      refine lv_aload_n hx hb dX8_isFoundIn_15 rfl (lv_at hl 1 rfl) ?_
      refine lv_aload_n hx hb dX8_isFoundIn_16 rfl (lv_at hl 1 rfl) ?_
      refine m_callUE (ci := 0) (As := []) (rest := [.ref (ad pp)]) (c_Held_versions l D ty L ad g pp pt vn (nI f) wd lg m_pp h_pp) ⟨hx, hb, hml, hown, hts⟩ (va_cwU 0 hts gX8_isFoundIn_X2_versions_u137X0 rfl rfl rfl rfl (by decide +kernel) ⟨Nat.le_of_ble_eq_true rfl, Nat.le_of_ble_eq_true rfl⟩) hB m_pp h_pp rfl rfl hl.1 rfl (Nat.le_of_ble_eq_true rfl) dX8_isFoundIn_17 ⟨Nat.le_of_ble_eq_true rfl, Nat.le_of_ble_eq_true rfl⟩ (fun H locs hB => ?_)
      refine lv_iconst (v := 1) hx hb dX8_isFoundIn_20 (by decide) ?_
      refine lv_isub hx hb dX8_isFoundIn_21 ?_
      refine b_topi (w := nI (vn - 1)) (pk_sub (a := vn) (b := 1) hv1) ?_
      refine m_callUE (ci := 0) (As := [.int (nI (vn - 1))]) (rest := []) ((by have h9 := c_Held_text_t l D ty L ad g pp pt vn (nI f) wd lg tf (vn - 1) m_pp m_pt h_pp h_pt (by omega); rw [htf] at h9; exact h9 : m_E l yX2_text wsX2_text 1 21 D ty [.ref (ad pp), .int (nI (vn - 1))] L ad g (some (.ref (ad t))) g)) ⟨hx, hb, hml, hown, hts⟩ (va_cwU 1 hts gX8_isFoundIn_X2_text_u247X0 rfl rfl rfl rfl (by decide +kernel) ⟨Nat.le_of_ble_eq_true rfl, Nat.le_of_ble_eq_true rfl⟩) hB m_pp h_pp rfl rfl hl.1 rfl (Nat.le_of_ble_eq_true rfl) dX8_isFoundIn_22 ⟨Nat.le_of_ble_eq_true rfl, Nat.le_of_ble_eq_true rfl⟩ (fun H locs hB => ?_)
      refine lv_astore_n (lv' := [(3, .ref (ad t)), (0, .ref (ad 0)), (1, .ref (ad pp)), (2, .int (nI b))]) hx hb dX8_isFoundIn_25 rfl hl (by decide) rfl (fun ls hl => ?_)
      refine lv_aload_n hx hb dX8_isFoundIn_26 rfl (lv_at hl 0 rfl) ?_
      refine lv_ifnull hx hb dX8_isFoundIn_27 ?_
      refine lv_aload_n hx hb dX8_isFoundIn_30 rfl (lv_at hl 0 rfl) ?_
      refine lv_aload_n hx hb dX8_isFoundIn_31 rfl (lv_at hl 1 rfl) ?_
      refine m_get (C := RX8) (T := TX8) (N := 12) (ci := 8) hx hb hts in_X8_isFoundIn_X8 hown hB m_0 h_0 rfl 0 (by decide) (hts (.fieldLink RX8 14 "PaperRoom" "draft" "LPaperRoom$Row;") (by decide +kernel)) (fun _ h9 => h9) rfl dX8_isFoundIn_32 ?_
      refine m_callVE (ci := 7) (As := [.ref (ad 1)]) (rest := []) (c_Text_holds l D ty L ad g t ro a bl n bs bk 1 2 dn 40 db m_t m_ro m_a m_bl m_1 m_2 h_t h_ro h_a h_bl h_1 h_2 hn40 (by omega) (by omega) hbk hd1) ⟨hx, hb, hml, hown, hts⟩ (cwV 1 hts gX8_isFoundIn_X7_holds rfl rfl rfl (by decide +kernel) ⟨Nat.le_of_ble_eq_true rfl, Nat.le_of_ble_eq_true rfl⟩) hB m_t h_t rfl rfl hl.1 rfl (Nat.le_of_ble_eq_true rfl) dX8_isFoundIn_35 ⟨Nat.le_of_ble_eq_true rfl, Nat.le_of_ble_eq_true rfl⟩ (fun H locs hB => ?_)
      refine b_if_eq_t 45 hx hb dX8_isFoundIn_38 (by decide) (by rw [hh]; decide) ?_
      refine lv_iconst (v := 0) hx hb dX8_isFoundIn_45 (by decide) ?_
      exact m_zret hx hb hrt hlocks hB (Nat.le_refl _) (Nat.le_refl _) dX8_isFoundIn_46 rfl ⟨zf (by rw [hh]; simp), rfl, rfl, rfl⟩
  · skip
    refine lv_aload_n hx hb dX8_isFoundIn_0 rfl (lv_at hl 1 rfl) ?_
    refine lv_ifnull hx hb dX8_isFoundIn_1 ?_
    refine lv_aload_n hx hb dX8_isFoundIn_4 rfl (lv_at hl 0 rfl) ?_
    refine lv_aload_n hx hb dX8_isFoundIn_5 rfl (lv_at hl 1 rfl) ?_
    refine lv_iload_n hx hb dX8_isFoundIn_6 rfl (lv_at hl 2 rfl) ?_
    refine m_callVE (ci := 8) (As := [.ref (ad pp), .int (nI b)]) (rest := []) (c_X_isOpen0 l D ty L ad g pn qn nw tr fs fe pp pt vn wd lg b f m_0 m_3 m_4 m_5 m_pp h_0 h_3 h_4 h_5 h_pp hb6 hf4 hwd) ⟨hx, hb, hml, hown, hts⟩ (cwV 2 hts gX8_isFoundIn_X8_isOpen rfl rfl rfl (by decide +kernel) ⟨Nat.le_of_ble_eq_true rfl, Nat.le_of_ble_eq_true rfl⟩) hB m_0 h_0 rfl rfl hl.1 rfl (Nat.le_of_ble_eq_true rfl) dX8_isFoundIn_7 ⟨Nat.le_of_ble_eq_true rfl, Nat.le_of_ble_eq_true rfl⟩ (fun H locs hB => ?_)
    refine b_if_ne_f 15 hx hb dX8_isFoundIn_10 (by decide) (by rw [hs]; decide) ?_
    refine lv_iconst (v := 0) hx hb dX8_isFoundIn_13 (by decide) ?_
    exact m_zret hx hb hrt hlocks hB (Nat.le_refl _) (Nat.le_refl _) dX8_isFoundIn_14 rfl ⟨zf (by rw [hs]; rfl), rfl, rfl, rfl⟩
set_option maxHeartbeats 1000000 in
set_option maxRecDepth 100000 in
theorem c_X_found1 (l : Launch) (D : va_G) (ty : Nat → ClassId) (L : List Nat) (ad : Nat → Nat) (g : Nat → va_E) (pn qn : Nat) (nw : Int32) (tr : Int64) (fs fe : Nat → Int32) (pp pt vn : Nat) (wd : Int32) (tf : Nat → Option Nat) (b f dn t ro a bl n : Nat) (bs bk db : Nat → Int32) (m_0 : 0 ∈ L) (m_1 : 1 ∈ L) (m_2 : 2 ∈ L) (m_3 : 3 ∈ L) (m_4 : 4 ∈ L) (m_5 : 5 ∈ L) (m_pp : pp ∈ L) (m_pt : pt ∈ L) (m_t : t ∈ L) (m_ro : ro ∈ L) (m_a : a ∈ L) (m_bl : bl ∈ L) (h_0 : g 0 = .inr (8, [.ref (ad 1), .ref (ad 3), .ref (ad 6), .int (nI pn), .ref (ad 7), .ref (ad 20), .ref (ad 22), .ref (ad 28), .int (nI qn), .ref (ad 29), .int nw, .long tr])) (h_1 : g 1 = .inr (5, [.ref (ad 2), .int (nI dn)])) (h_2 : g 2 = .inl (ty 2, 40, .inl db)) (h_3 : g 3 = .inr (4, [.ref (ad 4), .ref (ad 5)])) (h_4 : g 4 = .inl (ty 0, 12, .inl fs)) (h_5 : g 5 = .inl (ty 0, 12, .inl fe)) (h_pp : g pp = .inr (1, [.int (nI f), .ref (ad pt), .int (nI vn), .int wd])) (h_pt : g pt = .inl (ty 7, 4, .inr (.inr (.inr (.inr tf))))) (h_t : g t = .inr (7, [.ref (ad ro), .ref (ad bl)])) (h_ro : g ro = .inr (5, [.ref (ad a), .int (nI n)])) (h_a : g a = .inl (ty 2, n, .inl bs)) (h_bl : g bl = .inl (ty 3, n, .inl bk)) (hb6 : b < 6) (hf4 : f < 4) (hwd : wd = 0 ∨ wd = 1) (hv1 : 1 ≤ vn) (hv4 : vn ≤ 4) (htf : tf (vn - 1) = some (ad t)) (hn40 : n ≤ 40) (hd1 : 1 ≤ dn) (hdn : dn ≤ 40) (hbk : ∀ i, i < n → bk i = 0 ∨ bk i = 1) : m_E l yX8_isFoundIn wsX8_isFoundIn 5 113 D ty [.ref (ad 0), .ref (ad pp), .int (nI b)] L ad g (some (.int (zb ((opn wd fs fe (b % 3 * 4 + f) nw) && mz bs bk db dn (n + 1 - dn))))) g := by
  intro sz
  refine Met.ofW (cc := cX8_isFoundIn) (maxL := 4) (ret := (some .boolean)) (by decide) rfl ?_
  intro p e s m args below meth c s₁ B hml hv
  have hx := B.exec
  have hb := B.bytes
  have hrt := B.returns
  have hts := atoms_spec (ws := wsX8_isFoundIn) B.pre
  have hown : s.vm.findClass RX8 = some m.cls := findClass_of_methodNamed B.named
  have hlocks := B.notSynchronized
  obtain ⟨rfl, hB⟩ := m_start hv
  generalize va_A (m_w L ad g) sz = A at hB ⊢
  generalize s.heap = H at hB ⊢
  generalize ([] : List Loc) = locs at hB ⊢
  have hl := lv_entry ([.ref (ad 0), .ref (ad pp), .int (nI b)]) (n := 4) (Nat.le_of_ble_eq_true rfl)
  rw [lg_entry_eq]
  generalize (lg_sl ([.ref (ad 0), .ref (ad pp), .int (nI b)]) ++ List.replicate (4 - (lg_sl ([.ref (ad 0), .ref (ad pp), .int (nI b)])).length) Slot.unset).toArray = ls at hl ⊢
  have hl : lv_has ls 4 [(0, .ref (ad 0)), (1, .ref (ad pp)), (2, .int (nI b))] := hl
  rcases bool2 (opn wd fs fe (b % 3 * 4 + f) nw) with hs | hs
  · skip
    rcases bool2 (mz bs bk db dn (n + 1 - dn)) with hh | hh
    · skip
      refine lv_aload_n hx hb dX8_isFoundIn_0 rfl (lv_at hl 1 rfl) ?_
      refine lv_ifnull hx hb dX8_isFoundIn_1 ?_
      refine lv_aload_n hx hb dX8_isFoundIn_4 rfl (lv_at hl 0 rfl) ?_
      refine lv_aload_n hx hb dX8_isFoundIn_5 rfl (lv_at hl 1 rfl) ?_
      refine lv_iload_n hx hb dX8_isFoundIn_6 rfl (lv_at hl 2 rfl) ?_
      refine m_callVE (ci := 8) (As := [.ref (ad pp), .int (nI b)]) (rest := []) (c_X_isOpen1 l D ty L ad g pn qn nw tr fs fe pp pt vn wd b f m_0 m_3 m_4 m_5 m_pp h_0 h_3 h_4 h_5 h_pp hb6 hf4 hwd) ⟨hx, hb, hml, hown, hts⟩ (cwV 2 hts gX8_isFoundIn_X8_isOpen rfl rfl rfl (by decide +kernel) ⟨Nat.le_of_ble_eq_true rfl, Nat.le_of_ble_eq_true rfl⟩) hB m_0 h_0 rfl rfl hl.1 rfl (Nat.le_of_ble_eq_true rfl) dX8_isFoundIn_7 ⟨Nat.le_of_ble_eq_true rfl, Nat.le_of_ble_eq_true rfl⟩ (fun H locs hB => ?_)
      refine b_if_ne_t 15 hx hb dX8_isFoundIn_10 (by decide) (by rw [hs]; decide) ?_
      refine lv_aload_n hx hb dX8_isFoundIn_15 rfl (lv_at hl 1 rfl) ?_
      refine lv_aload_n hx hb dX8_isFoundIn_16 rfl (lv_at hl 1 rfl) ?_
      refine m_callUE (ci := 1) (As := []) (rest := [.ref (ad pp)]) (c_Marked_versions l D ty L ad g pp pt vn (nI f) wd m_pp h_pp) ⟨hx, hb, hml, hown, hts⟩ (va_cwU 0 hts gX8_isFoundIn_X2_versions_u137X1 rfl rfl rfl rfl (by decide +kernel) ⟨Nat.le_of_ble_eq_true rfl, Nat.le_of_ble_eq_true rfl⟩) hB m_pp h_pp rfl rfl hl.1 rfl (Nat.le_of_ble_eq_true rfl) dX8_isFoundIn_17 ⟨Nat.le_of_ble_eq_true rfl, Nat.le_of_ble_eq_true rfl⟩ (fun H locs hB => ?_)
      refine lv_iconst (v := 1) hx hb dX8_isFoundIn_20 (by decide) ?_
      refine lv_isub hx hb dX8_isFoundIn_21 ?_
      refine b_topi (w := nI (vn - 1)) (pk_sub (a := vn) (b := 1) hv1) ?_
      refine m_callUE (ci := 1) (As := [.int (nI (vn - 1))]) (rest := []) ((by have h9 := c_Marked_text_t l D ty L ad g pp pt vn (nI f) wd tf (vn - 1) m_pp m_pt h_pp h_pt (by omega); rw [htf] at h9; exact h9 : m_E l yX2_text wsX2_text 1 21 D ty [.ref (ad pp), .int (nI (vn - 1))] L ad g (some (.ref (ad t))) g)) ⟨hx, hb, hml, hown, hts⟩ (va_cwU 1 hts gX8_isFoundIn_X2_text_u247X1 rfl rfl rfl rfl (by decide +kernel) ⟨Nat.le_of_ble_eq_true rfl, Nat.le_of_ble_eq_true rfl⟩) hB m_pp h_pp rfl rfl hl.1 rfl (Nat.le_of_ble_eq_true rfl) dX8_isFoundIn_22 ⟨Nat.le_of_ble_eq_true rfl, Nat.le_of_ble_eq_true rfl⟩ (fun H locs hB => ?_)
      refine lv_astore_n (lv' := [(3, .ref (ad t)), (0, .ref (ad 0)), (1, .ref (ad pp)), (2, .int (nI b))]) hx hb dX8_isFoundIn_25 rfl hl (by decide) rfl (fun ls hl => ?_)
      refine lv_aload_n hx hb dX8_isFoundIn_26 rfl (lv_at hl 0 rfl) ?_
      refine lv_ifnull hx hb dX8_isFoundIn_27 ?_
      refine lv_aload_n hx hb dX8_isFoundIn_30 rfl (lv_at hl 0 rfl) ?_
      refine lv_aload_n hx hb dX8_isFoundIn_31 rfl (lv_at hl 1 rfl) ?_
      refine m_get (C := RX8) (T := TX8) (N := 12) (ci := 8) hx hb hts in_X8_isFoundIn_X8 hown hB m_0 h_0 rfl 0 (by decide) (hts (.fieldLink RX8 14 "PaperRoom" "draft" "LPaperRoom$Row;") (by decide +kernel)) (fun _ h9 => h9) rfl dX8_isFoundIn_32 ?_
      refine m_callVE (ci := 7) (As := [.ref (ad 1)]) (rest := []) (c_Text_holds l D ty L ad g t ro a bl n bs bk 1 2 dn 40 db m_t m_ro m_a m_bl m_1 m_2 h_t h_ro h_a h_bl h_1 h_2 hn40 (by omega) (by omega) hbk hd1) ⟨hx, hb, hml, hown, hts⟩ (cwV 1 hts gX8_isFoundIn_X7_holds rfl rfl rfl (by decide +kernel) ⟨Nat.le_of_ble_eq_true rfl, Nat.le_of_ble_eq_true rfl⟩) hB m_t h_t rfl rfl hl.1 rfl (Nat.le_of_ble_eq_true rfl) dX8_isFoundIn_35 ⟨Nat.le_of_ble_eq_true rfl, Nat.le_of_ble_eq_true rfl⟩ (fun H locs hB => ?_)
      refine b_if_eq_f 45 hx hb dX8_isFoundIn_38 (by decide) (by rw [hh]; decide) ?_
      refine lv_iconst (v := 1) hx hb dX8_isFoundIn_41 (by decide) ?_
      refine lv_goto (tgt := 46) hx hb dX8_isFoundIn_42 (by decide) ?_
      exact m_zret hx hb hrt hlocks hB (Nat.le_refl _) (Nat.le_refl _) dX8_isFoundIn_46 rfl ⟨zt (by rw [hs, hh]; rfl), rfl, rfl, rfl⟩
    · skip
      refine lv_aload_n hx hb dX8_isFoundIn_0 rfl (lv_at hl 1 rfl) ?_
      refine lv_ifnull hx hb dX8_isFoundIn_1 ?_
      refine lv_aload_n hx hb dX8_isFoundIn_4 rfl (lv_at hl 0 rfl) ?_
      refine lv_aload_n hx hb dX8_isFoundIn_5 rfl (lv_at hl 1 rfl) ?_
      refine lv_iload_n hx hb dX8_isFoundIn_6 rfl (lv_at hl 2 rfl) ?_
      refine m_callVE (ci := 8) (As := [.ref (ad pp), .int (nI b)]) (rest := []) (c_X_isOpen1 l D ty L ad g pn qn nw tr fs fe pp pt vn wd b f m_0 m_3 m_4 m_5 m_pp h_0 h_3 h_4 h_5 h_pp hb6 hf4 hwd) ⟨hx, hb, hml, hown, hts⟩ (cwV 2 hts gX8_isFoundIn_X8_isOpen rfl rfl rfl (by decide +kernel) ⟨Nat.le_of_ble_eq_true rfl, Nat.le_of_ble_eq_true rfl⟩) hB m_0 h_0 rfl rfl hl.1 rfl (Nat.le_of_ble_eq_true rfl) dX8_isFoundIn_7 ⟨Nat.le_of_ble_eq_true rfl, Nat.le_of_ble_eq_true rfl⟩ (fun H locs hB => ?_)
      refine b_if_ne_t 15 hx hb dX8_isFoundIn_10 (by decide) (by rw [hs]; decide) ?_
      refine lv_aload_n hx hb dX8_isFoundIn_15 rfl (lv_at hl 1 rfl) ?_
      refine lv_aload_n hx hb dX8_isFoundIn_16 rfl (lv_at hl 1 rfl) ?_
      refine m_callUE (ci := 1) (As := []) (rest := [.ref (ad pp)]) (c_Marked_versions l D ty L ad g pp pt vn (nI f) wd m_pp h_pp) ⟨hx, hb, hml, hown, hts⟩ (va_cwU 0 hts gX8_isFoundIn_X2_versions_u137X1 rfl rfl rfl rfl (by decide +kernel) ⟨Nat.le_of_ble_eq_true rfl, Nat.le_of_ble_eq_true rfl⟩) hB m_pp h_pp rfl rfl hl.1 rfl (Nat.le_of_ble_eq_true rfl) dX8_isFoundIn_17 ⟨Nat.le_of_ble_eq_true rfl, Nat.le_of_ble_eq_true rfl⟩ (fun H locs hB => ?_)
      refine lv_iconst (v := 1) hx hb dX8_isFoundIn_20 (by decide) ?_
      refine lv_isub hx hb dX8_isFoundIn_21 ?_
      refine b_topi (w := nI (vn - 1)) (pk_sub (a := vn) (b := 1) hv1) ?_
      refine m_callUE (ci := 1) (As := [.int (nI (vn - 1))]) (rest := []) ((by have h9 := c_Marked_text_t l D ty L ad g pp pt vn (nI f) wd tf (vn - 1) m_pp m_pt h_pp h_pt (by omega); rw [htf] at h9; exact h9 : m_E l yX2_text wsX2_text 1 21 D ty [.ref (ad pp), .int (nI (vn - 1))] L ad g (some (.ref (ad t))) g)) ⟨hx, hb, hml, hown, hts⟩ (va_cwU 1 hts gX8_isFoundIn_X2_text_u247X1 rfl rfl rfl rfl (by decide +kernel) ⟨Nat.le_of_ble_eq_true rfl, Nat.le_of_ble_eq_true rfl⟩) hB m_pp h_pp rfl rfl hl.1 rfl (Nat.le_of_ble_eq_true rfl) dX8_isFoundIn_22 ⟨Nat.le_of_ble_eq_true rfl, Nat.le_of_ble_eq_true rfl⟩ (fun H locs hB => ?_)
      refine lv_astore_n (lv' := [(3, .ref (ad t)), (0, .ref (ad 0)), (1, .ref (ad pp)), (2, .int (nI b))]) hx hb dX8_isFoundIn_25 rfl hl (by decide) rfl (fun ls hl => ?_)
      refine lv_aload_n hx hb dX8_isFoundIn_26 rfl (lv_at hl 0 rfl) ?_
      refine lv_ifnull hx hb dX8_isFoundIn_27 ?_
      refine lv_aload_n hx hb dX8_isFoundIn_30 rfl (lv_at hl 0 rfl) ?_
      refine lv_aload_n hx hb dX8_isFoundIn_31 rfl (lv_at hl 1 rfl) ?_
      refine m_get (C := RX8) (T := TX8) (N := 12) (ci := 8) hx hb hts in_X8_isFoundIn_X8 hown hB m_0 h_0 rfl 0 (by decide) (hts (.fieldLink RX8 14 "PaperRoom" "draft" "LPaperRoom$Row;") (by decide +kernel)) (fun _ h9 => h9) rfl dX8_isFoundIn_32 ?_
      refine m_callVE (ci := 7) (As := [.ref (ad 1)]) (rest := []) (c_Text_holds l D ty L ad g t ro a bl n bs bk 1 2 dn 40 db m_t m_ro m_a m_bl m_1 m_2 h_t h_ro h_a h_bl h_1 h_2 hn40 (by omega) (by omega) hbk hd1) ⟨hx, hb, hml, hown, hts⟩ (cwV 1 hts gX8_isFoundIn_X7_holds rfl rfl rfl (by decide +kernel) ⟨Nat.le_of_ble_eq_true rfl, Nat.le_of_ble_eq_true rfl⟩) hB m_t h_t rfl rfl hl.1 rfl (Nat.le_of_ble_eq_true rfl) dX8_isFoundIn_35 ⟨Nat.le_of_ble_eq_true rfl, Nat.le_of_ble_eq_true rfl⟩ (fun H locs hB => ?_)
      refine b_if_eq_t 45 hx hb dX8_isFoundIn_38 (by decide) (by rw [hh]; decide) ?_
      refine lv_iconst (v := 0) hx hb dX8_isFoundIn_45 (by decide) ?_
      exact m_zret hx hb hrt hlocks hB (Nat.le_refl _) (Nat.le_refl _) dX8_isFoundIn_46 rfl ⟨zf (by rw [hh]; simp), rfl, rfl, rfl⟩
  · skip
    refine lv_aload_n hx hb dX8_isFoundIn_0 rfl (lv_at hl 1 rfl) ?_
    refine lv_ifnull hx hb dX8_isFoundIn_1 ?_
    refine lv_aload_n hx hb dX8_isFoundIn_4 rfl (lv_at hl 0 rfl) ?_
    refine lv_aload_n hx hb dX8_isFoundIn_5 rfl (lv_at hl 1 rfl) ?_
    refine lv_iload_n hx hb dX8_isFoundIn_6 rfl (lv_at hl 2 rfl) ?_
    refine m_callVE (ci := 8) (As := [.ref (ad pp), .int (nI b)]) (rest := []) (c_X_isOpen1 l D ty L ad g pn qn nw tr fs fe pp pt vn wd b f m_0 m_3 m_4 m_5 m_pp h_0 h_3 h_4 h_5 h_pp hb6 hf4 hwd) ⟨hx, hb, hml, hown, hts⟩ (cwV 2 hts gX8_isFoundIn_X8_isOpen rfl rfl rfl (by decide +kernel) ⟨Nat.le_of_ble_eq_true rfl, Nat.le_of_ble_eq_true rfl⟩) hB m_0 h_0 rfl rfl hl.1 rfl (Nat.le_of_ble_eq_true rfl) dX8_isFoundIn_7 ⟨Nat.le_of_ble_eq_true rfl, Nat.le_of_ble_eq_true rfl⟩ (fun H locs hB => ?_)
    refine b_if_ne_f 15 hx hb dX8_isFoundIn_10 (by decide) (by rw [hs]; decide) ?_
    refine lv_iconst (v := 0) hx hb dX8_isFoundIn_13 (by decide) ?_
    exact m_zret hx hb hrt hlocks hB (Nat.le_refl _) (Nat.le_refl _) dX8_isFoundIn_14 rfl ⟨zf (by rw [hs]; rfl), rfl, rfl, rfl⟩
set_option maxHeartbeats 1000000 in
set_option maxRecDepth 100000 in
theorem c_X_found2 (l : Launch) (D : va_G) (ty : Nat → ClassId) (L : List Nat) (ad : Nat → Nat) (g : Nat → va_E) (pn qn : Nat) (nw : Int32) (tr : Int64) (fs fe : Nat → Int32) (pp pt vn : Nat) (wd : Int32) (tf : Nat → Option Nat) (b f dn t ro a bl n : Nat) (bs bk db : Nat → Int32) (m_0 : 0 ∈ L) (m_1 : 1 ∈ L) (m_2 : 2 ∈ L) (m_3 : 3 ∈ L) (m_4 : 4 ∈ L) (m_5 : 5 ∈ L) (m_pp : pp ∈ L) (m_pt : pt ∈ L) (m_t : t ∈ L) (m_ro : ro ∈ L) (m_a : a ∈ L) (m_bl : bl ∈ L) (h_0 : g 0 = .inr (8, [.ref (ad 1), .ref (ad 3), .ref (ad 6), .int (nI pn), .ref (ad 7), .ref (ad 20), .ref (ad 22), .ref (ad 28), .int (nI qn), .ref (ad 29), .int nw, .long tr])) (h_1 : g 1 = .inr (5, [.ref (ad 2), .int (nI dn)])) (h_2 : g 2 = .inl (ty 2, 40, .inl db)) (h_3 : g 3 = .inr (4, [.ref (ad 4), .ref (ad 5)])) (h_4 : g 4 = .inl (ty 0, 12, .inl fs)) (h_5 : g 5 = .inl (ty 0, 12, .inl fe)) (h_pp : g pp = .inr (2, [.int (nI f), .ref (ad pt), .int (nI vn), .int wd])) (h_pt : g pt = .inl (ty 7, 4, .inr (.inr (.inr (.inr tf))))) (h_t : g t = .inr (7, [.ref (ad ro), .ref (ad bl)])) (h_ro : g ro = .inr (5, [.ref (ad a), .int (nI n)])) (h_a : g a = .inl (ty 2, n, .inl bs)) (h_bl : g bl = .inl (ty 3, n, .inl bk)) (hb6 : b < 6) (hf4 : f < 4) (hwd : wd = 0 ∨ wd = 1) (hv1 : 1 ≤ vn) (hv4 : vn ≤ 4) (htf : tf (vn - 1) = some (ad t)) (hn40 : n ≤ 40) (hd1 : 1 ≤ dn) (hdn : dn ≤ 40) (hbk : ∀ i, i < n → bk i = 0 ∨ bk i = 1) : m_E l yX8_isFoundIn wsX8_isFoundIn 5 113 D ty [.ref (ad 0), .ref (ad pp), .int (nI b)] L ad g (some (.int (zb ((opn wd fs fe (b % 3 * 4 + f) nw) && mz bs bk db dn (n + 1 - dn))))) g := by
  intro sz
  refine Met.ofW (cc := cX8_isFoundIn) (maxL := 4) (ret := (some .boolean)) (by decide) rfl ?_
  intro p e s m args below meth c s₁ B hml hv
  have hx := B.exec
  have hb := B.bytes
  have hrt := B.returns
  have hts := atoms_spec (ws := wsX8_isFoundIn) B.pre
  have hown : s.vm.findClass RX8 = some m.cls := findClass_of_methodNamed B.named
  have hlocks := B.notSynchronized
  obtain ⟨rfl, hB⟩ := m_start hv
  generalize va_A (m_w L ad g) sz = A at hB ⊢
  generalize s.heap = H at hB ⊢
  generalize ([] : List Loc) = locs at hB ⊢
  have hl := lv_entry ([.ref (ad 0), .ref (ad pp), .int (nI b)]) (n := 4) (Nat.le_of_ble_eq_true rfl)
  rw [lg_entry_eq]
  generalize (lg_sl ([.ref (ad 0), .ref (ad pp), .int (nI b)]) ++ List.replicate (4 - (lg_sl ([.ref (ad 0), .ref (ad pp), .int (nI b)])).length) Slot.unset).toArray = ls at hl ⊢
  have hl : lv_has ls 4 [(0, .ref (ad 0)), (1, .ref (ad pp)), (2, .int (nI b))] := hl
  rcases bool2 (opn wd fs fe (b % 3 * 4 + f) nw) with hs | hs
  · skip
    rcases bool2 (mz bs bk db dn (n + 1 - dn)) with hh | hh
    · skip
      refine lv_aload_n hx hb dX8_isFoundIn_0 rfl (lv_at hl 1 rfl) ?_
      refine lv_ifnull hx hb dX8_isFoundIn_1 ?_
      refine lv_aload_n hx hb dX8_isFoundIn_4 rfl (lv_at hl 0 rfl) ?_
      refine lv_aload_n hx hb dX8_isFoundIn_5 rfl (lv_at hl 1 rfl) ?_
      refine lv_iload_n hx hb dX8_isFoundIn_6 rfl (lv_at hl 2 rfl) ?_
      refine m_callVE (ci := 8) (As := [.ref (ad pp), .int (nI b)]) (rest := []) (c_X_isOpen2 l D ty L ad g pn qn nw tr fs fe pp pt vn wd b f m_0 m_3 m_4 m_5 m_pp h_0 h_3 h_4 h_5 h_pp hb6 hf4 hwd) ⟨hx, hb, hml, hown, hts⟩ (cwV 2 hts gX8_isFoundIn_X8_isOpen rfl rfl rfl (by decide +kernel) ⟨Nat.le_of_ble_eq_true rfl, Nat.le_of_ble_eq_true rfl⟩) hB m_0 h_0 rfl rfl hl.1 rfl (Nat.le_of_ble_eq_true rfl) dX8_isFoundIn_7 ⟨Nat.le_of_ble_eq_true rfl, Nat.le_of_ble_eq_true rfl⟩ (fun H locs hB => ?_)
      refine b_if_ne_t 15 hx hb dX8_isFoundIn_10 (by decide) (by rw [hs]; decide) ?_
      refine lv_aload_n hx hb dX8_isFoundIn_15 rfl (lv_at hl 1 rfl) ?_
      refine lv_aload_n hx hb dX8_isFoundIn_16 rfl (lv_at hl 1 rfl) ?_
      refine m_callVE (ci := 2) (As := []) (rest := [.ref (ad pp)]) (c_Paper_versions l D ty L ad g pp pt vn (nI f) wd m_pp h_pp) ⟨hx, hb, hml, hown, hts⟩ (cwV 0 hts gX8_isFoundIn_X2_versions rfl rfl rfl (by decide +kernel) ⟨Nat.le_of_ble_eq_true rfl, Nat.le_of_ble_eq_true rfl⟩) hB m_pp h_pp rfl rfl hl.1 rfl (Nat.le_of_ble_eq_true rfl) dX8_isFoundIn_17 ⟨Nat.le_of_ble_eq_true rfl, Nat.le_of_ble_eq_true rfl⟩ (fun H locs hB => ?_)
      refine lv_iconst (v := 1) hx hb dX8_isFoundIn_20 (by decide) ?_
      refine lv_isub hx hb dX8_isFoundIn_21 ?_
      refine b_topi (w := nI (vn - 1)) (pk_sub (a := vn) (b := 1) hv1) ?_
      refine m_callVE (ci := 2) (As := [.int (nI (vn - 1))]) (rest := []) ((by have h9 := c_Paper_text_t l D ty L ad g pp pt vn (nI f) wd tf (vn - 1) m_pp m_pt h_pp h_pt (by omega); rw [htf] at h9; exact h9 : m_E l yX2_text wsX2_text 1 21 D ty [.ref (ad pp), .int (nI (vn - 1))] L ad g (some (.ref (ad t))) g)) ⟨hx, hb, hml, hown, hts⟩ (cwV 1 hts gX8_isFoundIn_X2_text rfl rfl rfl (by decide +kernel) ⟨Nat.le_of_ble_eq_true rfl, Nat.le_of_ble_eq_true rfl⟩) hB m_pp h_pp rfl rfl hl.1 rfl (Nat.le_of_ble_eq_true rfl) dX8_isFoundIn_22 ⟨Nat.le_of_ble_eq_true rfl, Nat.le_of_ble_eq_true rfl⟩ (fun H locs hB => ?_)
      refine lv_astore_n (lv' := [(3, .ref (ad t)), (0, .ref (ad 0)), (1, .ref (ad pp)), (2, .int (nI b))]) hx hb dX8_isFoundIn_25 rfl hl (by decide) rfl (fun ls hl => ?_)
      refine lv_aload_n hx hb dX8_isFoundIn_26 rfl (lv_at hl 0 rfl) ?_
      refine lv_ifnull hx hb dX8_isFoundIn_27 ?_
      refine lv_aload_n hx hb dX8_isFoundIn_30 rfl (lv_at hl 0 rfl) ?_
      refine lv_aload_n hx hb dX8_isFoundIn_31 rfl (lv_at hl 1 rfl) ?_
      refine m_get (C := RX8) (T := TX8) (N := 12) (ci := 8) hx hb hts in_X8_isFoundIn_X8 hown hB m_0 h_0 rfl 0 (by decide) (hts (.fieldLink RX8 14 "PaperRoom" "draft" "LPaperRoom$Row;") (by decide +kernel)) (fun _ h9 => h9) rfl dX8_isFoundIn_32 ?_
      refine m_callVE (ci := 7) (As := [.ref (ad 1)]) (rest := []) (c_Text_holds l D ty L ad g t ro a bl n bs bk 1 2 dn 40 db m_t m_ro m_a m_bl m_1 m_2 h_t h_ro h_a h_bl h_1 h_2 hn40 (by omega) (by omega) hbk hd1) ⟨hx, hb, hml, hown, hts⟩ (cwV 1 hts gX8_isFoundIn_X7_holds rfl rfl rfl (by decide +kernel) ⟨Nat.le_of_ble_eq_true rfl, Nat.le_of_ble_eq_true rfl⟩) hB m_t h_t rfl rfl hl.1 rfl (Nat.le_of_ble_eq_true rfl) dX8_isFoundIn_35 ⟨Nat.le_of_ble_eq_true rfl, Nat.le_of_ble_eq_true rfl⟩ (fun H locs hB => ?_)
      refine b_if_eq_f 45 hx hb dX8_isFoundIn_38 (by decide) (by rw [hh]; decide) ?_
      refine lv_iconst (v := 1) hx hb dX8_isFoundIn_41 (by decide) ?_
      refine lv_goto (tgt := 46) hx hb dX8_isFoundIn_42 (by decide) ?_
      exact m_zret hx hb hrt hlocks hB (Nat.le_refl _) (Nat.le_refl _) dX8_isFoundIn_46 rfl ⟨zt (by rw [hs, hh]; rfl), rfl, rfl, rfl⟩
    · skip
      refine lv_aload_n hx hb dX8_isFoundIn_0 rfl (lv_at hl 1 rfl) ?_
      refine lv_ifnull hx hb dX8_isFoundIn_1 ?_
      refine lv_aload_n hx hb dX8_isFoundIn_4 rfl (lv_at hl 0 rfl) ?_
      refine lv_aload_n hx hb dX8_isFoundIn_5 rfl (lv_at hl 1 rfl) ?_
      refine lv_iload_n hx hb dX8_isFoundIn_6 rfl (lv_at hl 2 rfl) ?_
      refine m_callVE (ci := 8) (As := [.ref (ad pp), .int (nI b)]) (rest := []) (c_X_isOpen2 l D ty L ad g pn qn nw tr fs fe pp pt vn wd b f m_0 m_3 m_4 m_5 m_pp h_0 h_3 h_4 h_5 h_pp hb6 hf4 hwd) ⟨hx, hb, hml, hown, hts⟩ (cwV 2 hts gX8_isFoundIn_X8_isOpen rfl rfl rfl (by decide +kernel) ⟨Nat.le_of_ble_eq_true rfl, Nat.le_of_ble_eq_true rfl⟩) hB m_0 h_0 rfl rfl hl.1 rfl (Nat.le_of_ble_eq_true rfl) dX8_isFoundIn_7 ⟨Nat.le_of_ble_eq_true rfl, Nat.le_of_ble_eq_true rfl⟩ (fun H locs hB => ?_)
      refine b_if_ne_t 15 hx hb dX8_isFoundIn_10 (by decide) (by rw [hs]; decide) ?_
      refine lv_aload_n hx hb dX8_isFoundIn_15 rfl (lv_at hl 1 rfl) ?_
      refine lv_aload_n hx hb dX8_isFoundIn_16 rfl (lv_at hl 1 rfl) ?_
      refine m_callVE (ci := 2) (As := []) (rest := [.ref (ad pp)]) (c_Paper_versions l D ty L ad g pp pt vn (nI f) wd m_pp h_pp) ⟨hx, hb, hml, hown, hts⟩ (cwV 0 hts gX8_isFoundIn_X2_versions rfl rfl rfl (by decide +kernel) ⟨Nat.le_of_ble_eq_true rfl, Nat.le_of_ble_eq_true rfl⟩) hB m_pp h_pp rfl rfl hl.1 rfl (Nat.le_of_ble_eq_true rfl) dX8_isFoundIn_17 ⟨Nat.le_of_ble_eq_true rfl, Nat.le_of_ble_eq_true rfl⟩ (fun H locs hB => ?_)
      refine lv_iconst (v := 1) hx hb dX8_isFoundIn_20 (by decide) ?_
      refine lv_isub hx hb dX8_isFoundIn_21 ?_
      refine b_topi (w := nI (vn - 1)) (pk_sub (a := vn) (b := 1) hv1) ?_
      refine m_callVE (ci := 2) (As := [.int (nI (vn - 1))]) (rest := []) ((by have h9 := c_Paper_text_t l D ty L ad g pp pt vn (nI f) wd tf (vn - 1) m_pp m_pt h_pp h_pt (by omega); rw [htf] at h9; exact h9 : m_E l yX2_text wsX2_text 1 21 D ty [.ref (ad pp), .int (nI (vn - 1))] L ad g (some (.ref (ad t))) g)) ⟨hx, hb, hml, hown, hts⟩ (cwV 1 hts gX8_isFoundIn_X2_text rfl rfl rfl (by decide +kernel) ⟨Nat.le_of_ble_eq_true rfl, Nat.le_of_ble_eq_true rfl⟩) hB m_pp h_pp rfl rfl hl.1 rfl (Nat.le_of_ble_eq_true rfl) dX8_isFoundIn_22 ⟨Nat.le_of_ble_eq_true rfl, Nat.le_of_ble_eq_true rfl⟩ (fun H locs hB => ?_)
      refine lv_astore_n (lv' := [(3, .ref (ad t)), (0, .ref (ad 0)), (1, .ref (ad pp)), (2, .int (nI b))]) hx hb dX8_isFoundIn_25 rfl hl (by decide) rfl (fun ls hl => ?_)
      refine lv_aload_n hx hb dX8_isFoundIn_26 rfl (lv_at hl 0 rfl) ?_
      refine lv_ifnull hx hb dX8_isFoundIn_27 ?_
      refine lv_aload_n hx hb dX8_isFoundIn_30 rfl (lv_at hl 0 rfl) ?_
      refine lv_aload_n hx hb dX8_isFoundIn_31 rfl (lv_at hl 1 rfl) ?_
      refine m_get (C := RX8) (T := TX8) (N := 12) (ci := 8) hx hb hts in_X8_isFoundIn_X8 hown hB m_0 h_0 rfl 0 (by decide) (hts (.fieldLink RX8 14 "PaperRoom" "draft" "LPaperRoom$Row;") (by decide +kernel)) (fun _ h9 => h9) rfl dX8_isFoundIn_32 ?_
      refine m_callVE (ci := 7) (As := [.ref (ad 1)]) (rest := []) (c_Text_holds l D ty L ad g t ro a bl n bs bk 1 2 dn 40 db m_t m_ro m_a m_bl m_1 m_2 h_t h_ro h_a h_bl h_1 h_2 hn40 (by omega) (by omega) hbk hd1) ⟨hx, hb, hml, hown, hts⟩ (cwV 1 hts gX8_isFoundIn_X7_holds rfl rfl rfl (by decide +kernel) ⟨Nat.le_of_ble_eq_true rfl, Nat.le_of_ble_eq_true rfl⟩) hB m_t h_t rfl rfl hl.1 rfl (Nat.le_of_ble_eq_true rfl) dX8_isFoundIn_35 ⟨Nat.le_of_ble_eq_true rfl, Nat.le_of_ble_eq_true rfl⟩ (fun H locs hB => ?_)
      refine b_if_eq_t 45 hx hb dX8_isFoundIn_38 (by decide) (by rw [hh]; decide) ?_
      refine lv_iconst (v := 0) hx hb dX8_isFoundIn_45 (by decide) ?_
      exact m_zret hx hb hrt hlocks hB (Nat.le_refl _) (Nat.le_refl _) dX8_isFoundIn_46 rfl ⟨zf (by rw [hh]; simp), rfl, rfl, rfl⟩
  · skip
    refine lv_aload_n hx hb dX8_isFoundIn_0 rfl (lv_at hl 1 rfl) ?_
    refine lv_ifnull hx hb dX8_isFoundIn_1 ?_
    refine lv_aload_n hx hb dX8_isFoundIn_4 rfl (lv_at hl 0 rfl) ?_
    refine lv_aload_n hx hb dX8_isFoundIn_5 rfl (lv_at hl 1 rfl) ?_
    refine lv_iload_n hx hb dX8_isFoundIn_6 rfl (lv_at hl 2 rfl) ?_
    refine m_callVE (ci := 8) (As := [.ref (ad pp), .int (nI b)]) (rest := []) (c_X_isOpen2 l D ty L ad g pn qn nw tr fs fe pp pt vn wd b f m_0 m_3 m_4 m_5 m_pp h_0 h_3 h_4 h_5 h_pp hb6 hf4 hwd) ⟨hx, hb, hml, hown, hts⟩ (cwV 2 hts gX8_isFoundIn_X8_isOpen rfl rfl rfl (by decide +kernel) ⟨Nat.le_of_ble_eq_true rfl, Nat.le_of_ble_eq_true rfl⟩) hB m_0 h_0 rfl rfl hl.1 rfl (Nat.le_of_ble_eq_true rfl) dX8_isFoundIn_7 ⟨Nat.le_of_ble_eq_true rfl, Nat.le_of_ble_eq_true rfl⟩ (fun H locs hB => ?_)
    refine b_if_ne_f 15 hx hb dX8_isFoundIn_10 (by decide) (by rw [hs]; decide) ?_
    refine lv_iconst (v := 0) hx hb dX8_isFoundIn_13 (by decide) ?_
    exact m_zret hx hb hrt hlocks hB (Nat.le_refl _) (Nat.le_refl _) dX8_isFoundIn_14 rfl ⟨zf (by rw [hs]; rfl), rfl, rfl, rfl⟩
