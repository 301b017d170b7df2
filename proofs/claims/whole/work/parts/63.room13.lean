set_option maxRecDepth 20000 in
theorem in_X8_questionOn_X8 : ∀ w ∈ wsX80, w ∈ wsX8_questionOn := by decide +kernel
set_option maxHeartbeats 1000000 in
set_option maxRecDepth 100000 in
theorem c_X_questionOn_t (l : Launch) (D : va_G) (ty : Nat → ClassId) (L : List Nat) (ad : Nat → Nat) (g : Nat → va_E) (pn qn : Nat) (nw : Int32) (tr : Int64) (qf : Nat → Option Nat) (qr : Nat → Nat) (qp qt qa qc qv : Nat → Int32) (pj tp : Int32) (q : Nat) (m_0 : 0 ∈ L) (m_28 : 28 ∈ L) (h_0 : g 0 = .inr (8, [.ref (ad 1), .ref (ad 3), .ref (ad 6), .int (nI pn), .ref (ad 7), .ref (ad 20), .ref (ad 22), .ref (ad 28), .int (nI qn), .ref (ad 29), .int nw, .long tr])) (h_28 : g 28 = .inl (ty 5, 30, .inr (.inr (.inr (.inr qf))))) (hq0 : ∀ i, i < qn → qf i = some (ad (qr i))) (hq1 : ∀ i, i < qn → qr i ∈ L) (hq2 : ∀ i, i < qn → g (qr i) = .inr (3, [.int (qp i), .int (qt i), .int (qa i), .int (qc i), .int (qv i)])) (hqn : qn ≤ 30) (hq : q < qn) (hyes : (qp q = pj ∧ qt q = tp)) (hno : ∀ i, i < q → ¬ (qp i = pj ∧ qt i = tp)) : m_E l yX8_questionOn wsX8_questionOn 2 42 D ty [.ref (ad 0), .int pj, .int tp] L ad g (some (.int (nI q))) g := by
  intro sz
  refine Met.ofW (cc := cX8_questionOn) (maxL := 5) (ret := (some .int)) (by decide) rfl ?_
  intro p e s m args below meth c s₁ B hml hv
  have hx := B.exec
  have hb := B.bytes
  have hrt := B.returns
  have hts := atoms_spec (ws := wsX8_questionOn) B.pre
  have hown : s.vm.findClass RX8 = some m.cls := findClass_of_methodNamed B.named
  have hlocks := B.notSynchronized
  obtain ⟨rfl, hB⟩ := m_start hv
  generalize va_A (m_w L ad g) sz = A at hB ⊢
  generalize s.heap = H at hB ⊢
  generalize ([] : List Loc) = locs at hB ⊢
  have hl := lv_entry ([.ref (ad 0), .int pj, .int tp]) (n := 5) (Nat.le_of_ble_eq_true rfl)
  rw [lg_entry_eq]
  generalize (lg_sl ([.ref (ad 0), .int pj, .int tp]) ++ List.replicate (5 - (lg_sl ([.ref (ad 0), .int pj, .int tp])).length) Slot.unset).toArray = ls at hl ⊢
  have hl : lv_has ls 5 [(0, .ref (ad 0)), (1, .int pj), (2, .int tp)] := hl
  refine lv_iconst (v := 0) hx hb dX8_questionOn_0 (by decide) ?_
  refine lv_istore_n (lv' := [(3, .int 0), (0, .ref (ad 0)), (1, .int pj), (2, .int tp)]) hx hb dX8_questionOn_1 rfl hl (by decide) rfl (fun ls hl => ?_)
  have tI_qn : (nI qn).toInt = (qn : Int) := nI_toInt (by omega)
  replace hl : lv_has ls 5 [(0, .ref (ad 0)), (1, .int pj), (2, .int tp), (3, .int 0)] := lv_sub hl [1, 2, 3, 0] rfl
  obtain ⟨k, hk0⟩ : ∃ k : Nat, k = 0 := ⟨0, rfl⟩
  replace hl : lv_has ls 5 [(0, .ref (ad 0)), (1, .int pj), (2, .int tp), (3, .int (nI k))] := by rw [hk0]; exact hl
  obtain ⟨jz, hj⟩ : ∃ jz : Nat, k + jz = q := ⟨q - k, by omega⟩
  clear hk0
  induction jz generalizing k H locs ls with
  | zero =>
    have hje : k = q := by omega
    have tI_k : (nI k).toInt = (k : Int) := nI_toInt (by omega)
    subst hje
    have hk9 : k < qn := by omega
    refine lv_iload_n hx hb dX8_questionOn_2 rfl (lv_at hl 3 rfl) ?_
    refine lv_aload_n hx hb dX8_questionOn_3 rfl (lv_at hl 0 rfl) ?_
    refine m_get (C := RX8) (T := TX8) (N := 12) (ci := 8) hx hb hts in_X8_questionOn_X8 hown hB m_0 h_0 rfl 8 (by decide) (hts (.fieldLink RX8 233 "PaperRoom" "questionCount" "I") (by decide +kernel)) (fun _ h9 => h9) rfl dX8_questionOn_4 ?_
    refine b_icmp_ge_f 40 hx hb dX8_questionOn_7 (by decide) (by omega) ?_
    refine lv_aload_n hx hb dX8_questionOn_10 rfl (lv_at hl 0 rfl) ?_
    refine lv_iload_n hx hb dX8_questionOn_11 rfl (lv_at hl 3 rfl) ?_
    refine m_callVE (ci := 8) (As := [.int (nI k)]) (rest := []) ((by have h9 := c_X_questionNumber_t l D ty L ad g pn qn nw tr qf k m_0 m_28 h_0 h_28 (by omega); rw [hq0 k hk9] at h9; exact h9 : m_E l yX8_questionNumber wsX8_questionNumber 1 21 D ty [.ref (ad 0), .int (nI k)] L ad g (some (.ref (ad (qr k)))) g)) ⟨hx, hb, hml, hown, hts⟩ (cwV 1 hts gX8_questionOn_X8_questionNumber rfl rfl rfl (by decide +kernel) ⟨Nat.le_of_ble_eq_true rfl, Nat.le_of_ble_eq_true rfl⟩) hB m_0 h_0 rfl rfl hl.1 rfl (Nat.le_of_ble_eq_true rfl) dX8_questionOn_12 ⟨Nat.le_of_ble_eq_true rfl, Nat.le_of_ble_eq_true rfl⟩ (fun H locs hB => ?_)
    refine lv_astore (lv' := [(4, .ref (ad (qr k))), (0, .ref (ad 0)), (1, .int pj), (2, .int tp), (3, .int (nI k))]) hx hb dX8_questionOn_15 hl (by decide) rfl (fun ls hl => ?_)
    refine lv_aload hx hb dX8_questionOn_17 (lv_at hl 0 rfl) ?_
    refine lv_ifnull hx hb dX8_questionOn_19 ?_
    refine lv_aload hx hb dX8_questionOn_22 (lv_at hl 0 rfl) ?_
    refine lv_iload_n hx hb dX8_questionOn_24 rfl (lv_at hl 2 rfl) ?_
    refine lv_iload_n hx hb dX8_questionOn_25 rfl (lv_at hl 3 rfl) ?_
    refine m_callVE (ci := 3) (As := [.int pj, .int tp]) (rest := []) (c_Question_isOn l D ty L ad g (qr k) (qp k) (qt k) (qa k) (qc k) (qv k) pj tp (hq1 k hk9) (hq2 k hk9)) ⟨hx, hb, hml, hown, hts⟩ (cwV 2 hts gX8_questionOn_X3_isOn rfl rfl rfl (by decide +kernel) ⟨Nat.le_of_ble_eq_true rfl, Nat.le_of_ble_eq_true rfl⟩) hB (hq1 k hk9) (hq2 k hk9) rfl rfl hl.1 rfl (Nat.le_of_ble_eq_true rfl) dX8_questionOn_26 ⟨Nat.le_of_ble_eq_true rfl, Nat.le_of_ble_eq_true rfl⟩ (fun H locs hB => ?_)
    refine b_if_eq_f 34 hx hb dX8_questionOn_29 (by decide) (by rw [dt hyes]; decide) ?_
    refine lv_iload_n hx hb dX8_questionOn_32 rfl (lv_at hl 4 rfl) ?_
    exact m_iret hx hb hrt hlocks hB (Nat.le_refl _) (Nat.le_refl _) dX8_questionOn_33 ⟨rfl, rfl, rfl, rfl⟩
  | succ jz ihj =>
    have hjl : k < q := by omega
    have tI_k : (nI k).toInt = (k : Int) := nI_toInt (by omega)
    have hk9 : k < qn := by omega
    refine lv_iload_n hx hb dX8_questionOn_2 rfl (lv_at hl 3 rfl) ?_
    refine lv_aload_n hx hb dX8_questionOn_3 rfl (lv_at hl 0 rfl) ?_
    refine m_get (C := RX8) (T := TX8) (N := 12) (ci := 8) hx hb hts in_X8_questionOn_X8 hown hB m_0 h_0 rfl 8 (by decide) (hts (.fieldLink RX8 233 "PaperRoom" "questionCount" "I") (by decide +kernel)) (fun _ h9 => h9) rfl dX8_questionOn_4 ?_
    refine b_icmp_ge_f 40 hx hb dX8_questionOn_7 (by decide) (by omega) ?_
    refine lv_aload_n hx hb dX8_questionOn_10 rfl (lv_at hl 0 rfl) ?_
    refine lv_iload_n hx hb dX8_questionOn_11 rfl (lv_at hl 3 rfl) ?_
    refine m_callVE (ci := 8) (As := [.int (nI k)]) (rest := []) ((by have h9 := c_X_questionNumber_t l D ty L ad g pn qn nw tr qf k m_0 m_28 h_0 h_28 (by omega); rw [hq0 k hk9] at h9; exact h9 : m_E l yX8_questionNumber wsX8_questionNumber 1 21 D ty [.ref (ad 0), .int (nI k)] L ad g (some (.ref (ad (qr k)))) g)) ⟨hx, hb, hml, hown, hts⟩ (cwV 1 hts gX8_questionOn_X8_questionNumber rfl rfl rfl (by decide +kernel) ⟨Nat.le_of_ble_eq_true rfl, Nat.le_of_ble_eq_true rfl⟩) hB m_0 h_0 rfl rfl hl.1 rfl (Nat.le_of_ble_eq_true rfl) dX8_questionOn_12 ⟨Nat.le_of_ble_eq_true rfl, Nat.le_of_ble_eq_true rfl⟩ (fun H locs hB => ?_)
    refine lv_astore (lv' := [(4, .ref (ad (qr k))), (0, .ref (ad 0)), (1, .int pj), (2, .int tp), (3, .int (nI k))]) hx hb dX8_questionOn_15 hl (by decide) rfl (fun ls hl => ?_)
    refine lv_aload hx hb dX8_questionOn_17 (lv_at hl 0 rfl) ?_
    refine lv_ifnull hx hb dX8_questionOn_19 ?_
    refine lv_aload hx hb dX8_questionOn_22 (lv_at hl 0 rfl) ?_
    refine lv_iload_n hx hb dX8_questionOn_24 rfl (lv_at hl 2 rfl) ?_
    refine lv_iload_n hx hb dX8_questionOn_25 rfl (lv_at hl 3 rfl) ?_
    refine m_callVE (ci := 3) (As := [.int pj, .int tp]) (rest := []) (c_Question_isOn l D ty L ad g (qr k) (qp k) (qt k) (qa k) (qc k) (qv k) pj tp (hq1 k hk9) (hq2 k hk9)) ⟨hx, hb, hml, hown, hts⟩ (cwV 2 hts gX8_questionOn_X3_isOn rfl rfl rfl (by decide +kernel) ⟨Nat.le_of_ble_eq_true rfl, Nat.le_of_ble_eq_true rfl⟩) hB (hq1 k hk9) (hq2 k hk9) rfl rfl hl.1 rfl (Nat.le_of_ble_eq_true rfl) dX8_questionOn_26 ⟨Nat.le_of_ble_eq_true rfl, Nat.le_of_ble_eq_true rfl⟩ (fun H locs hB => ?_)
    refine b_if_eq_t 34 hx hb dX8_questionOn_29 (by decide) (by rw [df (hno k (by omega))]; decide) ?_
    refine lv_iinc (v := nI (k + 1)) (lv' := [(3, .int (nI (k + 1))), (4, .ref (ad (qr k))), (0, .ref (ad 0)), (1, .int pj), (2, .int tp)]) hx hb dX8_questionOn_34 hl (k := 4) rfl (nI_add k 1) (by decide) rfl (fun ls hl => ?_)
    refine lv_goto (tgt := 2) hx hb dX8_questionOn_37 (by decide) ?_
    have hl : lv_has ls 5 [(0, .ref (ad 0)), (1, .int pj), (2, .int tp), (3, .int (nI (k + 1)))] := lv_sub hl [2, 3, 4, 0] rfl
    apply ihj (k := (k + 1)) (H := H) (locs := locs) (ls := ls) <;> first | omega | exact hB | exact hl
set_option maxHeartbeats 1000000 in
set_option maxRecDepth 100000 in
theorem c_X_questionOn_full (l : Launch) (D : va_G) (ty : Nat → ClassId) (L : List Nat) (ad : Nat → Nat) (g : Nat → va_E) (pn qn : Nat) (nw : Int32) (tr : Int64) (qf : Nat → Option Nat) (qr : Nat → Nat) (qp qt qa qc qv : Nat → Int32) (pj tp : Int32) (m_0 : 0 ∈ L) (m_28 : 28 ∈ L) (h_0 : g 0 = .inr (8, [.ref (ad 1), .ref (ad 3), .ref (ad 6), .int (nI pn), .ref (ad 7), .ref (ad 20), .ref (ad 22), .ref (ad 28), .int (nI qn), .ref (ad 29), .int nw, .long tr])) (h_28 : g 28 = .inl (ty 5, 30, .inr (.inr (.inr (.inr qf))))) (hq0 : ∀ i, i < qn → qf i = some (ad (qr i))) (hq1 : ∀ i, i < qn → qr i ∈ L) (hq2 : ∀ i, i < qn → g (qr i) = .inr (3, [.int (qp i), .int (qt i), .int (qa i), .int (qc i), .int (qv i)])) (hqn : qn ≤ 30) (hq30 : qn = 30) (hno : ∀ i, i < qn → ¬ (qp i = pj ∧ qt i = tp)) : m_E l yX8_questionOn wsX8_questionOn 2 42 D ty [.ref (ad 0), .int pj, .int tp] L ad g (some (.int (-9))) g := by
  intro sz
  refine Met.ofW (cc := cX8_questionOn) (maxL := 5) (ret := (some .int)) (by decide) rfl ?_
  intro p e s m args below meth c s₁ B hml hv
  have hx := B.exec
  have hb := B.bytes
  have hrt := B.returns
  have hts := atoms_spec (ws := wsX8_questionOn) B.pre
  have hown : s.vm.findClass RX8 = some m.cls := findClass_of_methodNamed B.named
  have hlocks := B.notSynchronized
  obtain ⟨rfl, hB⟩ := m_start hv
  generalize va_A (m_w L ad g) sz = A at hB ⊢
  generalize s.heap = H at hB ⊢
  generalize ([] : List Loc) = locs at hB ⊢
  have hl := lv_entry ([.ref (ad 0), .int pj, .int tp]) (n := 5) (Nat.le_of_ble_eq_true rfl)
  rw [lg_entry_eq]
  generalize (lg_sl ([.ref (ad 0), .int pj, .int tp]) ++ List.replicate (5 - (lg_sl ([.ref (ad 0), .int pj, .int tp])).length) Slot.unset).toArray = ls at hl ⊢
  have hl : lv_has ls 5 [(0, .ref (ad 0)), (1, .int pj), (2, .int tp)] := hl
  refine lv_iconst (v := 0) hx hb dX8_questionOn_0 (by decide) ?_
  refine lv_istore_n (lv' := [(3, .int 0), (0, .ref (ad 0)), (1, .int pj), (2, .int tp)]) hx hb dX8_questionOn_1 rfl hl (by decide) rfl (fun ls hl => ?_)
  have tI_qn : (nI qn).toInt = (qn : Int) := nI_toInt (by omega)
  replace hl : lv_has ls 5 [(0, .ref (ad 0)), (1, .int pj), (2, .int tp), (3, .int 0)] := lv_sub hl [1, 2, 3, 0] rfl
  obtain ⟨k, hk0⟩ : ∃ k : Nat, k = 0 := ⟨0, rfl⟩
  replace hl : lv_has ls 5 [(0, .ref (ad 0)), (1, .int pj), (2, .int tp), (3, .int (nI k))] := by rw [hk0]; exact hl
  obtain ⟨jz, hj⟩ : ∃ jz : Nat, k + jz = qn := ⟨qn - k, by omega⟩
  clear hk0
  induction jz generalizing k H locs ls with
  | zero =>
    have hje : k = qn := by omega
    have tI_k : (nI k).toInt = (k : Int) := nI_toInt (by omega)
    refine lv_iload_n hx hb dX8_questionOn_2 rfl (lv_at hl 3 rfl) ?_
    refine lv_aload_n hx hb dX8_questionOn_3 rfl (lv_at hl 0 rfl) ?_
    refine m_get (C := RX8) (T := TX8) (N := 12) (ci := 8) hx hb hts in_X8_questionOn_X8 hown hB m_0 h_0 rfl 8 (by decide) (hts (.fieldLink RX8 233 "PaperRoom" "questionCount" "I") (by decide +kernel)) (fun _ h9 => h9) rfl dX8_questionOn_4 ?_
    refine b_icmp_ge_t 40 hx hb dX8_questionOn_7 (by decide) (by omega) ?_
    refine lv_aload_n hx hb dX8_questionOn_40 rfl (lv_at hl 0 rfl) ?_
    refine m_get (C := RX8) (T := TX8) (N := 12) (ci := 8) hx hb hts in_X8_questionOn_X8 hown hB m_0 h_0 rfl 8 (by decide) (hts (.fieldLink RX8 233 "PaperRoom" "questionCount" "I") (by decide +kernel)) (fun _ h9 => h9) rfl dX8_questionOn_41 ?_
    refine lv_aload_n hx hb dX8_questionOn_44 rfl (lv_at hl 0 rfl) ?_
    refine m_get (C := RX8) (T := TX8) (N := 12) (ci := 8) hx hb hts in_X8_questionOn_X8 hown hB m_0 h_0 rfl 7 (by decide) (hts (.fieldLink RX8 47 "PaperRoom" "questions" "[LPaperRoom$Question;") (by decide +kernel)) (fun _ h9 => h9) rfl dX8_questionOn_45 ?_
    refine m_alen hx hb hB m_28 5 h_28 rfl (v := nI 30) rfl dX8_questionOn_48 ?_
    refine b_icmp_lt_f 55 hx hb dX8_questionOn_49 (by decide) (by rw [hq30]; decide) ?_
    refine lv_bipush (v := (-9)) hx hb dX8_questionOn_52 (by decide) ?_
    exact m_iret hx hb hrt hlocks hB (Nat.le_refl _) (Nat.le_refl _) dX8_questionOn_54 ⟨rfl, rfl, rfl, rfl⟩
  | succ jz ihj =>
    have hjl : k < qn := by omega
    have tI_k : (nI k).toInt = (k : Int) := nI_toInt (by omega)
    have hk9 : k < qn := by omega
    refine lv_iload_n hx hb dX8_questionOn_2 rfl (lv_at hl 3 rfl) ?_
    refine lv_aload_n hx hb dX8_questionOn_3 rfl (lv_at hl 0 rfl) ?_
    refine m_get (C := RX8) (T := TX8) (N := 12) (ci := 8) hx hb hts in_X8_questionOn_X8 hown hB m_0 h_0 rfl 8 (by decide) (hts (.fieldLink RX8 233 "PaperRoom" "questionCount" "I") (by decide +kernel)) (fun _ h9 => h9) rfl dX8_questionOn_4 ?_
    refine b_icmp_ge_f 40 hx hb dX8_questionOn_7 (by decide) (by omega) ?_
    refine lv_aload_n hx hb dX8_questionOn_10 rfl (lv_at hl 0 rfl) ?_
    refine lv_iload_n hx hb dX8_questionOn_11 rfl (lv_at hl 3 rfl) ?_
    refine m_callVE (ci := 8) (As := [.int (nI k)]) (rest := []) ((by have h9 := c_X_questionNumber_t l D ty L ad g pn qn nw tr qf k m_0 m_28 h_0 h_28 (by omega); rw [hq0 k hk9] at h9; exact h9 : m_E l yX8_questionNumber wsX8_questionNumber 1 21 D ty [.ref (ad 0), .int (nI k)] L ad g (some (.ref (ad (qr k)))) g)) ⟨hx, hb, hml, hown, hts⟩ (cwV 1 hts gX8_questionOn_X8_questionNumber rfl rfl rfl (by decide +kernel) ⟨Nat.le_of_ble_eq_true rfl, Nat.le_of_ble_eq_true rfl⟩) hB m_0 h_0 rfl rfl hl.1 rfl (Nat.le_of_ble_eq_true rfl) dX8_questionOn_12 ⟨Nat.le_of_ble_eq_true rfl, Nat.le_of_ble_eq_true rfl⟩ (fun H locs hB => ?_)
    refine lv_astore (lv' := [(4, .ref (ad (qr k))), (0, .ref (ad 0)), (1, .int pj), (2, .int tp), (3, .int (nI k))]) hx hb dX8_questionOn_15 hl (by decide) rfl (fun ls hl => ?_)
    refine lv_aload hx hb dX8_questionOn_17 (lv_at hl 0 rfl) ?_
    refine lv_ifnull hx hb dX8_questionOn_19 ?_
    refine lv_aload hx hb dX8_questionOn_22 (lv_at hl 0 rfl) ?_
    refine lv_iload_n hx hb dX8_questionOn_24 rfl (lv_at hl 2 rfl) ?_
    refine lv_iload_n hx hb dX8_questionOn_25 rfl (lv_at hl 3 rfl) ?_
    refine m_callVE (ci := 3) (As := [.int pj, .int tp]) (rest := []) (c_Question_isOn l D ty L ad g (qr k) (qp k) (qt k) (qa k) (qc k) (qv k) pj tp (hq1 k hk9) (hq2 k hk9)) ⟨hx, hb, hml, hown, hts⟩ (cwV 2 hts gX8_questionOn_X3_isOn rfl rfl rfl (by decide +kernel) ⟨Nat.le_of_ble_eq_true rfl, Nat.le_of_ble_eq_true rfl⟩) hB (hq1 k hk9) (hq2 k hk9) rfl rfl hl.1 rfl (Nat.le_of_ble_eq_true rfl) dX8_questionOn_26 ⟨Nat.le_of_ble_eq_true rfl, Nat.le_of_ble_eq_true rfl⟩ (fun H locs hB => ?_)
    refine b_if_eq_t 34 hx hb dX8_questionOn_29 (by decide) (by rw [df (hno k (by omega))]; decide) ?_
    refine lv_iinc (v := nI (k + 1)) (lv' := [(3, .int (nI (k + 1))), (4, .ref (ad (qr k))), (0, .ref (ad 0)), (1, .int pj), (2, .int tp)]) hx hb dX8_questionOn_34 hl (k := 4) rfl (nI_add k 1) (by decide) rfl (fun ls hl => ?_)
    refine lv_goto (tgt := 2) hx hb dX8_questionOn_37 (by decide) ?_
    have hl : lv_has ls 5 [(0, .ref (ad 0)), (1, .int pj), (2, .int tp), (3, .int (nI (k + 1)))] := lv_sub hl [2, 3, 4, 0] rfl
    apply ihj (k := (k + 1)) (H := H) (locs := locs) (ls := ls) <;> first | omega | exact hB | exact hl
set_option maxRecDepth 20000 in
theorem in_X8_questionOn_X3 : ∀ w ∈ wsX30, w ∈ wsX8_questionOn := by decide +kernel
set_option maxHeartbeats 1000000 in
set_option maxRecDepth 100000 in
theorem c_X_questionOn_new (l : Launch) (D : va_G) (ty : Nat → ClassId) (L : List Nat) (ad : Nat → Nat) (g : Nat → va_E) (pn qn : Nat) (nw : Int32) (tr : Int64) (qf : Nat → Option Nat) (qr : Nat → Nat) (qp qt qa qc qv : Nat → Int32) (pj tp : Int32) (nq : Nat) (hL0 : ∀ r, r < 30 → r ∈ L) (h_0 : g 0 = .inr (8, [.ref (ad 1), .ref (ad 3), .ref (ad 6), .int (nI pn), .ref (ad 7), .ref (ad 20), .ref (ad 22), .ref (ad 28), .int (nI qn), .ref (ad 29), .int nw, .long tr])) (h_28 : g 28 = .inl (ty 5, 30, .inr (.inr (.inr (.inr qf))))) (hq0 : ∀ i, i < qn → qf i = some (ad (qr i))) (hq1 : ∀ i, i < qn → qr i ∈ L) (hq2 : ∀ i, i < qn → g (qr i) = .inr (3, [.int (qp i), .int (qt i), .int (qa i), .int (qc i), .int (qv i)])) (hqn : qn ≤ 30) (hq30 : qn < 30) (n_nq : nq ∉ L) (hb_nq : 30 ≤ nq) (hno : ∀ i, i < qn → ¬ (qp i = pj ∧ qt i = tp)) : m_C l yX8_questionOn wsX8_questionOn 2 42 1 5 D ty [.ref (ad 0), .int pj, .int tp] L ad g (fun v1 L1 ad1 g1 => v1 = some (.int (nI qn)) ∧ L1 = (L ++ [nq]) ∧ (∀ x ∈ L, ad x = ad1 x) ∧ (∀ x ∈ L, x ≠ 28 → x ≠ 0 → g1 x = g x) ∧ g1 nq = .inr (3, [.int pj, .int tp, .int 0, .int 0, .int 0]) ∧ g1 28 = .inl (ty 5, 30, .inr (.inr (.inr (.inr (va_up qf qn (some (ad1 nq))))))) ∧ g1 0 = .inr (8, [.ref (ad1 1), .ref (ad1 3), .ref (ad1 6), .int (nI pn), .ref (ad1 7), .ref (ad1 20), .ref (ad1 22), .ref (ad1 28), .int (nI (qn + 1)), .ref (ad1 29), .int nw, .long tr])) := by
  intro sz
  refine Met.ofW (cc := cX8_questionOn) (maxL := 5) (ret := (some .int)) (by decide) rfl ?_
  intro p e s m args below meth c s₁ B hml hv
  have hx := B.exec
  have hb := B.bytes
  have hrt := B.returns
  have hts := atoms_spec (ws := wsX8_questionOn) B.pre
  have hown : s.vm.findClass RX8 = some m.cls := findClass_of_methodNamed B.named
  have hlocks := B.notSynchronized
  obtain ⟨rfl, hB⟩ := m_start hv
  generalize va_A (m_w L ad g) sz = A at hB ⊢
  generalize s.heap = H at hB ⊢
  generalize ([] : List Loc) = locs at hB ⊢
  have hl := lv_entry ([.ref (ad 0), .int pj, .int tp]) (n := 5) (Nat.le_of_ble_eq_true rfl)
  rw [lg_entry_eq]
  generalize (lg_sl ([.ref (ad 0), .int pj, .int tp]) ++ List.replicate (5 - (lg_sl ([.ref (ad 0), .int pj, .int tp])).length) Slot.unset).toArray = ls at hl ⊢
  have hl : lv_has ls 5 [(0, .ref (ad 0)), (1, .int pj), (2, .int tp)] := hl
  refine lv_iconst (v := 0) hx hb dX8_questionOn_0 (by decide) ?_
  refine lv_istore_n (lv' := [(3, .int 0), (0, .ref (ad 0)), (1, .int pj), (2, .int tp)]) hx hb dX8_questionOn_1 rfl hl (by decide) rfl (fun ls hl => ?_)
  have tI_qn : (nI qn).toInt = (qn : Int) := nI_toInt (by omega)
  replace hl : lv_has ls 5 [(0, .ref (ad 0)), (1, .int pj), (2, .int tp), (3, .int 0)] := lv_sub hl [1, 2, 3, 0] rfl
  obtain ⟨k, hk0⟩ : ∃ k : Nat, k = 0 := ⟨0, rfl⟩
  replace hl : lv_has ls 5 [(0, .ref (ad 0)), (1, .int pj), (2, .int tp), (3, .int (nI k))] := by rw [hk0]; exact hl
  obtain ⟨jz, hj⟩ : ∃ jz : Nat, k + jz = qn := ⟨qn - k, by omega⟩
  clear hk0
  induction jz generalizing k H locs ls with
  | zero =>
    have hje : k = qn := by omega
    have tI_k : (nI k).toInt = (k : Int) := nI_toInt (by omega)
    refine lv_iload_n hx hb dX8_questionOn_2 rfl (lv_at hl 3 rfl) ?_
    refine lv_aload_n hx hb dX8_questionOn_3 rfl (lv_at hl 0 rfl) ?_
    refine m_get (C := RX8) (T := TX8) (N := 12) (ci := 8) hx hb hts in_X8_questionOn_X8 hown hB (hL0 0 (by decide)) h_0 rfl 8 (by decide) (hts (.fieldLink RX8 233 "PaperRoom" "questionCount" "I") (by decide +kernel)) (fun _ h9 => h9) rfl dX8_questionOn_4 ?_
    refine b_icmp_ge_t 40 hx hb dX8_questionOn_7 (by decide) (by omega) ?_
    refine lv_aload_n hx hb dX8_questionOn_40 rfl (lv_at hl 0 rfl) ?_
    refine m_get (C := RX8) (T := TX8) (N := 12) (ci := 8) hx hb hts in_X8_questionOn_X8 hown hB (hL0 0 (by decide)) h_0 rfl 8 (by decide) (hts (.fieldLink RX8 233 "PaperRoom" "questionCount" "I") (by decide +kernel)) (fun _ h9 => h9) rfl dX8_questionOn_41 ?_
    refine lv_aload_n hx hb dX8_questionOn_44 rfl (lv_at hl 0 rfl) ?_
    refine m_get (C := RX8) (T := TX8) (N := 12) (ci := 8) hx hb hts in_X8_questionOn_X8 hown hB (hL0 0 (by decide)) h_0 rfl 7 (by decide) (hts (.fieldLink RX8 47 "PaperRoom" "questions" "[LPaperRoom$Question;") (by decide +kernel)) (fun _ h9 => h9) rfl dX8_questionOn_45 ?_
    refine m_alen hx hb hB (hL0 28 (by decide)) 5 h_28 rfl (v := nI 30) rfl dX8_questionOn_48 ?_
    refine b_icmp_lt_t 55 hx hb dX8_questionOn_49 (by decide) (by rw [nI_toInt (by omega), show (nI 30).toInt = 30 by decide]; omega) ?_
    refine lv_aload_n hx hb dX8_questionOn_55 rfl (lv_at hl 0 rfl) ?_
    refine m_get (C := RX8) (T := TX8) (N := 12) (ci := 8) hx hb hts in_X8_questionOn_X8 hown hB (hL0 0 (by decide)) h_0 rfl 7 (by decide) (hts (.fieldLink RX8 47 "PaperRoom" "questions" "[LPaperRoom$Question;") (by decide +kernel)) (fun _ h9 => h9) rfl dX8_questionOn_56 ?_
    refine lv_aload_n hx hb dX8_questionOn_59 rfl (lv_at hl 0 rfl) ?_
    refine m_get (C := RX8) (T := TX8) (N := 12) (ci := 8) hx hb hts in_X8_questionOn_X8 hown hB (hL0 0 (by decide)) h_0 rfl 8 (by decide) (hts (.fieldLink RX8 233 "PaperRoom" "questionCount" "I") (by decide +kernel)) (fun _ h9 => h9) rfl dX8_questionOn_60 ?_
    refine n_new (C := RX3) (T := TX3) (N := 5) (ci := 3) (fs := [.int 0, .int 0, .int 0, .int 0, .int 0]) hx hb hts in_X8_questionOn_X3 tyX3 tyX3_ok hown (hts (.classLink RX8 45 RX3) (by decide +kernel)) (hts (.instantiable RX3 5) (by decide +kernel)) (hts (.initialized RX3) (by decide +kernel)) hB nq n_nq rfl (by decide +kernel) (Nat.le_of_ble_eq_true rfl) (Nat.le_of_ble_eq_true rfl) dX8_questionOn_63 (fun ad_1 H had_1 hB => ?_)
    have e1_0 : ad 0 = ad_1 0 := had_1 0 (hL0 0 (by decide))
    have e1_1 : ad 1 = ad_1 1 := had_1 1 (hL0 1 (by decide))
    have e1_20 : ad 20 = ad_1 20 := had_1 20 (hL0 20 (by decide))
    have e1_22 : ad 22 = ad_1 22 := had_1 22 (hL0 22 (by decide))
    have e1_28 : ad 28 = ad_1 28 := had_1 28 (hL0 28 (by decide))
    have e1_29 : ad 29 = ad_1 29 := had_1 29 (hL0 29 (by decide))
    have e1_3 : ad 3 = ad_1 3 := had_1 3 (hL0 3 (by decide))
    have e1_6 : ad 6 = ad_1 6 := had_1 6 (hL0 6 (by decide))
    have e1_7 : ad 7 = ad_1 7 := had_1 7 (hL0 7 (by decide))
    replace hl : lv_has ls 5 [(0, .ref (ad_1 0)), (1, .int pj), (2, .int tp), (3, .int (nI k))] := by rw [← e1_0]; exact hl
    have fa1_0 : g 0 = .inr (8, [.ref (ad_1 1), .ref (ad_1 3), .ref (ad_1 6), .int (nI pn), .ref (ad_1 7), .ref (ad_1 20), .ref (ad_1 22), .ref (ad_1 28), .int (nI qn), .ref (ad_1 29), .int nw, .long tr]) := by rw [← e1_1, ← e1_20, ← e1_22, ← e1_28, ← e1_29, ← e1_3, ← e1_6, ← e1_7]; exact h_0
    replace hB : m_B D ty A s (L ++ [nq]) ad_1 (va_up g nq (.inr (3, [.int 0, .int 0, .int 0, .int 0, .int 0]))) H locs := hB
    refine W.eq (g2 := F0 m 66 ls [.ref (ad_1 nq), .int (nI qn), .ref (ad_1 28)]) (by rw [e1_28]) ?_
    refine lv_dup hx hb dX8_questionOn_66 rfl ?_
    refine lv_iload_n hx hb dX8_questionOn_67 rfl (lv_at hl 1 rfl) ?_
    refine lv_iload_n hx hb dX8_questionOn_68 rfl (lv_at hl 2 rfl) ?_
    refine m_callIZ (r := nq) (As := [.int pj, .int tp]) (rest := [.ref (ad_1 nq), .int (nI qn), .ref (ad_1 28)]) (c_Question_init l D ty (L ++ [nq]) ad_1 _ nq pj tp (List.mem_append_right _ List.mem_cons_self) (va_up_self _ _ _)) ⟨hx, hb, hml, hown, hts⟩ (cwI 2 hts gX8_questionOn_X3_init rfl rfl rfl (hts (.initialized RX3) (by decide +kernel)) (hts (.methodLink RX8 261 yX3_init) (by decide +kernel)) (hts (.instanceMethod yX3_init) (by decide +kernel)) rfl (by decide +kernel) ⟨Nat.le_of_ble_eq_true rfl, Nat.le_of_ble_eq_true rfl⟩) hB rfl hl.1 rfl (Nat.le_of_ble_eq_true rfl) dX8_questionOn_69 ⟨Nat.le_of_ble_eq_true rfl, Nat.le_of_ble_eq_true rfl⟩ (fun H locs hB => ?_)
    replace hB : m_B D ty A s (L ++ [nq]) ad_1 (va_up (va_up g nq (.inr (3, [.int 0, .int 0, .int 0, .int 0, .int 0]))) nq (.inr (3, [.int pj, .int tp, .int 0, .int 0, .int 0]))) H locs := hB
    refine n_aast hx hb hB (List.mem_append_left _ (hL0 28 (by decide))) 5 ((va_up_ne _ _ (by omega)).trans ((va_up_ne _ _ (by omega)).trans h_28)) rfl (List.mem_append_right _ List.mem_cons_self) (va_up_self _ _ _) rfl (fun _ _ h1 h2 => m_asg_self h1 h2) qn rfl (by omega) (by omega) dX8_questionOn_72 (fun H locs hB => ?_)
    replace hB : m_B D ty A s (L ++ [nq]) ad_1 (va_up (va_up (va_up g nq (.inr (3, [.int 0, .int 0, .int 0, .int 0, .int 0]))) nq (.inr (3, [.int pj, .int tp, .int 0, .int 0, .int 0]))) 28 (.inl (ty 5, 30, .inr (.inr (.inr (.inr (va_up qf qn (some (ad_1 nq))))))))) H locs := hB
    refine lv_aload_n hx hb dX8_questionOn_73 rfl (lv_at hl 0 rfl) ?_
    refine lv_dup hx hb dX8_questionOn_74 rfl ?_
    refine m_get (C := RX8) (T := TX8) (N := 12) (ci := 8) hx hb hts in_X8_questionOn_X8 hown hB (List.mem_append_left _ (hL0 0 (by decide))) ((va_up_ne _ _ (by decide)).trans ((va_up_ne _ _ (by omega)).trans ((va_up_ne _ _ (by omega)).trans fa1_0))) rfl 8 (by decide) (hts (.fieldLink RX8 233 "PaperRoom" "questionCount" "I") (by decide +kernel)) (fun _ h9 => h9) rfl dX8_questionOn_75 ?_
    refine lv_iconst (v := 1) hx hb dX8_questionOn_78 (by decide) ?_
    refine lv_iadd hx hb dX8_questionOn_79 ?_
    refine b_topi (w := nI (qn + 1)) (nI_add qn 1) ?_
    refine m_put (C := RX8) (T := TX8) (N := 12) (ci := 8) (v := .int (nI (qn + 1))) (ft := .int) hx hb hts in_X8_questionOn_X8 tyX8 tyX8_ok nmX8 hown hB (List.mem_append_left _ (hL0 0 (by decide))) ((va_up_ne _ _ (by decide)).trans ((va_up_ne _ _ (by omega)).trans ((va_up_ne _ _ (by omega)).trans fa1_0))) rfl 8 (by decide) (hts (.fieldLink RX8 233 "PaperRoom" "questionCount" "I") (by decide +kernel)) (fun _ h9 => h9) rfl (by decide +kernel) rfl rfl (Nat.le_of_ble_eq_true rfl) dX8_questionOn_80 (fun H locs hB => ?_)
    replace hB : m_B D ty A s (L ++ [nq]) ad_1 (va_up (va_up (va_up (va_up g nq (.inr (3, [.int 0, .int 0, .int 0, .int 0, .int 0]))) nq (.inr (3, [.int pj, .int tp, .int 0, .int 0, .int 0]))) 28 (.inl (ty 5, 30, .inr (.inr (.inr (.inr (va_up qf qn (some (ad_1 nq))))))))) 0 (.inr (8, [.ref (ad_1 1), .ref (ad_1 3), .ref (ad_1 6), .int (nI pn), .ref (ad_1 7), .ref (ad_1 20), .ref (ad_1 22), .ref (ad_1 28), .int (nI (qn + 1)), .ref (ad_1 29), .int nw, .long tr]))) H locs := hB
    refine lv_aload_n hx hb dX8_questionOn_83 rfl (lv_at hl 0 rfl) ?_
    refine m_get (C := RX8) (T := TX8) (N := 12) (ci := 8) hx hb hts in_X8_questionOn_X8 hown hB (List.mem_append_left _ (hL0 0 (by decide))) (va_up_self _ _ _) rfl 8 (by decide) (hts (.fieldLink RX8 233 "PaperRoom" "questionCount" "I") (by decide +kernel)) (fun _ h9 => h9) rfl dX8_questionOn_84 ?_
    refine lv_iconst (v := 1) hx hb dX8_questionOn_87 (by decide) ?_
    refine lv_isub hx hb dX8_questionOn_88 ?_
    refine b_topi (w := nI qn) ((pk_sub (a := qn + 1) (b := 1) (by omega)).trans (by rw [Nat.add_sub_cancel])) ?_
    exact m_iret hx hb hrt hlocks hB (Nat.le_refl _) (Nat.le_refl _) dX8_questionOn_89 ⟨rfl, rfl, (fun x hx => had_1 x hx), (fun x hx hn_28 hn_0 => ((va_up_ne _ _ hn_0).trans ((va_up_ne _ _ hn_28).trans ((va_up_ne _ _ (fun e9 => n_nq (by rw [← e9]; exact hx))).trans ((va_up_ne _ _ (fun e9 => n_nq (by rw [← e9]; exact hx))).trans rfl))))), ((va_up_ne _ _ (by omega)).trans ((va_up_ne _ _ (by omega)).trans (va_up_self _ _ _))), ((va_up_ne _ _ (by decide)).trans (va_up_self _ _ _)), (va_up_self _ _ _)⟩
  | succ jz ihj =>
    have hjl : k < qn := by omega
    have tI_k : (nI k).toInt = (k : Int) := nI_toInt (by omega)
    have hk9 : k < qn := by omega
    refine lv_iload_n hx hb dX8_questionOn_2 rfl (lv_at hl 3 rfl) ?_
    refine lv_aload_n hx hb dX8_questionOn_3 rfl (lv_at hl 0 rfl) ?_
    refine m_get (C := RX8) (T := TX8) (N := 12) (ci := 8) hx hb hts in_X8_questionOn_X8 hown hB (hL0 0 (by decide)) h_0 rfl 8 (by decide) (hts (.fieldLink RX8 233 "PaperRoom" "questionCount" "I") (by decide +kernel)) (fun _ h9 => h9) rfl dX8_questionOn_4 ?_
    refine b_icmp_ge_f 40 hx hb dX8_questionOn_7 (by decide) (by omega) ?_
    refine lv_aload_n hx hb dX8_questionOn_10 rfl (lv_at hl 0 rfl) ?_
    refine lv_iload_n hx hb dX8_questionOn_11 rfl (lv_at hl 3 rfl) ?_
    refine m_callVE (ci := 8) (As := [.int (nI k)]) (rest := []) ((by have h9 := c_X_questionNumber_t l D ty L ad g pn qn nw tr qf k (hL0 0 (by decide)) (hL0 28 (by decide)) h_0 h_28 (by omega); rw [hq0 k hk9] at h9; exact h9 : m_E l yX8_questionNumber wsX8_questionNumber 1 21 D ty [.ref (ad 0), .int (nI k)] L ad g (some (.ref (ad (qr k)))) g)) ⟨hx, hb, hml, hown, hts⟩ (cwV 1 hts gX8_questionOn_X8_questionNumber rfl rfl rfl (by decide +kernel) ⟨Nat.le_of_ble_eq_true rfl, Nat.le_of_ble_eq_true rfl⟩) hB (hL0 0 (by decide)) h_0 rfl rfl hl.1 rfl (Nat.le_of_ble_eq_true rfl) dX8_questionOn_12 ⟨Nat.le_of_ble_eq_true rfl, Nat.le_of_ble_eq_true rfl⟩ (fun H locs hB => ?_)
    refine lv_astore (lv' := [(4, .ref (ad (qr k))), (0, .ref (ad 0)), (1, .int pj), (2, .int tp), (3, .int (nI k))]) hx hb dX8_questionOn_15 hl (by decide) rfl (fun ls hl => ?_)
    refine lv_aload hx hb dX8_questionOn_17 (lv_at hl 0 rfl) ?_
    refine lv_ifnull hx hb dX8_questionOn_19 ?_
    refine lv_aload hx hb dX8_questionOn_22 (lv_at hl 0 rfl) ?_
    refine lv_iload_n hx hb dX8_questionOn_24 rfl (lv_at hl 2 rfl) ?_
    refine lv_iload_n hx hb dX8_questionOn_25 rfl (lv_at hl 3 rfl) ?_
    refine m_callVE (ci := 3) (As := [.int pj, .int tp]) (rest := []) (c_Question_isOn l D ty L ad g (qr k) (qp k) (qt k) (qa k) (qc k) (qv k) pj tp (hq1 k hk9) (hq2 k hk9)) ⟨hx, hb, hml, hown, hts⟩ (cwV 2 hts gX8_questionOn_X3_isOn rfl rfl rfl (by decide +kernel) ⟨Nat.le_of_ble_eq_true rfl, Nat.le_of_ble_eq_true rfl⟩) hB (hq1 k hk9) (hq2 k hk9) rfl rfl hl.1 rfl (Nat.le_of_ble_eq_true rfl) dX8_questionOn_26 ⟨Nat.le_of_ble_eq_true rfl, Nat.le_of_ble_eq_true rfl⟩ (fun H locs hB => ?_)
    refine b_if_eq_t 34 hx hb dX8_questionOn_29 (by decide) (by rw [df (hno k (by omega))]; decide) ?_
    refine lv_iinc (v := nI (k + 1)) (lv' := [(3, .int (nI (k + 1))), (4, .ref (ad (qr k))), (0, .ref (ad 0)), (1, .int pj), (2, .int tp)]) hx hb dX8_questionOn_34 hl (k := 4) rfl (nI_add k 1) (by decide) rfl (fun ls hl => ?_)
    refine lv_goto (tgt := 2) hx hb dX8_questionOn_37 (by decide) ?_
    have hl : lv_has ls 5 [(0, .ref (ad 0)), (1, .int pj), (2, .int tp), (3, .int (nI (k + 1)))] := lv_sub hl [2, 3, 4, 0] rfl
    apply ihj (k := (k + 1)) (H := H) (locs := locs) (ls := ls) <;> first | omega | exact hB | exact hl
