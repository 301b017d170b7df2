theorem nin_app {L : List Nat} {r x : Nat} (h : r ∉ L) (hn : r ≠ x) : r ∉ L ++ [x] := fun h9 => (List.mem_append.mp h9).elim h (fun h8 => hn (List.mem_singleton.mp h8))
theorem all_app {L : List Nat} {P : Nat → Prop} {x : Nat} (h : ∀ y ∈ L, P y) (hx : P x) : ∀ y ∈ L ++ [x], P y := fun y h9 => (List.mem_append.mp h9).elim (h y) (fun h8 => by rw [List.mem_singleton.mp h8]; exact hx)
theorem xi_all {L : List Nat} {P : Nat → Prop} (p0 : P 0) (p1 : P 1) (p2 : P 2) (p3 : P 3) (p4 : P 4) (p5 : P 5) (p6 : P 6) (p7 : P 7) (p8 : P 8) (p9 : P 9) (p10 : P 10) (p11 : P 11) (p12 : P 12) (p13 : P 13) (p14 : P 14) (p15 : P 15) (p16 : P 16) (p17 : P 17) (p18 : P 18) (p19 : P 19) (p20 : P 20) (p21 : P 21) (p22 : P 22) (p23 : P 23) (p24 : P 24) (p25 : P 25) (p26 : P 26) (p27 : P 27) (p28 : P 28) (p29 : P 29) : ∀ r, r < 30 → P r := by
  intro r hr
  match r, hr with
  | 0, _ => exact p0
  | 1, _ => exact p1
  | 2, _ => exact p2
  | 3, _ => exact p3
  | 4, _ => exact p4
  | 5, _ => exact p5
  | 6, _ => exact p6
  | 7, _ => exact p7
  | 8, _ => exact p8
  | 9, _ => exact p9
  | 10, _ => exact p10
  | 11, _ => exact p11
  | 12, _ => exact p12
  | 13, _ => exact p13
  | 14, _ => exact p14
  | 15, _ => exact p15
  | 16, _ => exact p16
  | 17, _ => exact p17
  | 18, _ => exact p18
  | 19, _ => exact p19
  | 20, _ => exact p20
  | 21, _ => exact p21
  | 22, _ => exact p22
  | 23, _ => exact p23
  | 24, _ => exact p24
  | 25, _ => exact p25
  | 26, _ => exact p26
  | 27, _ => exact p27
  | 28, _ => exact p28
  | 29, _ => exact p29
  | n + 30, h => exact absurd h (by omega)
def xi_post (ty : Nat → ClassId) (L0 : List Nat) (ad0 : Nat → Nat) (g0 : Nat → va_E) : m_Post := fun v1 L1 ad1 g1 => v1 = none ∧ (∀ x ∈ L0, x ∈ L1 ∧ ad0 x = ad1 x ∧ (x ≠ 0 → g1 x = g0 x)) ∧ (∀ x ∈ L1, x ∈ L0 ∨ x < 30) ∧ (∀ r, r < 30 → r ∈ L1) ∧ g1 0 = .inr (8, [.ref (ad1 1), .ref (ad1 3), .ref (ad1 6), .int 0, .ref (ad1 7), .ref (ad1 20), .ref (ad1 22), .ref (ad1 28), .int 0, .ref (ad1 29), .int 0, .long 0]) ∧ g1 1 = .inr (5, [.ref (ad1 2), .int 0]) ∧ g1 2 = .inl (ty 2, 40, .inl (fun _ => 0)) ∧ g1 3 = .inr (4, [.ref (ad1 4), .ref (ad1 5)]) ∧ g1 4 = .inl (ty 0, 12, .inl (fun _ => 0)) ∧ g1 5 = .inl (ty 0, 12, .inl (fun _ => 0)) ∧ g1 6 = .inl (ty 4, 8, .inr (.inr (.inr (.inr (fun _ => none))))) ∧ g1 7 = .inl (ty 6, 6, .inr (.inr (.inr (.inr (va_up (va_up (va_up (va_up (va_up (va_up (fun _ => none) 0 (some (ad1 8))) 1 (some (ad1 9))) 2 (some (ad1 10))) 3 (some (ad1 11))) 4 (some (ad1 12))) 5 (some (ad1 13))))))) ∧ g1 8 = .inr (5, [.ref (ad1 14), .int 0]) ∧ g1 9 = .inr (5, [.ref (ad1 15), .int 0]) ∧ g1 10 = .inr (5, [.ref (ad1 16), .int 0]) ∧ g1 11 = .inr (5, [.ref (ad1 17), .int 0]) ∧ g1 12 = .inr (5, [.ref (ad1 18), .int 0]) ∧ g1 13 = .inr (5, [.ref (ad1 19), .int 0]) ∧ g1 14 = .inl (ty 2, 80, .inl (fun _ => 0)) ∧ g1 15 = .inl (ty 2, 80, .inl (fun _ => 0)) ∧ g1 16 = .inl (ty 2, 80, .inl (fun _ => 0)) ∧ g1 17 = .inl (ty 2, 80, .inl (fun _ => 0)) ∧ g1 18 = .inl (ty 2, 80, .inl (fun _ => 0)) ∧ g1 19 = .inl (ty 2, 80, .inl (fun _ => 0)) ∧ g1 20 = .inr (5, [.ref (ad1 21), .int 0]) ∧ g1 21 = .inl (ty 2, 80, .inl (fun _ => 0)) ∧ g1 22 = .inr (6, [.ref (ad1 23), .ref (ad1 24), .ref (ad1 25), .ref (ad1 26), .ref (ad1 27), .int 0, .int 0]) ∧ g1 23 = .inl (ty 0, 200, .inl (fun _ => 0)) ∧ g1 24 = .inl (ty 0, 200, .inl (fun _ => 0)) ∧ g1 25 = .inl (ty 0, 200, .inl (fun _ => 0)) ∧ g1 26 = .inl (ty 0, 200, .inl (fun _ => 0)) ∧ g1 27 = .inl (ty 1, 200, .inr (.inl (fun _ => 0))) ∧ g1 28 = .inl (ty 5, 30, .inr (.inr (.inr (.inr (fun _ => none))))) ∧ g1 29 = .inl (ty 0, 6, .inl (fun _ => 0))
theorem oi_X8_init : Cond.code objectInit ⟨#[0xb1]⟩ 1 none ∈ wsX8_init := List.mem_cons_of_mem _ (by first | exact List.mem_of_getElem? (i := 2) rfl | exact List.mem_append_left _ (List.mem_of_getElem? (i := 2) rfl) | exact List.mem_append_left _ (List.mem_append_left _ (List.mem_of_getElem? (i := 2) rfl)) | exact List.mem_append_left _ (List.mem_append_left _ (List.mem_append_left _ (List.mem_of_getElem? (i := 2) rfl))) | exact List.mem_append_left _ (List.mem_append_left _ (List.mem_append_left _ (List.mem_append_left _ (List.mem_of_getElem? (i := 2) rfl)))))
set_option maxRecDepth 20000 in
theorem in_X8_init_X5 : ∀ w ∈ wsX50, w ∈ wsX8_init := by decide +kernel
set_option maxRecDepth 20000 in
theorem in_X8_init_X8 : ∀ w ∈ wsX80, w ∈ wsX8_init := by decide +kernel
set_option maxRecDepth 20000 in
theorem in_X8_init_X4 : ∀ w ∈ wsX40, w ∈ wsX8_init := by decide +kernel
set_option maxRecDepth 20000 in
theorem in_X8_init_X6 : ∀ w ∈ wsX60, w ∈ wsX8_init := by decide +kernel
set_option maxHeartbeats 4000000 in
set_option maxRecDepth 100000 in
theorem xi_14 {p : Program} {l : Launch} {e : Env} {s : State} {m : MethodId} {args : Array Value} {below : List Frame} {meth : Method} {c : Code} {A : Nat → Prop} {D : va_G} {ty : Nat → ClassId} {L0 : List Nat} {ad0 : Nat → Nat} {g0 : Nat → va_E} {L : List Nat} {ad : Nat → Nat} {g : Nat → va_E} {H : Heap} {locs : List Loc} {ls : Array Slot} (hx : p.tables.exec = Jvm.exec) (hb : c.code = cX8_init) (hml : c.maxLocals = 2) (hrt : meth.sig.returnType = none) (hlocks : meth.locks = false) (hown : s.vm.findClass RX8 = some m.cls) (hts : ∀ w ∈ wsX8_init, w.before args s = true) (hin : meth.name = "<init>") (hB : m_B D ty A s L ad g H locs) (hl : lv_has ls 2 [(0, .ref (ad 0)), (1, .int 6)]) (m_0 : 0 ∈ L) (m_1 : 1 ∈ L) (m_2 : 2 ∈ L) (m_3 : 3 ∈ L) (m_4 : 4 ∈ L) (m_5 : 5 ∈ L) (m_6 : 6 ∈ L) (m_7 : 7 ∈ L) (m_8 : 8 ∈ L) (m_14 : 14 ∈ L) (m_9 : 9 ∈ L) (m_15 : 15 ∈ L) (m_10 : 10 ∈ L) (m_16 : 16 ∈ L) (m_11 : 11 ∈ L) (m_17 : 17 ∈ L) (m_12 : 12 ∈ L) (m_18 : 18 ∈ L) (m_13 : 13 ∈ L) (m_19 : 19 ∈ L) (m_20 : 20 ∈ L) (m_21 : 21 ∈ L) (m_22 : 22 ∈ L) (m_23 : 23 ∈ L) (m_24 : 24 ∈ L) (m_25 : 25 ∈ L) (m_26 : 26 ∈ L) (m_27 : 27 ∈ L) (m_28 : 28 ∈ L) (h_0 : g 0 = .inr (8, [.ref (ad 1), .ref (ad 3), .ref (ad 6), .int 0, .ref (ad 7), .ref (ad 20), .ref (ad 22), .ref (ad 28), .int 0, .null, .int 0, .long 0])) (h_1 : g 1 = .inr (5, [.ref (ad 2), .int 0])) (h_2 : g 2 = .inl (ty 2, 40, .inl (fun _ => 0))) (h_3 : g 3 = .inr (4, [.ref (ad 4), .ref (ad 5)])) (h_4 : g 4 = .inl (ty 0, 12, .inl (fun _ => 0))) (h_5 : g 5 = .inl (ty 0, 12, .inl (fun _ => 0))) (h_6 : g 6 = .inl (ty 4, 8, .inr (.inr (.inr (.inr (fun _ => none)))))) (h_7 : g 7 = .inl (ty 6, 6, .inr (.inr (.inr (.inr (va_up (va_up (va_up (va_up (va_up (va_up (fun _ => none) 0 (some (ad 8))) 1 (some (ad 9))) 2 (some (ad 10))) 3 (some (ad 11))) 4 (some (ad 12))) 5 (some (ad 13)))))))) (h_8 : g 8 = .inr (5, [.ref (ad 14), .int 0])) (h_14 : g 14 = .inl (ty 2, 80, .inl (fun _ => 0))) (h_9 : g 9 = .inr (5, [.ref (ad 15), .int 0])) (h_15 : g 15 = .inl (ty 2, 80, .inl (fun _ => 0))) (h_10 : g 10 = .inr (5, [.ref (ad 16), .int 0])) (h_16 : g 16 = .inl (ty 2, 80, .inl (fun _ => 0))) (h_11 : g 11 = .inr (5, [.ref (ad 17), .int 0])) (h_17 : g 17 = .inl (ty 2, 80, .inl (fun _ => 0))) (h_12 : g 12 = .inr (5, [.ref (ad 18), .int 0])) (h_18 : g 18 = .inl (ty 2, 80, .inl (fun _ => 0))) (h_13 : g 13 = .inr (5, [.ref (ad 19), .int 0])) (h_19 : g 19 = .inl (ty 2, 80, .inl (fun _ => 0))) (h_20 : g 20 = .inr (5, [.ref (ad 21), .int 0])) (h_21 : g 21 = .inl (ty 2, 80, .inl (fun _ => 0))) (h_22 : g 22 = .inr (6, [.ref (ad 23), .ref (ad 24), .ref (ad 25), .ref (ad 26), .ref (ad 27), .int 0, .int 0])) (h_23 : g 23 = .inl (ty 0, 200, .inl (fun _ => 0))) (h_24 : g 24 = .inl (ty 0, 200, .inl (fun _ => 0))) (h_25 : g 25 = .inl (ty 0, 200, .inl (fun _ => 0))) (h_26 : g 26 = .inl (ty 0, 200, .inl (fun _ => 0))) (h_27 : g 27 = .inl (ty 1, 200, .inr (.inl (fun _ => 0)))) (h_28 : g 28 = .inl (ty 5, 30, .inr (.inr (.inr (.inr (fun _ => none)))))) (hnew : ∀ r ∈ ([29] : List Nat), r ∉ L) (hF : ∀ x ∈ L0, x ∈ L ∧ ad0 x = ad x ∧ (x ≠ 0 → g x = g0 x)) (hO : ∀ x ∈ L, x ∈ L0 ∨ x < 30) (hN : 7 ∉ L0) : W p l e ({ frames := 2, cells := 29, slots := 1739, locals := 42 } : Room) s m args below meth c H locs 28 1733 (MQ below (m_Q D A (xi_post ty L0 ad0 g0)) args s 29 1739 A) (F0 m 111 ls []) := by
  refine lv_aload_n hx hb dX8_init_111 rfl (lv_at hl 0 rfl) ?_
  refine lv_bipush (v := 6) hx hb dX8_init_112 (by decide) ?_
  refine n_newa (atype := .int) (ft := .int) (a0 := (6, .inl (fun _ => 0))) hx hb (hts (.arrayClass .int) (by decide +kernel)) rfl hB 0 rfl 29 (hnew 29 (by decide)) (fun _ => rfl) (by rw [i_lt, i_0]; first | omega | decide) (by first | exact nI_clamp (by omega) | decide) (by show _ * 4 ≤ _; omega) (Nat.le_of_ble_eq_true rfl) (Nat.le_of_ble_eq_true rfl) dX8_init_114 (fun ad_1 H had_1 hB => ?_)
  have e1_0 : ad 0 = ad_1 0 := had_1 0 m_0
  have e1_1 : ad 1 = ad_1 1 := had_1 1 m_1
  have e1_10 : ad 10 = ad_1 10 := had_1 10 m_10
  have e1_11 : ad 11 = ad_1 11 := had_1 11 m_11
  have e1_12 : ad 12 = ad_1 12 := had_1 12 m_12
  have e1_13 : ad 13 = ad_1 13 := had_1 13 m_13
  have e1_14 : ad 14 = ad_1 14 := had_1 14 m_14
  have e1_15 : ad 15 = ad_1 15 := had_1 15 m_15
  have e1_16 : ad 16 = ad_1 16 := had_1 16 m_16
  have e1_17 : ad 17 = ad_1 17 := had_1 17 m_17
  have e1_18 : ad 18 = ad_1 18 := had_1 18 m_18
  have e1_19 : ad 19 = ad_1 19 := had_1 19 m_19
  have e1_2 : ad 2 = ad_1 2 := had_1 2 m_2
  have e1_20 : ad 20 = ad_1 20 := had_1 20 m_20
  have e1_21 : ad 21 = ad_1 21 := had_1 21 m_21
  have e1_22 : ad 22 = ad_1 22 := had_1 22 m_22
  have e1_23 : ad 23 = ad_1 23 := had_1 23 m_23
  have e1_24 : ad 24 = ad_1 24 := had_1 24 m_24
  have e1_25 : ad 25 = ad_1 25 := had_1 25 m_25
  have e1_26 : ad 26 = ad_1 26 := had_1 26 m_26
  have e1_27 : ad 27 = ad_1 27 := had_1 27 m_27
  have e1_28 : ad 28 = ad_1 28 := had_1 28 m_28
  have e1_3 : ad 3 = ad_1 3 := had_1 3 m_3
  have e1_4 : ad 4 = ad_1 4 := had_1 4 m_4
  have e1_5 : ad 5 = ad_1 5 := had_1 5 m_5
  have e1_6 : ad 6 = ad_1 6 := had_1 6 m_6
  have e1_7 : ad 7 = ad_1 7 := had_1 7 m_7
  have e1_8 : ad 8 = ad_1 8 := had_1 8 m_8
  have e1_9 : ad 9 = ad_1 9 := had_1 9 m_9
  replace hl : lv_has ls 2 [(0, .ref (ad_1 0)), (1, .int 6)] := by rw [← e1_0]; exact hl
  have fa1_0 : g 0 = .inr (8, [.ref (ad_1 1), .ref (ad_1 3), .ref (ad_1 6), .int 0, .ref (ad_1 7), .ref (ad_1 20), .ref (ad_1 22), .ref (ad_1 28), .int 0, .null, .int 0, .long 0]) := by rw [← e1_1, ← e1_20, ← e1_22, ← e1_28, ← e1_3, ← e1_6, ← e1_7]; exact h_0
  have fa1_1 : g 1 = .inr (5, [.ref (ad_1 2), .int 0]) := by rw [← e1_2]; exact h_1
  have fa1_3 : g 3 = .inr (4, [.ref (ad_1 4), .ref (ad_1 5)]) := by rw [← e1_4, ← e1_5]; exact h_3
  have fa1_7 : g 7 = .inl (ty 6, 6, .inr (.inr (.inr (.inr (va_up (va_up (va_up (va_up (va_up (va_up (fun _ => none) 0 (some (ad_1 8))) 1 (some (ad_1 9))) 2 (some (ad_1 10))) 3 (some (ad_1 11))) 4 (some (ad_1 12))) 5 (some (ad_1 13))))))) := by rw [← e1_10, ← e1_11, ← e1_12, ← e1_13, ← e1_8, ← e1_9]; exact h_7
  have fa1_8 : g 8 = .inr (5, [.ref (ad_1 14), .int 0]) := by rw [← e1_14]; exact h_8
  have fa1_9 : g 9 = .inr (5, [.ref (ad_1 15), .int 0]) := by rw [← e1_15]; exact h_9
  have fa1_10 : g 10 = .inr (5, [.ref (ad_1 16), .int 0]) := by rw [← e1_16]; exact h_10
  have fa1_11 : g 11 = .inr (5, [.ref (ad_1 17), .int 0]) := by rw [← e1_17]; exact h_11
  have fa1_12 : g 12 = .inr (5, [.ref (ad_1 18), .int 0]) := by rw [← e1_18]; exact h_12
  have fa1_13 : g 13 = .inr (5, [.ref (ad_1 19), .int 0]) := by rw [← e1_19]; exact h_13
  have fa1_20 : g 20 = .inr (5, [.ref (ad_1 21), .int 0]) := by rw [← e1_21]; exact h_20
  have fa1_22 : g 22 = .inr (6, [.ref (ad_1 23), .ref (ad_1 24), .ref (ad_1 25), .ref (ad_1 26), .ref (ad_1 27), .int 0, .int 0]) := by rw [← e1_23, ← e1_24, ← e1_25, ← e1_26, ← e1_27]; exact h_22
  replace hB : m_B D ty A s (L ++ [29]) ad_1 (va_up g 29 (.inl (ty 0, 6, .inl (fun _ => 0)))) H locs := hB
  refine W.eq (g2 := F0 m 116 ls [.ref (ad_1 29), .ref (ad_1 0)]) (by rw [e1_0]) ?_
  refine m_putF (C := RX8) (T := TX8) (N := 12) (ci := 8) (v := .ref (ad_1 29)) (ft := .array .int) hx hb hts in_X8_init_X8 tyX8 tyX8_ok nmX8 hown hB (List.mem_append_left _ m_0) ((va_up_ne _ _ (by decide)).trans fa1_0) rfl 9 (by decide) (hts (.fieldLink RX8 51 "PaperRoom" "asksThisTick" "[I") (by decide +kernel)) (fun _ h9 => h9) rfl hin rfl (by decide +kernel) rfl rfl (Nat.le_of_ble_eq_true rfl) dX8_init_116 (fun H locs hB => ?_)
  replace hB : m_B D ty A s (L ++ [29]) ad_1 (va_up (va_up g 29 (.inl (ty 0, 6, .inl (fun _ => 0)))) 0 (.inr (8, [.ref (ad_1 1), .ref (ad_1 3), .ref (ad_1 6), .int 0, .ref (ad_1 7), .ref (ad_1 20), .ref (ad_1 22), .ref (ad_1 28), .int 0, .ref (ad_1 29), .int 0, .long 0]))) H locs := hB
  exact m_vret hx hb hrt hlocks hB (Nat.le_of_ble_eq_true rfl) (Nat.le_of_ble_eq_true rfl) dX8_init_119 ⟨rfl, (fun x hx0 => by
    have hx := (hF x hx0).1
    have hn_7 : x ≠ 7 := fun e9 => hN (by rw [← e9]; exact hx0)
    refine ⟨(List.mem_append_left _ hx), (hF x hx0).2.1.trans (((rfl).trans (had_1 x hx))), fun hn_0 => ?_⟩
    exact (((va_up_ne _ _ hn_0).trans ((va_up_ne _ _ (fun e9 => (hnew 29 (by decide)) (by rw [← e9]; exact hx))).trans rfl))).trans ((hF x hx0).2.2 hn_0)), (all_app hO (Or.inr (by decide))), (fun r hr => xi_all (L := (L ++ [29])) (P := fun r => r ∈ (L ++ [29])) (List.mem_append_left _ m_0) (List.mem_append_left _ m_1) (List.mem_append_left _ m_2) (List.mem_append_left _ m_3) (List.mem_append_left _ m_4) (List.mem_append_left _ m_5) (List.mem_append_left _ m_6) (List.mem_append_left _ m_7) (List.mem_append_left _ m_8) (List.mem_append_left _ m_9) (List.mem_append_left _ m_10) (List.mem_append_left _ m_11) (List.mem_append_left _ m_12) (List.mem_append_left _ m_13) (List.mem_append_left _ m_14) (List.mem_append_left _ m_15) (List.mem_append_left _ m_16) (List.mem_append_left _ m_17) (List.mem_append_left _ m_18) (List.mem_append_left _ m_19) (List.mem_append_left _ m_20) (List.mem_append_left _ m_21) (List.mem_append_left _ m_22) (List.mem_append_left _ m_23) (List.mem_append_left _ m_24) (List.mem_append_left _ m_25) (List.mem_append_left _ m_26) (List.mem_append_left _ m_27) (List.mem_append_left _ m_28) (List.mem_append_right _ List.mem_cons_self) r hr), (va_up_self _ _ _), ((va_up_ne _ _ (by decide)).trans ((va_up_ne _ _ (by decide)).trans fa1_1)), ((va_up_ne _ _ (by decide)).trans ((va_up_ne _ _ (by decide)).trans h_2)), ((va_up_ne _ _ (by decide)).trans ((va_up_ne _ _ (by decide)).trans fa1_3)), ((va_up_ne _ _ (by decide)).trans ((va_up_ne _ _ (by decide)).trans h_4)), ((va_up_ne _ _ (by decide)).trans ((va_up_ne _ _ (by decide)).trans h_5)), ((va_up_ne _ _ (by decide)).trans ((va_up_ne _ _ (by decide)).trans h_6)), ((va_up_ne _ _ (by decide)).trans ((va_up_ne _ _ (by decide)).trans fa1_7)), ((va_up_ne _ _ (by decide)).trans ((va_up_ne _ _ (by decide)).trans fa1_8)), ((va_up_ne _ _ (by decide)).trans ((va_up_ne _ _ (by decide)).trans fa1_9)), ((va_up_ne _ _ (by decide)).trans ((va_up_ne _ _ (by decide)).trans fa1_10)), ((va_up_ne _ _ (by decide)).trans ((va_up_ne _ _ (by decide)).trans fa1_11)), ((va_up_ne _ _ (by decide)).trans ((va_up_ne _ _ (by decide)).trans fa1_12)), ((va_up_ne _ _ (by decide)).trans ((va_up_ne _ _ (by decide)).trans fa1_13)), ((va_up_ne _ _ (by decide)).trans ((va_up_ne _ _ (by decide)).trans h_14)), ((va_up_ne _ _ (by decide)).trans ((va_up_ne _ _ (by decide)).trans h_15)), ((va_up_ne _ _ (by decide)).trans ((va_up_ne _ _ (by decide)).trans h_16)), ((va_up_ne _ _ (by decide)).trans ((va_up_ne _ _ (by decide)).trans h_17)), ((va_up_ne _ _ (by decide)).trans ((va_up_ne _ _ (by decide)).trans h_18)), ((va_up_ne _ _ (by decide)).trans ((va_up_ne _ _ (by decide)).trans h_19)), ((va_up_ne _ _ (by decide)).trans ((va_up_ne _ _ (by decide)).trans fa1_20)), ((va_up_ne _ _ (by decide)).trans ((va_up_ne _ _ (by decide)).trans h_21)), ((va_up_ne _ _ (by decide)).trans ((va_up_ne _ _ (by decide)).trans fa1_22)), ((va_up_ne _ _ (by decide)).trans ((va_up_ne _ _ (by decide)).trans h_23)), ((va_up_ne _ _ (by decide)).trans ((va_up_ne _ _ (by decide)).trans h_24)), ((va_up_ne _ _ (by decide)).trans ((va_up_ne _ _ (by decide)).trans h_25)), ((va_up_ne _ _ (by decide)).trans ((va_up_ne _ _ (by decide)).trans h_26)), ((va_up_ne _ _ (by decide)).trans ((va_up_ne _ _ (by decide)).trans h_27)), ((va_up_ne _ _ (by decide)).trans ((va_up_ne _ _ (by decide)).trans h_28)), ((va_up_ne _ _ (by decide)).trans (va_up_self _ _ _))⟩
set_option maxHeartbeats 4000000 in
set_option maxRecDepth 100000 in
theorem xi_13 {p : Program} {l : Launch} {e : Env} {s : State} {m : MethodId} {args : Array Value} {below : List Frame} {meth : Method} {c : Code} {A : Nat → Prop} {D : va_G} {ty : Nat → ClassId} {L0 : List Nat} {ad0 : Nat → Nat} {g0 : Nat → va_E} {L : List Nat} {ad : Nat → Nat} {g : Nat → va_E} {H : Heap} {locs : List Loc} {ls : Array Slot} (hx : p.tables.exec = Jvm.exec) (hb : c.code = cX8_init) (hml : c.maxLocals = 2) (hrt : meth.sig.returnType = none) (hlocks : meth.locks = false) (hown : s.vm.findClass RX8 = some m.cls) (hts : ∀ w ∈ wsX8_init, w.before args s = true) (hin : meth.name = "<init>") (hB : m_B D ty A s L ad g H locs) (hl : lv_has ls 2 [(0, .ref (ad 0)), (1, .int 6)]) (m_0 : 0 ∈ L) (m_1 : 1 ∈ L) (m_2 : 2 ∈ L) (m_3 : 3 ∈ L) (m_4 : 4 ∈ L) (m_5 : 5 ∈ L) (m_6 : 6 ∈ L) (m_7 : 7 ∈ L) (m_8 : 8 ∈ L) (m_14 : 14 ∈ L) (m_9 : 9 ∈ L) (m_15 : 15 ∈ L) (m_10 : 10 ∈ L) (m_16 : 16 ∈ L) (m_11 : 11 ∈ L) (m_17 : 17 ∈ L) (m_12 : 12 ∈ L) (m_18 : 18 ∈ L) (m_13 : 13 ∈ L) (m_19 : 19 ∈ L) (m_20 : 20 ∈ L) (m_21 : 21 ∈ L) (m_22 : 22 ∈ L) (m_23 : 23 ∈ L) (m_24 : 24 ∈ L) (m_25 : 25 ∈ L) (m_26 : 26 ∈ L) (m_27 : 27 ∈ L) (h_0 : g 0 = .inr (8, [.ref (ad 1), .ref (ad 3), .ref (ad 6), .int 0, .ref (ad 7), .ref (ad 20), .ref (ad 22), .null, .int 0, .null, .int 0, .long 0])) (h_1 : g 1 = .inr (5, [.ref (ad 2), .int 0])) (h_2 : g 2 = .inl (ty 2, 40, .inl (fun _ => 0))) (h_3 : g 3 = .inr (4, [.ref (ad 4), .ref (ad 5)])) (h_4 : g 4 = .inl (ty 0, 12, .inl (fun _ => 0))) (h_5 : g 5 = .inl (ty 0, 12, .inl (fun _ => 0))) (h_6 : g 6 = .inl (ty 4, 8, .inr (.inr (.inr (.inr (fun _ => none)))))) (h_7 : g 7 = .inl (ty 6, 6, .inr (.inr (.inr (.inr (va_up (va_up (va_up (va_up (va_up (va_up (fun _ => none) 0 (some (ad 8))) 1 (some (ad 9))) 2 (some (ad 10))) 3 (some (ad 11))) 4 (some (ad 12))) 5 (some (ad 13)))))))) (h_8 : g 8 = .inr (5, [.ref (ad 14), .int 0])) (h_14 : g 14 = .inl (ty 2, 80, .inl (fun _ => 0))) (h_9 : g 9 = .inr (5, [.ref (ad 15), .int 0])) (h_15 : g 15 = .inl (ty 2, 80, .inl (fun _ => 0))) (h_10 : g 10 = .inr (5, [.ref (ad 16), .int 0])) (h_16 : g 16 = .inl (ty 2, 80, .inl (fun _ => 0))) (h_11 : g 11 = .inr (5, [.ref (ad 17), .int 0])) (h_17 : g 17 = .inl (ty 2, 80, .inl (fun _ => 0))) (h_12 : g 12 = .inr (5, [.ref (ad 18), .int 0])) (h_18 : g 18 = .inl (ty 2, 80, .inl (fun _ => 0))) (h_13 : g 13 = .inr (5, [.ref (ad 19), .int 0])) (h_19 : g 19 = .inl (ty 2, 80, .inl (fun _ => 0))) (h_20 : g 20 = .inr (5, [.ref (ad 21), .int 0])) (h_21 : g 21 = .inl (ty 2, 80, .inl (fun _ => 0))) (h_22 : g 22 = .inr (6, [.ref (ad 23), .ref (ad 24), .ref (ad 25), .ref (ad 26), .ref (ad 27), .int 0, .int 0])) (h_23 : g 23 = .inl (ty 0, 200, .inl (fun _ => 0))) (h_24 : g 24 = .inl (ty 0, 200, .inl (fun _ => 0))) (h_25 : g 25 = .inl (ty 0, 200, .inl (fun _ => 0))) (h_26 : g 26 = .inl (ty 0, 200, .inl (fun _ => 0))) (h_27 : g 27 = .inl (ty 1, 200, .inr (.inl (fun _ => 0)))) (hnew : ∀ r ∈ ([28, 29] : List Nat), r ∉ L) (hF : ∀ x ∈ L0, x ∈ L ∧ ad0 x = ad x ∧ (x ≠ 0 → g x = g0 x)) (hO : ∀ x ∈ L, x ∈ L0 ∨ x < 30) (hN : 7 ∉ L0) : W p l e ({ frames := 2, cells := 29, slots := 1739, locals := 42 } : Room) s m args below meth c H locs 27 1703 (MQ below (m_Q D A (xi_post ty L0 ad0 g0)) args s 29 1739 A) (F0 m 102 ls []) := by
  refine lv_aload_n hx hb dX8_init_102 rfl (lv_at hl 0 rfl) ?_
  refine lv_bipush (v := 30) hx hb dX8_init_103 (by decide) ?_
  refine n_newq (C := RX3) (N' := 30) hx hb hown (hts (.classLink RX8 45 RX3) (by decide +kernel)) hB.2.1.1.2.1 hB 5 rfl 28 (hnew 28 (by decide)) (by decide) (by decide) (by decide) (Nat.le_of_ble_eq_true rfl) (Nat.le_of_ble_eq_true rfl) dX8_init_105 (fun ad_1 H had_1 hB => ?_)
  have e1_0 : ad 0 = ad_1 0 := had_1 0 m_0
  have e1_1 : ad 1 = ad_1 1 := had_1 1 m_1
  have e1_10 : ad 10 = ad_1 10 := had_1 10 m_10
  have e1_11 : ad 11 = ad_1 11 := had_1 11 m_11
  have e1_12 : ad 12 = ad_1 12 := had_1 12 m_12
  have e1_13 : ad 13 = ad_1 13 := had_1 13 m_13
  have e1_14 : ad 14 = ad_1 14 := had_1 14 m_14
  have e1_15 : ad 15 = ad_1 15 := had_1 15 m_15
  have e1_16 : ad 16 = ad_1 16 := had_1 16 m_16
  have e1_17 : ad 17 = ad_1 17 := had_1 17 m_17
  have e1_18 : ad 18 = ad_1 18 := had_1 18 m_18
  have e1_19 : ad 19 = ad_1 19 := had_1 19 m_19
  have e1_2 : ad 2 = ad_1 2 := had_1 2 m_2
  have e1_20 : ad 20 = ad_1 20 := had_1 20 m_20
  have e1_21 : ad 21 = ad_1 21 := had_1 21 m_21
  have e1_22 : ad 22 = ad_1 22 := had_1 22 m_22
  have e1_23 : ad 23 = ad_1 23 := had_1 23 m_23
  have e1_24 : ad 24 = ad_1 24 := had_1 24 m_24
  have e1_25 : ad 25 = ad_1 25 := had_1 25 m_25
  have e1_26 : ad 26 = ad_1 26 := had_1 26 m_26
  have e1_27 : ad 27 = ad_1 27 := had_1 27 m_27
  have e1_3 : ad 3 = ad_1 3 := had_1 3 m_3
  have e1_4 : ad 4 = ad_1 4 := had_1 4 m_4
  have e1_5 : ad 5 = ad_1 5 := had_1 5 m_5
  have e1_6 : ad 6 = ad_1 6 := had_1 6 m_6
  have e1_7 : ad 7 = ad_1 7 := had_1 7 m_7
  have e1_8 : ad 8 = ad_1 8 := had_1 8 m_8
  have e1_9 : ad 9 = ad_1 9 := had_1 9 m_9
  replace hl : lv_has ls 2 [(0, .ref (ad_1 0)), (1, .int 6)] := by rw [← e1_0]; exact hl
  have fa1_0 : g 0 = .inr (8, [.ref (ad_1 1), .ref (ad_1 3), .ref (ad_1 6), .int 0, .ref (ad_1 7), .ref (ad_1 20), .ref (ad_1 22), .null, .int 0, .null, .int 0, .long 0]) := by rw [← e1_1, ← e1_20, ← e1_22, ← e1_3, ← e1_6, ← e1_7]; exact h_0
  have fa1_1 : g 1 = .inr (5, [.ref (ad_1 2), .int 0]) := by rw [← e1_2]; exact h_1
  have fa1_3 : g 3 = .inr (4, [.ref (ad_1 4), .ref (ad_1 5)]) := by rw [← e1_4, ← e1_5]; exact h_3
  have fa1_7 : g 7 = .inl (ty 6, 6, .inr (.inr (.inr (.inr (va_up (va_up (va_up (va_up (va_up (va_up (fun _ => none) 0 (some (ad_1 8))) 1 (some (ad_1 9))) 2 (some (ad_1 10))) 3 (some (ad_1 11))) 4 (some (ad_1 12))) 5 (some (ad_1 13))))))) := by rw [← e1_10, ← e1_11, ← e1_12, ← e1_13, ← e1_8, ← e1_9]; exact h_7
  have fa1_8 : g 8 = .inr (5, [.ref (ad_1 14), .int 0]) := by rw [← e1_14]; exact h_8
  have fa1_9 : g 9 = .inr (5, [.ref (ad_1 15), .int 0]) := by rw [← e1_15]; exact h_9
  have fa1_10 : g 10 = .inr (5, [.ref (ad_1 16), .int 0]) := by rw [← e1_16]; exact h_10
  have fa1_11 : g 11 = .inr (5, [.ref (ad_1 17), .int 0]) := by rw [← e1_17]; exact h_11
  have fa1_12 : g 12 = .inr (5, [.ref (ad_1 18), .int 0]) := by rw [← e1_18]; exact h_12
  have fa1_13 : g 13 = .inr (5, [.ref (ad_1 19), .int 0]) := by rw [← e1_19]; exact h_13
  have fa1_20 : g 20 = .inr (5, [.ref (ad_1 21), .int 0]) := by rw [← e1_21]; exact h_20
  have fa1_22 : g 22 = .inr (6, [.ref (ad_1 23), .ref (ad_1 24), .ref (ad_1 25), .ref (ad_1 26), .ref (ad_1 27), .int 0, .int 0]) := by rw [← e1_23, ← e1_24, ← e1_25, ← e1_26, ← e1_27]; exact h_22
  replace hB : m_B D ty A s (L ++ [28]) ad_1 (va_up g 28 (.inl (ty 5, 30, .inr (.inr (.inr (.inr (fun _ => none))))))) H locs := hB
  refine W.eq (g2 := F0 m 108 ls [.ref (ad_1 28), .ref (ad_1 0)]) (by rw [e1_0]) ?_
  refine m_putF (C := RX8) (T := TX8) (N := 12) (ci := 8) (v := .ref (ad_1 28)) (ft := .array (.object "PaperRoom$Question")) hx hb hts in_X8_init_X8 tyX8 tyX8_ok nmX8 hown hB (List.mem_append_left _ m_0) ((va_up_ne _ _ (by decide)).trans fa1_0) rfl 7 (by decide) (hts (.fieldLink RX8 47 "PaperRoom" "questions" "[LPaperRoom$Question;") (by decide +kernel)) (fun _ h9 => h9) rfl hin rfl (by decide +kernel) rfl rfl (Nat.le_of_ble_eq_true rfl) dX8_init_108 (fun H locs hB => ?_)
  replace hB : m_B D ty A s (L ++ [28]) ad_1 (va_up (va_up g 28 (.inl (ty 5, 30, .inr (.inr (.inr (.inr (fun _ => none))))))) 0 (.inr (8, [.ref (ad_1 1), .ref (ad_1 3), .ref (ad_1 6), .int 0, .ref (ad_1 7), .ref (ad_1 20), .ref (ad_1 22), .ref (ad_1 28), .int 0, .null, .int 0, .long 0]))) H locs := hB
  exact xi_14 hx hb hml hrt hlocks hown hts hin hB (lv_sub hl [0, 1] rfl) (List.mem_append_left _ m_0) (List.mem_append_left _ m_1) (List.mem_append_left _ m_2) (List.mem_append_left _ m_3) (List.mem_append_left _ m_4) (List.mem_append_left _ m_5) (List.mem_append_left _ m_6) (List.mem_append_left _ m_7) (List.mem_append_left _ m_8) (List.mem_append_left _ m_14) (List.mem_append_left _ m_9) (List.mem_append_left _ m_15) (List.mem_append_left _ m_10) (List.mem_append_left _ m_16) (List.mem_append_left _ m_11) (List.mem_append_left _ m_17) (List.mem_append_left _ m_12) (List.mem_append_left _ m_18) (List.mem_append_left _ m_13) (List.mem_append_left _ m_19) (List.mem_append_left _ m_20) (List.mem_append_left _ m_21) (List.mem_append_left _ m_22) (List.mem_append_left _ m_23) (List.mem_append_left _ m_24) (List.mem_append_left _ m_25) (List.mem_append_left _ m_26) (List.mem_append_left _ m_27) (List.mem_append_right _ List.mem_cons_self) (va_up_self _ _ _) ((va_up_ne _ _ (by decide)).trans ((va_up_ne _ _ (by decide)).trans fa1_1)) ((va_up_ne _ _ (by decide)).trans ((va_up_ne _ _ (by decide)).trans h_2)) ((va_up_ne _ _ (by decide)).trans ((va_up_ne _ _ (by decide)).trans fa1_3)) ((va_up_ne _ _ (by decide)).trans ((va_up_ne _ _ (by decide)).trans h_4)) ((va_up_ne _ _ (by decide)).trans ((va_up_ne _ _ (by decide)).trans h_5)) ((va_up_ne _ _ (by decide)).trans ((va_up_ne _ _ (by decide)).trans h_6)) ((va_up_ne _ _ (by decide)).trans ((va_up_ne _ _ (by decide)).trans fa1_7)) ((va_up_ne _ _ (by decide)).trans ((va_up_ne _ _ (by decide)).trans fa1_8)) ((va_up_ne _ _ (by decide)).trans ((va_up_ne _ _ (by decide)).trans h_14)) ((va_up_ne _ _ (by decide)).trans ((va_up_ne _ _ (by decide)).trans fa1_9)) ((va_up_ne _ _ (by decide)).trans ((va_up_ne _ _ (by decide)).trans h_15)) ((va_up_ne _ _ (by decide)).trans ((va_up_ne _ _ (by decide)).trans fa1_10)) ((va_up_ne _ _ (by decide)).trans ((va_up_ne _ _ (by decide)).trans h_16)) ((va_up_ne _ _ (by decide)).trans ((va_up_ne _ _ (by decide)).trans fa1_11)) ((va_up_ne _ _ (by decide)).trans ((va_up_ne _ _ (by decide)).trans h_17)) ((va_up_ne _ _ (by decide)).trans ((va_up_ne _ _ (by decide)).trans fa1_12)) ((va_up_ne _ _ (by decide)).trans ((va_up_ne _ _ (by decide)).trans h_18)) ((va_up_ne _ _ (by decide)).trans ((va_up_ne _ _ (by decide)).trans fa1_13)) ((va_up_ne _ _ (by decide)).trans ((va_up_ne _ _ (by decide)).trans h_19)) ((va_up_ne _ _ (by decide)).trans ((va_up_ne _ _ (by decide)).trans fa1_20)) ((va_up_ne _ _ (by decide)).trans ((va_up_ne _ _ (by decide)).trans h_21)) ((va_up_ne _ _ (by decide)).trans ((va_up_ne _ _ (by decide)).trans fa1_22)) ((va_up_ne _ _ (by decide)).trans ((va_up_ne _ _ (by decide)).trans h_23)) ((va_up_ne _ _ (by decide)).trans ((va_up_ne _ _ (by decide)).trans h_24)) ((va_up_ne _ _ (by decide)).trans ((va_up_ne _ _ (by decide)).trans h_25)) ((va_up_ne _ _ (by decide)).trans ((va_up_ne _ _ (by decide)).trans h_26)) ((va_up_ne _ _ (by decide)).trans ((va_up_ne _ _ (by decide)).trans h_27)) ((va_up_ne _ _ (by decide)).trans (va_up_self _ _ _)) (fun r hr => by
    have h1 := (by decide : ∀ r ∈ ([29] : List Nat), r ∈ ([28, 29] : List Nat)) r hr
    have h2 := (by decide : ∀ r ∈ ([29] : List Nat), r ≠ 28) r hr
    exact (nin_app (hnew r h1) h2)) (fun x hx0 => by
    have hx := (hF x hx0).1
    have hn_7 : x ≠ 7 := fun e9 => hN (by rw [← e9]; exact hx0)
    refine ⟨(List.mem_append_left _ hx), (hF x hx0).2.1.trans (((rfl).trans (had_1 x hx))), fun hn_0 => ?_⟩
    exact (((va_up_ne _ _ hn_0).trans ((va_up_ne _ _ (fun e9 => (hnew 28 (by decide)) (by rw [← e9]; exact hx))).trans rfl))).trans ((hF x hx0).2.2 hn_0)) (all_app hO (Or.inr (by decide))) hN
set_option maxHeartbeats 4000000 in
set_option maxRecDepth 100000 in
theorem xi_12 {p : Program} {l : Launch} {e : Env} {s : State} {m : MethodId} {args : Array Value} {below : List Frame} {meth : Method} {c : Code} {A : Nat → Prop} {D : va_G} {ty : Nat → ClassId} {L0 : List Nat} {ad0 : Nat → Nat} {g0 : Nat → va_E} {L : List Nat} {ad : Nat → Nat} {g : Nat → va_E} {H : Heap} {locs : List Loc} {ls : Array Slot} (hx : p.tables.exec = Jvm.exec) (hb : c.code = cX8_init) (hml : c.maxLocals = 2) (hrt : meth.sig.returnType = none) (hlocks : meth.locks = false) (hown : s.vm.findClass RX8 = some m.cls) (hts : ∀ w ∈ wsX8_init, w.before args s = true) (hin : meth.name = "<init>") (hB : m_B D ty A s L ad g H locs) (hl : lv_has ls 2 [(0, .ref (ad 0)), (1, .int 6)]) (m_0 : 0 ∈ L) (m_1 : 1 ∈ L) (m_2 : 2 ∈ L) (m_3 : 3 ∈ L) (m_4 : 4 ∈ L) (m_5 : 5 ∈ L) (m_6 : 6 ∈ L) (m_7 : 7 ∈ L) (m_8 : 8 ∈ L) (m_14 : 14 ∈ L) (m_9 : 9 ∈ L) (m_15 : 15 ∈ L) (m_10 : 10 ∈ L) (m_16 : 16 ∈ L) (m_11 : 11 ∈ L) (m_17 : 17 ∈ L) (m_12 : 12 ∈ L) (m_18 : 18 ∈ L) (m_13 : 13 ∈ L) (m_19 : 19 ∈ L) (m_20 : 20 ∈ L) (m_21 : 21 ∈ L) (h_0 : g 0 = .inr (8, [.ref (ad 1), .ref (ad 3), .ref (ad 6), .int 0, .ref (ad 7), .ref (ad 20), .null, .null, .int 0, .null, .int 0, .long 0])) (h_1 : g 1 = .inr (5, [.ref (ad 2), .int 0])) (h_2 : g 2 = .inl (ty 2, 40, .inl (fun _ => 0))) (h_3 : g 3 = .inr (4, [.ref (ad 4), .ref (ad 5)])) (h_4 : g 4 = .inl (ty 0, 12, .inl (fun _ => 0))) (h_5 : g 5 = .inl (ty 0, 12, .inl (fun _ => 0))) (h_6 : g 6 = .inl (ty 4, 8, .inr (.inr (.inr (.inr (fun _ => none)))))) (h_7 : g 7 = .inl (ty 6, 6, .inr (.inr (.inr (.inr (va_up (va_up (va_up (va_up (va_up (va_up (fun _ => none) 0 (some (ad 8))) 1 (some (ad 9))) 2 (some (ad 10))) 3 (some (ad 11))) 4 (some (ad 12))) 5 (some (ad 13)))))))) (h_8 : g 8 = .inr (5, [.ref (ad 14), .int 0])) (h_14 : g 14 = .inl (ty 2, 80, .inl (fun _ => 0))) (h_9 : g 9 = .inr (5, [.ref (ad 15), .int 0])) (h_15 : g 15 = .inl (ty 2, 80, .inl (fun _ => 0))) (h_10 : g 10 = .inr (5, [.ref (ad 16), .int 0])) (h_16 : g 16 = .inl (ty 2, 80, .inl (fun _ => 0))) (h_11 : g 11 = .inr (5, [.ref (ad 17), .int 0])) (h_17 : g 17 = .inl (ty 2, 80, .inl (fun _ => 0))) (h_12 : g 12 = .inr (5, [.ref (ad 18), .int 0])) (h_18 : g 18 = .inl (ty 2, 80, .inl (fun _ => 0))) (h_13 : g 13 = .inr (5, [.ref (ad 19), .int 0])) (h_19 : g 19 = .inl (ty 2, 80, .inl (fun _ => 0))) (h_20 : g 20 = .inr (5, [.ref (ad 21), .int 0])) (h_21 : g 21 = .inl (ty 2, 80, .inl (fun _ => 0))) (hnew : ∀ r ∈ ([22, 23, 24, 25, 26, 27, 28, 29] : List Nat), r ∉ L) (hF : ∀ x ∈ L0, x ∈ L ∧ ad0 x = ad x ∧ (x ≠ 0 → g x = g0 x)) (hO : ∀ x ∈ L, x ∈ L0 ∨ x < 30) (hN : 7 ∉ L0) : W p l e ({ frames := 2, cells := 29, slots := 1739, locals := 42 } : Room) s m args below meth c H locs 21 696 (MQ below (m_Q D A (xi_post ty L0 ad0 g0)) args s 29 1739 A) (F0 m 91 ls []) := by
  refine lv_aload_n hx hb dX8_init_91 rfl (lv_at hl 0 rfl) ?_
  refine n_new (C := RX6) (T := TX6) (N := 7) (ci := 6) (fs := [.null, .null, .null, .null, .null, .int 0, .int 0]) hx hb hts in_X8_init_X6 tyX6 tyX6_ok hown (hts (.classLink RX8 38 RX6) (by decide +kernel)) (hts (.instantiable RX6 7) (by decide +kernel)) (hts (.initialized RX6) (by decide +kernel)) hB 22 (hnew 22 (by decide)) rfl (by decide +kernel) (Nat.le_of_ble_eq_true rfl) (Nat.le_of_ble_eq_true rfl) dX8_init_92 (fun ad_1 H had_1 hB => ?_)
  have e1_0 : ad 0 = ad_1 0 := had_1 0 m_0
  have e1_1 : ad 1 = ad_1 1 := had_1 1 m_1
  have e1_10 : ad 10 = ad_1 10 := had_1 10 m_10
  have e1_11 : ad 11 = ad_1 11 := had_1 11 m_11
  have e1_12 : ad 12 = ad_1 12 := had_1 12 m_12
  have e1_13 : ad 13 = ad_1 13 := had_1 13 m_13
  have e1_14 : ad 14 = ad_1 14 := had_1 14 m_14
  have e1_15 : ad 15 = ad_1 15 := had_1 15 m_15
  have e1_16 : ad 16 = ad_1 16 := had_1 16 m_16
  have e1_17 : ad 17 = ad_1 17 := had_1 17 m_17
  have e1_18 : ad 18 = ad_1 18 := had_1 18 m_18
  have e1_19 : ad 19 = ad_1 19 := had_1 19 m_19
  have e1_2 : ad 2 = ad_1 2 := had_1 2 m_2
  have e1_20 : ad 20 = ad_1 20 := had_1 20 m_20
  have e1_21 : ad 21 = ad_1 21 := had_1 21 m_21
  have e1_3 : ad 3 = ad_1 3 := had_1 3 m_3
  have e1_4 : ad 4 = ad_1 4 := had_1 4 m_4
  have e1_5 : ad 5 = ad_1 5 := had_1 5 m_5
  have e1_6 : ad 6 = ad_1 6 := had_1 6 m_6
  have e1_7 : ad 7 = ad_1 7 := had_1 7 m_7
  have e1_8 : ad 8 = ad_1 8 := had_1 8 m_8
  have e1_9 : ad 9 = ad_1 9 := had_1 9 m_9
  replace hl : lv_has ls 2 [(0, .ref (ad_1 0)), (1, .int 6)] := by rw [← e1_0]; exact hl
  have fa1_0 : g 0 = .inr (8, [.ref (ad_1 1), .ref (ad_1 3), .ref (ad_1 6), .int 0, .ref (ad_1 7), .ref (ad_1 20), .null, .null, .int 0, .null, .int 0, .long 0]) := by rw [← e1_1, ← e1_20, ← e1_3, ← e1_6, ← e1_7]; exact h_0
  have fa1_1 : g 1 = .inr (5, [.ref (ad_1 2), .int 0]) := by rw [← e1_2]; exact h_1
  have fa1_3 : g 3 = .inr (4, [.ref (ad_1 4), .ref (ad_1 5)]) := by rw [← e1_4, ← e1_5]; exact h_3
  have fa1_7 : g 7 = .inl (ty 6, 6, .inr (.inr (.inr (.inr (va_up (va_up (va_up (va_up (va_up (va_up (fun _ => none) 0 (some (ad_1 8))) 1 (some (ad_1 9))) 2 (some (ad_1 10))) 3 (some (ad_1 11))) 4 (some (ad_1 12))) 5 (some (ad_1 13))))))) := by rw [← e1_10, ← e1_11, ← e1_12, ← e1_13, ← e1_8, ← e1_9]; exact h_7
  have fa1_8 : g 8 = .inr (5, [.ref (ad_1 14), .int 0]) := by rw [← e1_14]; exact h_8
  have fa1_9 : g 9 = .inr (5, [.ref (ad_1 15), .int 0]) := by rw [← e1_15]; exact h_9
  have fa1_10 : g 10 = .inr (5, [.ref (ad_1 16), .int 0]) := by rw [← e1_16]; exact h_10
  have fa1_11 : g 11 = .inr (5, [.ref (ad_1 17), .int 0]) := by rw [← e1_17]; exact h_11
  have fa1_12 : g 12 = .inr (5, [.ref (ad_1 18), .int 0]) := by rw [← e1_18]; exact h_12
  have fa1_13 : g 13 = .inr (5, [.ref (ad_1 19), .int 0]) := by rw [← e1_19]; exact h_13
  have fa1_20 : g 20 = .inr (5, [.ref (ad_1 21), .int 0]) := by rw [← e1_21]; exact h_20
  replace hB : m_B D ty A s (L ++ [22]) ad_1 (va_up g 22 (.inr (6, [.null, .null, .null, .null, .null, .int 0, .int 0]))) H locs := hB
  refine W.eq (g2 := F0 m 95 ls [.ref (ad_1 22), .ref (ad_1 0)]) (by rw [e1_0]) ?_
  refine lv_dup hx hb dX8_init_95 rfl ?_
  refine m_callIN (r := 22) (As := []) (rest := [.ref (ad_1 22), .ref (ad_1 0)]) (c_Seen_init l D ty (L ++ [22]) ad_1 _ 22 23 24 25 26 27 (List.mem_append_right _ List.mem_cons_self) (va_up_self _ _ _) (nin_app (hnew 23 (by decide)) (by decide)) (nin_app (hnew 24 (by decide)) (by decide)) (nin_app (hnew 25 (by decide)) (by decide)) (nin_app (hnew 26 (by decide)) (by decide)) (nin_app (hnew 27 (by decide)) (by decide)) (by decide) (by decide) (by decide) (by decide) (by decide) (by decide) (by decide) (by decide) (by decide) (by decide) (by decide) (by decide) (by decide) (by decide) (by decide)) ⟨hx, hb, hml, hown, hts⟩ ⟨va_cnB 0 hts gX8_init_X6_init_n40 rfl rfl rfl hB.2.1.2.2.2.1 (hts (.initialized RX6) (by decide +kernel)) (by decide +kernel) ⟨Nat.le_of_ble_eq_true rfl, Nat.le_of_ble_eq_true rfl⟩, rfl, hts (.instanceMethod yX6_init) (by decide +kernel)⟩ hB rfl hl.1 rfl (Nat.le_of_ble_eq_true rfl) dX8_init_96 ⟨Nat.le_of_ble_eq_true rfl, Nat.le_of_ble_eq_true rfl⟩ (fun v196 L196 ad_196 g196 H locs hp196 hB => ?_)
  obtain ⟨q1_196, q2_196, had_196, hfr_196, hf196_0, hf196_1, hf196_2, hf196_3, hf196_4, hf196_5⟩ := hp196
  subst q2_196
  have e196_0 : ad_1 0 = ad_196 0 := had_196 0 (List.mem_append_left _ m_0)
  have e196_1 : ad_1 1 = ad_196 1 := had_196 1 (List.mem_append_left _ m_1)
  have e196_10 : ad_1 10 = ad_196 10 := had_196 10 (List.mem_append_left _ m_10)
  have e196_11 : ad_1 11 = ad_196 11 := had_196 11 (List.mem_append_left _ m_11)
  have e196_12 : ad_1 12 = ad_196 12 := had_196 12 (List.mem_append_left _ m_12)
  have e196_13 : ad_1 13 = ad_196 13 := had_196 13 (List.mem_append_left _ m_13)
  have e196_14 : ad_1 14 = ad_196 14 := had_196 14 (List.mem_append_left _ m_14)
  have e196_15 : ad_1 15 = ad_196 15 := had_196 15 (List.mem_append_left _ m_15)
  have e196_16 : ad_1 16 = ad_196 16 := had_196 16 (List.mem_append_left _ m_16)
  have e196_17 : ad_1 17 = ad_196 17 := had_196 17 (List.mem_append_left _ m_17)
  have e196_18 : ad_1 18 = ad_196 18 := had_196 18 (List.mem_append_left _ m_18)
  have e196_19 : ad_1 19 = ad_196 19 := had_196 19 (List.mem_append_left _ m_19)
  have e196_2 : ad_1 2 = ad_196 2 := had_196 2 (List.mem_append_left _ m_2)
  have e196_20 : ad_1 20 = ad_196 20 := had_196 20 (List.mem_append_left _ m_20)
  have e196_21 : ad_1 21 = ad_196 21 := had_196 21 (List.mem_append_left _ m_21)
  have e196_22 : ad_1 22 = ad_196 22 := had_196 22 (List.mem_append_right _ List.mem_cons_self)
  have e196_3 : ad_1 3 = ad_196 3 := had_196 3 (List.mem_append_left _ m_3)
  have e196_4 : ad_1 4 = ad_196 4 := had_196 4 (List.mem_append_left _ m_4)
  have e196_5 : ad_1 5 = ad_196 5 := had_196 5 (List.mem_append_left _ m_5)
  have e196_6 : ad_1 6 = ad_196 6 := had_196 6 (List.mem_append_left _ m_6)
  have e196_7 : ad_1 7 = ad_196 7 := had_196 7 (List.mem_append_left _ m_7)
  have e196_8 : ad_1 8 = ad_196 8 := had_196 8 (List.mem_append_left _ m_8)
  have e196_9 : ad_1 9 = ad_196 9 := had_196 9 (List.mem_append_left _ m_9)
  replace hl : lv_has ls 2 [(0, .ref (ad_196 0)), (1, .int 6)] := by rw [← e196_0]; exact hl
  have fa196_0 : (va_up g 22 (.inr (6, [.null, .null, .null, .null, .null, .int 0, .int 0]))) 0 = .inr (8, [.ref (ad_196 1), .ref (ad_196 3), .ref (ad_196 6), .int 0, .ref (ad_196 7), .ref (ad_196 20), .null, .null, .int 0, .null, .int 0, .long 0]) := by rw [← e196_1, ← e196_20, ← e196_3, ← e196_6, ← e196_7]; exact ((va_up_ne _ _ (by decide)).trans fa1_0)
  have fa196_1 : (va_up g 22 (.inr (6, [.null, .null, .null, .null, .null, .int 0, .int 0]))) 1 = .inr (5, [.ref (ad_196 2), .int 0]) := by rw [← e196_2]; exact ((va_up_ne _ _ (by decide)).trans fa1_1)
  have fa196_3 : (va_up g 22 (.inr (6, [.null, .null, .null, .null, .null, .int 0, .int 0]))) 3 = .inr (4, [.ref (ad_196 4), .ref (ad_196 5)]) := by rw [← e196_4, ← e196_5]; exact ((va_up_ne _ _ (by decide)).trans fa1_3)
  have fa196_7 : (va_up g 22 (.inr (6, [.null, .null, .null, .null, .null, .int 0, .int 0]))) 7 = .inl (ty 6, 6, .inr (.inr (.inr (.inr (va_up (va_up (va_up (va_up (va_up (va_up (fun _ => none) 0 (some (ad_196 8))) 1 (some (ad_196 9))) 2 (some (ad_196 10))) 3 (some (ad_196 11))) 4 (some (ad_196 12))) 5 (some (ad_196 13))))))) := by rw [← e196_10, ← e196_11, ← e196_12, ← e196_13, ← e196_8, ← e196_9]; exact ((va_up_ne _ _ (by decide)).trans fa1_7)
  have fa196_8 : (va_up g 22 (.inr (6, [.null, .null, .null, .null, .null, .int 0, .int 0]))) 8 = .inr (5, [.ref (ad_196 14), .int 0]) := by rw [← e196_14]; exact ((va_up_ne _ _ (by decide)).trans fa1_8)
  have fa196_9 : (va_up g 22 (.inr (6, [.null, .null, .null, .null, .null, .int 0, .int 0]))) 9 = .inr (5, [.ref (ad_196 15), .int 0]) := by rw [← e196_15]; exact ((va_up_ne _ _ (by decide)).trans fa1_9)
  have fa196_10 : (va_up g 22 (.inr (6, [.null, .null, .null, .null, .null, .int 0, .int 0]))) 10 = .inr (5, [.ref (ad_196 16), .int 0]) := by rw [← e196_16]; exact ((va_up_ne _ _ (by decide)).trans fa1_10)
  have fa196_11 : (va_up g 22 (.inr (6, [.null, .null, .null, .null, .null, .int 0, .int 0]))) 11 = .inr (5, [.ref (ad_196 17), .int 0]) := by rw [← e196_17]; exact ((va_up_ne _ _ (by decide)).trans fa1_11)
  have fa196_12 : (va_up g 22 (.inr (6, [.null, .null, .null, .null, .null, .int 0, .int 0]))) 12 = .inr (5, [.ref (ad_196 18), .int 0]) := by rw [← e196_18]; exact ((va_up_ne _ _ (by decide)).trans fa1_12)
  have fa196_13 : (va_up g 22 (.inr (6, [.null, .null, .null, .null, .null, .int 0, .int 0]))) 13 = .inr (5, [.ref (ad_196 19), .int 0]) := by rw [← e196_19]; exact ((va_up_ne _ _ (by decide)).trans fa1_13)
  have fa196_20 : (va_up g 22 (.inr (6, [.null, .null, .null, .null, .null, .int 0, .int 0]))) 20 = .inr (5, [.ref (ad_196 21), .int 0]) := by rw [← e196_21]; exact ((va_up_ne _ _ (by decide)).trans fa1_20)
  refine W.eq (g2 := F0 m 99 ls [.ref (ad_196 22), .ref (ad_196 0)]) (by rw [q1_196]; (try rw [e196_0]); (try rw [e196_22]); rfl) ?_
  refine m_putF (C := RX8) (T := TX8) (N := 12) (ci := 8) (v := .ref (ad_196 22)) (ft := .object "PaperRoom$Seen") hx hb hts in_X8_init_X8 tyX8 tyX8_ok nmX8 hown hB (List.mem_append_left _ (List.mem_append_left _ (List.mem_append_left _ (List.mem_append_left _ (List.mem_append_left _ (List.mem_append_left _ m_0)))))) ((hfr_196 0 (List.mem_append_left _ m_0) (by decide)).trans fa196_0) rfl 6 (by decide) (hts (.fieldLink RX8 41 "PaperRoom" "seen" "LPaperRoom$Seen;") (by decide +kernel)) (fun _ h9 => h9) rfl hin rfl (by decide +kernel) rfl rfl (Nat.le_of_ble_eq_true rfl) dX8_init_99 (fun H locs hB => ?_)
  replace hB : m_B D ty A s ((((((L ++ [22]) ++ [23]) ++ [24]) ++ [25]) ++ [26]) ++ [27]) ad_196 (va_up g196 0 (.inr (8, [.ref (ad_196 1), .ref (ad_196 3), .ref (ad_196 6), .int 0, .ref (ad_196 7), .ref (ad_196 20), .ref (ad_196 22), .null, .int 0, .null, .int 0, .long 0]))) H locs := hB
  exact xi_13 hx hb hml hrt hlocks hown hts hin hB (lv_sub hl [0, 1] rfl) (List.mem_append_left _ (List.mem_append_left _ (List.mem_append_left _ (List.mem_append_left _ (List.mem_append_left _ (List.mem_append_left _ m_0)))))) (List.mem_append_left _ (List.mem_append_left _ (List.mem_append_left _ (List.mem_append_left _ (List.mem_append_left _ (List.mem_append_left _ m_1)))))) (List.mem_append_left _ (List.mem_append_left _ (List.mem_append_left _ (List.mem_append_left _ (List.mem_append_left _ (List.mem_append_left _ m_2)))))) (List.mem_append_left _ (List.mem_append_left _ (List.mem_append_left _ (List.mem_append_left _ (List.mem_append_left _ (List.mem_append_left _ m_3)))))) (List.mem_append_left _ (List.mem_append_left _ (List.mem_append_left _ (List.mem_append_left _ (List.mem_append_left _ (List.mem_append_left _ m_4)))))) (List.mem_append_left _ (List.mem_append_left _ (List.mem_append_left _ (List.mem_append_left _ (List.mem_append_left _ (List.mem_append_left _ m_5)))))) (List.mem_append_left _ (List.mem_append_left _ (List.mem_append_left _ (List.mem_append_left _ (List.mem_append_left _ (List.mem_append_left _ m_6)))))) (List.mem_append_left _ (List.mem_append_left _ (List.mem_append_left _ (List.mem_append_left _ (List.mem_append_left _ (List.mem_append_left _ m_7)))))) (List.mem_append_left _ (List.mem_append_left _ (List.mem_append_left _ (List.mem_append_left _ (List.mem_append_left _ (List.mem_append_left _ m_8)))))) (List.mem_append_left _ (List.mem_append_left _ (List.mem_append_left _ (List.mem_append_left _ (List.mem_append_left _ (List.mem_append_left _ m_14)))))) (List.mem_append_left _ (List.mem_append_left _ (List.mem_append_left _ (List.mem_append_left _ (List.mem_append_left _ (List.mem_append_left _ m_9)))))) (List.mem_append_left _ (List.mem_append_left _ (List.mem_append_left _ (List.mem_append_left _ (List.mem_append_left _ (List.mem_append_left _ m_15)))))) (List.mem_append_left _ (List.mem_append_left _ (List.mem_append_left _ (List.mem_append_left _ (List.mem_append_left _ (List.mem_append_left _ m_10)))))) (List.mem_append_left _ (List.mem_append_left _ (List.mem_append_left _ (List.mem_append_left _ (List.mem_append_left _ (List.mem_append_left _ m_16)))))) (List.mem_append_left _ (List.mem_append_left _ (List.mem_append_left _ (List.mem_append_left _ (List.mem_append_left _ (List.mem_append_left _ m_11)))))) (List.mem_append_left _ (List.mem_append_left _ (List.mem_append_left _ (List.mem_append_left _ (List.mem_append_left _ (List.mem_append_left _ m_17)))))) (List.mem_append_left _ (List.mem_append_left _ (List.mem_append_left _ (List.mem_append_left _ (List.mem_append_left _ (List.mem_append_left _ m_12)))))) (List.mem_append_left _ (List.mem_append_left _ (List.mem_append_left _ (List.mem_append_left _ (List.mem_append_left _ (List.mem_append_left _ m_18)))))) (List.mem_append_left _ (List.mem_append_left _ (List.mem_append_left _ (List.mem_append_left _ (List.mem_append_left _ (List.mem_append_left _ m_13)))))) (List.mem_append_left _ (List.mem_append_left _ (List.mem_append_left _ (List.mem_append_left _ (List.mem_append_left _ (List.mem_append_left _ m_19)))))) (List.mem_append_left _ (List.mem_append_left _ (List.mem_append_left _ (List.mem_append_left _ (List.mem_append_left _ (List.mem_append_left _ m_20)))))) (List.mem_append_left _ (List.mem_append_left _ (List.mem_append_left _ (List.mem_append_left _ (List.mem_append_left _ (List.mem_append_left _ m_21)))))) (List.mem_append_left _ (List.mem_append_left _ (List.mem_append_left _ (List.mem_append_left _ (List.mem_append_left _ (List.mem_append_right _ List.mem_cons_self)))))) (List.mem_append_left _ (List.mem_append_left _ (List.mem_append_left _ (List.mem_append_left _ (List.mem_append_right _ List.mem_cons_self))))) (List.mem_append_left _ (List.mem_append_left _ (List.mem_append_left _ (List.mem_append_right _ List.mem_cons_self)))) (List.mem_append_left _ (List.mem_append_left _ (List.mem_append_right _ List.mem_cons_self))) (List.mem_append_left _ (List.mem_append_right _ List.mem_cons_self)) (List.mem_append_right _ List.mem_cons_self) (va_up_self _ _ _) ((va_up_ne _ _ (by decide)).trans ((hfr_196 1 (List.mem_append_left _ m_1) (by decide)).trans fa196_1)) ((va_up_ne _ _ (by decide)).trans ((hfr_196 2 (List.mem_append_left _ m_2) (by decide)).trans ((va_up_ne _ _ (by decide)).trans h_2))) ((va_up_ne _ _ (by decide)).trans ((hfr_196 3 (List.mem_append_left _ m_3) (by decide)).trans fa196_3)) ((va_up_ne _ _ (by decide)).trans ((hfr_196 4 (List.mem_append_left _ m_4) (by decide)).trans ((va_up_ne _ _ (by decide)).trans h_4))) ((va_up_ne _ _ (by decide)).trans ((hfr_196 5 (List.mem_append_left _ m_5) (by decide)).trans ((va_up_ne _ _ (by decide)).trans h_5))) ((va_up_ne _ _ (by decide)).trans ((hfr_196 6 (List.mem_append_left _ m_6) (by decide)).trans ((va_up_ne _ _ (by decide)).trans h_6))) ((va_up_ne _ _ (by decide)).trans ((hfr_196 7 (List.mem_append_left _ m_7) (by decide)).trans fa196_7)) ((va_up_ne _ _ (by decide)).trans ((hfr_196 8 (List.mem_append_left _ m_8) (by decide)).trans fa196_8)) ((va_up_ne _ _ (by decide)).trans ((hfr_196 14 (List.mem_append_left _ m_14) (by decide)).trans ((va_up_ne _ _ (by decide)).trans h_14))) ((va_up_ne _ _ (by decide)).trans ((hfr_196 9 (List.mem_append_left _ m_9) (by decide)).trans fa196_9)) ((va_up_ne _ _ (by decide)).trans ((hfr_196 15 (List.mem_append_left _ m_15) (by decide)).trans ((va_up_ne _ _ (by decide)).trans h_15))) ((va_up_ne _ _ (by decide)).trans ((hfr_196 10 (List.mem_append_left _ m_10) (by decide)).trans fa196_10)) ((va_up_ne _ _ (by decide)).trans ((hfr_196 16 (List.mem_append_left _ m_16) (by decide)).trans ((va_up_ne _ _ (by decide)).trans h_16))) ((va_up_ne _ _ (by decide)).trans ((hfr_196 11 (List.mem_append_left _ m_11) (by decide)).trans fa196_11)) ((va_up_ne _ _ (by decide)).trans ((hfr_196 17 (List.mem_append_left _ m_17) (by decide)).trans ((va_up_ne _ _ (by decide)).trans h_17))) ((va_up_ne _ _ (by decide)).trans ((hfr_196 12 (List.mem_append_left _ m_12) (by decide)).trans fa196_12)) ((va_up_ne _ _ (by decide)).trans ((hfr_196 18 (List.mem_append_left _ m_18) (by decide)).trans ((va_up_ne _ _ (by decide)).trans h_18))) ((va_up_ne _ _ (by decide)).trans ((hfr_196 13 (List.mem_append_left _ m_13) (by decide)).trans fa196_13)) ((va_up_ne _ _ (by decide)).trans ((hfr_196 19 (List.mem_append_left _ m_19) (by decide)).trans ((va_up_ne _ _ (by decide)).trans h_19))) ((va_up_ne _ _ (by decide)).trans ((hfr_196 20 (List.mem_append_left _ m_20) (by decide)).trans fa196_20)) ((va_up_ne _ _ (by decide)).trans ((hfr_196 21 (List.mem_append_left _ m_21) (by decide)).trans ((va_up_ne _ _ (by decide)).trans h_21))) ((va_up_ne _ _ (by decide)).trans hf196_0) ((va_up_ne _ _ (by decide)).trans hf196_1) ((va_up_ne _ _ (by decide)).trans hf196_2) ((va_up_ne _ _ (by decide)).trans hf196_3) ((va_up_ne _ _ (by decide)).trans hf196_4) ((va_up_ne _ _ (by decide)).trans hf196_5) (fun r hr => by
    have h1 := (by decide : ∀ r ∈ ([28, 29] : List Nat), r ∈ ([22, 23, 24, 25, 26, 27, 28, 29] : List Nat)) r hr
    have h2 := (by decide : ∀ r ∈ ([28, 29] : List Nat), r ≠ 22 ∧ r ≠ 23 ∧ r ≠ 24 ∧ r ≠ 25 ∧ r ≠ 26 ∧ r ≠ 27) r hr
    exact (nin_app (nin_app (nin_app (nin_app (nin_app (nin_app (hnew r h1) h2.1) h2.2.1) h2.2.2.1) h2.2.2.2.1) h2.2.2.2.2.1) h2.2.2.2.2.2)) (fun x hx0 => by
    have hx := (hF x hx0).1
    have hn_7 : x ≠ 7 := fun e9 => hN (by rw [← e9]; exact hx0)
    refine ⟨(List.mem_append_left _ (List.mem_append_left _ (List.mem_append_left _ (List.mem_append_left _ (List.mem_append_left _ (List.mem_append_left _ hx)))))), (hF x hx0).2.1.trans (((((rfl).trans (had_1 x hx))).trans (had_196 x (List.mem_append_left _ hx)))), fun hn_0 => ?_⟩
    exact (((va_up_ne _ _ hn_0).trans ((hfr_196 x (List.mem_append_left _ hx) (fun e9 => (hnew 22 (by decide)) (by rw [← e9]; exact hx))).trans ((va_up_ne _ _ (fun e9 => (hnew 22 (by decide)) (by rw [← e9]; exact hx))).trans rfl)))).trans ((hF x hx0).2.2 hn_0)) (all_app (all_app (all_app (all_app (all_app (all_app hO (Or.inr (by decide))) (Or.inr (by decide))) (Or.inr (by decide))) (Or.inr (by decide))) (Or.inr (by decide))) (Or.inr (by decide))) hN
set_option maxHeartbeats 4000000 in
set_option maxRecDepth 100000 in
theorem xi_11 {p : Program} {l : Launch} {e : Env} {s : State} {m : MethodId} {args : Array Value} {below : List Frame} {meth : Method} {c : Code} {A : Nat → Prop} {D : va_G} {ty : Nat → ClassId} {L0 : List Nat} {ad0 : Nat → Nat} {g0 : Nat → va_E} {L : List Nat} {ad : Nat → Nat} {g : Nat → va_E} {H : Heap} {locs : List Loc} {ls : Array Slot} (hx : p.tables.exec = Jvm.exec) (hb : c.code = cX8_init) (hml : c.maxLocals = 2) (hrt : meth.sig.returnType = none) (hlocks : meth.locks = false) (hown : s.vm.findClass RX8 = some m.cls) (hts : ∀ w ∈ wsX8_init, w.before args s = true) (hin : meth.name = "<init>") (hB : m_B D ty A s L ad g H locs) (hl : lv_has ls 2 [(0, .ref (ad 0)), (1, .int 6)]) (m_0 : 0 ∈ L) (m_1 : 1 ∈ L) (m_2 : 2 ∈ L) (m_3 : 3 ∈ L) (m_4 : 4 ∈ L) (m_5 : 5 ∈ L) (m_6 : 6 ∈ L) (m_7 : 7 ∈ L) (m_8 : 8 ∈ L) (m_14 : 14 ∈ L) (m_9 : 9 ∈ L) (m_15 : 15 ∈ L) (m_10 : 10 ∈ L) (m_16 : 16 ∈ L) (m_11 : 11 ∈ L) (m_17 : 17 ∈ L) (m_12 : 12 ∈ L) (m_18 : 18 ∈ L) (m_13 : 13 ∈ L) (m_19 : 19 ∈ L) (h_0 : g 0 = .inr (8, [.ref (ad 1), .ref (ad 3), .ref (ad 6), .int 0, .ref (ad 7), .null, .null, .null, .int 0, .null, .int 0, .long 0])) (h_1 : g 1 = .inr (5, [.ref (ad 2), .int 0])) (h_2 : g 2 = .inl (ty 2, 40, .inl (fun _ => 0))) (h_3 : g 3 = .inr (4, [.ref (ad 4), .ref (ad 5)])) (h_4 : g 4 = .inl (ty 0, 12, .inl (fun _ => 0))) (h_5 : g 5 = .inl (ty 0, 12, .inl (fun _ => 0))) (h_6 : g 6 = .inl (ty 4, 8, .inr (.inr (.inr (.inr (fun _ => none)))))) (h_7 : g 7 = .inl (ty 6, 6, .inr (.inr (.inr (.inr (va_up (va_up (va_up (va_up (va_up (va_up (fun _ => none) 0 (some (ad 8))) 1 (some (ad 9))) 2 (some (ad 10))) 3 (some (ad 11))) 4 (some (ad 12))) 5 (some (ad 13)))))))) (h_8 : g 8 = .inr (5, [.ref (ad 14), .int 0])) (h_14 : g 14 = .inl (ty 2, 80, .inl (fun _ => 0))) (h_9 : g 9 = .inr (5, [.ref (ad 15), .int 0])) (h_15 : g 15 = .inl (ty 2, 80, .inl (fun _ => 0))) (h_10 : g 10 = .inr (5, [.ref (ad 16), .int 0])) (h_16 : g 16 = .inl (ty 2, 80, .inl (fun _ => 0))) (h_11 : g 11 = .inr (5, [.ref (ad 17), .int 0])) (h_17 : g 17 = .inl (ty 2, 80, .inl (fun _ => 0))) (h_12 : g 12 = .inr (5, [.ref (ad 18), .int 0])) (h_18 : g 18 = .inl (ty 2, 80, .inl (fun _ => 0))) (h_13 : g 13 = .inr (5, [.ref (ad 19), .int 0])) (h_19 : g 19 = .inl (ty 2, 80, .inl (fun _ => 0))) (hnew : ∀ r ∈ ([20, 21, 22, 23, 24, 25, 26, 27, 28, 29] : List Nat), r ∉ L) (hF : ∀ x ∈ L0, x ∈ L ∧ ad0 x = ad x ∧ (x ≠ 0 → g x = g0 x)) (hO : ∀ x ∈ L, x ∈ L0 ∨ x < 30) (hN : 7 ∉ L0) : W p l e ({ frames := 2, cells := 29, slots := 1739, locals := 42 } : Room) s m args below meth c H locs 19 614 (MQ below (m_Q D A (xi_post ty L0 ad0 g0)) args s 29 1739 A) (F0 m 48 ls []) := by
  refine lv_iload_n hx hb dX8_init_48 rfl (lv_at hl 1 rfl) ?_
  refine lv_aload_n hx hb dX8_init_49 rfl (lv_at hl 0 rfl) ?_
  refine m_get (C := RX8) (T := TX8) (N := 12) (ci := 8) hx hb hts in_X8_init_X8 hown hB m_0 h_0 rfl 4 (by decide) (hts (.fieldLink RX8 31 "PaperRoom" "lastViews" "[LPaperRoom$Row;") (by decide +kernel)) (fun _ h9 => h9) rfl dX8_init_50 ?_
  refine m_alen hx hb hB m_7 6 h_7 rfl (v := nI 6) rfl dX8_init_53 ?_
  refine b_icmp_ge_t 78 hx hb dX8_init_54 (by decide) (by decide) ?_
  refine lv_aload_n hx hb dX8_init_78 rfl (lv_at hl 0 rfl) ?_
  refine n_new (C := RX5) (T := TX5) (N := 2) (ci := 5) (fs := [.null, .int 0]) hx hb hts in_X8_init_X5 tyX5 tyX5_ok hown (hts (.classLink RX8 9 RX5) (by decide +kernel)) (hts (.instantiable RX5 2) (by decide +kernel)) (hts (.initialized RX5) (by decide +kernel)) hB 20 (hnew 20 (by decide)) rfl (by decide +kernel) (Nat.le_of_ble_eq_true rfl) (Nat.le_of_ble_eq_true rfl) dX8_init_79 (fun ad_1 H had_1 hB => ?_)
  have e1_0 : ad 0 = ad_1 0 := had_1 0 m_0
  have e1_1 : ad 1 = ad_1 1 := had_1 1 m_1
  have e1_10 : ad 10 = ad_1 10 := had_1 10 m_10
  have e1_11 : ad 11 = ad_1 11 := had_1 11 m_11
  have e1_12 : ad 12 = ad_1 12 := had_1 12 m_12
  have e1_13 : ad 13 = ad_1 13 := had_1 13 m_13
  have e1_14 : ad 14 = ad_1 14 := had_1 14 m_14
  have e1_15 : ad 15 = ad_1 15 := had_1 15 m_15
  have e1_16 : ad 16 = ad_1 16 := had_1 16 m_16
  have e1_17 : ad 17 = ad_1 17 := had_1 17 m_17
  have e1_18 : ad 18 = ad_1 18 := had_1 18 m_18
  have e1_19 : ad 19 = ad_1 19 := had_1 19 m_19
  have e1_2 : ad 2 = ad_1 2 := had_1 2 m_2
  have e1_3 : ad 3 = ad_1 3 := had_1 3 m_3
  have e1_4 : ad 4 = ad_1 4 := had_1 4 m_4
  have e1_5 : ad 5 = ad_1 5 := had_1 5 m_5
  have e1_6 : ad 6 = ad_1 6 := had_1 6 m_6
  have e1_7 : ad 7 = ad_1 7 := had_1 7 m_7
  have e1_8 : ad 8 = ad_1 8 := had_1 8 m_8
  have e1_9 : ad 9 = ad_1 9 := had_1 9 m_9
  replace hl : lv_has ls 2 [(0, .ref (ad_1 0)), (1, .int 6)] := by rw [← e1_0]; exact hl
  have fa1_0 : g 0 = .inr (8, [.ref (ad_1 1), .ref (ad_1 3), .ref (ad_1 6), .int 0, .ref (ad_1 7), .null, .null, .null, .int 0, .null, .int 0, .long 0]) := by rw [← e1_1, ← e1_3, ← e1_6, ← e1_7]; exact h_0
  have fa1_1 : g 1 = .inr (5, [.ref (ad_1 2), .int 0]) := by rw [← e1_2]; exact h_1
  have fa1_3 : g 3 = .inr (4, [.ref (ad_1 4), .ref (ad_1 5)]) := by rw [← e1_4, ← e1_5]; exact h_3
  have fa1_7 : g 7 = .inl (ty 6, 6, .inr (.inr (.inr (.inr (va_up (va_up (va_up (va_up (va_up (va_up (fun _ => none) 0 (some (ad_1 8))) 1 (some (ad_1 9))) 2 (some (ad_1 10))) 3 (some (ad_1 11))) 4 (some (ad_1 12))) 5 (some (ad_1 13))))))) := by rw [← e1_10, ← e1_11, ← e1_12, ← e1_13, ← e1_8, ← e1_9]; exact h_7
  have fa1_8 : g 8 = .inr (5, [.ref (ad_1 14), .int 0]) := by rw [← e1_14]; exact h_8
  have fa1_9 : g 9 = .inr (5, [.ref (ad_1 15), .int 0]) := by rw [← e1_15]; exact h_9
  have fa1_10 : g 10 = .inr (5, [.ref (ad_1 16), .int 0]) := by rw [← e1_16]; exact h_10
  have fa1_11 : g 11 = .inr (5, [.ref (ad_1 17), .int 0]) := by rw [← e1_17]; exact h_11
  have fa1_12 : g 12 = .inr (5, [.ref (ad_1 18), .int 0]) := by rw [← e1_18]; exact h_12
  have fa1_13 : g 13 = .inr (5, [.ref (ad_1 19), .int 0]) := by rw [← e1_19]; exact h_13
  replace hB : m_B D ty A s (L ++ [20]) ad_1 (va_up g 20 (.inr (5, [.null, .int 0]))) H locs := hB
  refine W.eq (g2 := F0 m 82 ls [.ref (ad_1 20), .ref (ad_1 0)]) (by rw [e1_0]) ?_
  refine lv_dup hx hb dX8_init_82 rfl ?_
  refine lv_bipush (v := 80) hx hb dX8_init_83 (by decide) ?_
  refine m_callI (r := 20) (As := [.int 80]) (rest := [.ref (ad_1 20), .ref (ad_1 0)]) (c_Row_init l D ty (L ++ [20]) ad_1 _ 20 21 80 (List.mem_append_right _ List.mem_cons_self) (va_up_self _ _ _) (nin_app (hnew 21 (by decide)) (by decide)) (by decide) (by decide)) ⟨hx, hb, hml, hown, hts⟩ (cwI 1 hts gX8_init_X5_init rfl rfl rfl (hts (.initialized RX5) (by decide +kernel)) (hts (.methodLink RX8 11 yX5_init) (by decide +kernel)) (hts (.instanceMethod yX5_init) (by decide +kernel)) rfl (by decide +kernel) ⟨Nat.le_of_ble_eq_true rfl, Nat.le_of_ble_eq_true rfl⟩) hB rfl hl.1 rfl (Nat.le_of_ble_eq_true rfl) dX8_init_85 ⟨Nat.le_of_ble_eq_true rfl, Nat.le_of_ble_eq_true rfl⟩ (fun v185 L185 ad_185 g185 H locs hp185 hB => ?_)
  obtain ⟨q1_185, q2_185, had_185, q4_185⟩ := hp185
  subst q2_185
  have e185_0 : ad_1 0 = ad_185 0 := had_185 0 (List.mem_append_left _ m_0)
  have e185_1 : ad_1 1 = ad_185 1 := had_185 1 (List.mem_append_left _ m_1)
  have e185_10 : ad_1 10 = ad_185 10 := had_185 10 (List.mem_append_left _ m_10)
  have e185_11 : ad_1 11 = ad_185 11 := had_185 11 (List.mem_append_left _ m_11)
  have e185_12 : ad_1 12 = ad_185 12 := had_185 12 (List.mem_append_left _ m_12)
  have e185_13 : ad_1 13 = ad_185 13 := had_185 13 (List.mem_append_left _ m_13)
  have e185_14 : ad_1 14 = ad_185 14 := had_185 14 (List.mem_append_left _ m_14)
  have e185_15 : ad_1 15 = ad_185 15 := had_185 15 (List.mem_append_left _ m_15)
  have e185_16 : ad_1 16 = ad_185 16 := had_185 16 (List.mem_append_left _ m_16)
  have e185_17 : ad_1 17 = ad_185 17 := had_185 17 (List.mem_append_left _ m_17)
  have e185_18 : ad_1 18 = ad_185 18 := had_185 18 (List.mem_append_left _ m_18)
  have e185_19 : ad_1 19 = ad_185 19 := had_185 19 (List.mem_append_left _ m_19)
  have e185_2 : ad_1 2 = ad_185 2 := had_185 2 (List.mem_append_left _ m_2)
  have e185_20 : ad_1 20 = ad_185 20 := had_185 20 (List.mem_append_right _ List.mem_cons_self)
  have e185_3 : ad_1 3 = ad_185 3 := had_185 3 (List.mem_append_left _ m_3)
  have e185_4 : ad_1 4 = ad_185 4 := had_185 4 (List.mem_append_left _ m_4)
  have e185_5 : ad_1 5 = ad_185 5 := had_185 5 (List.mem_append_left _ m_5)
  have e185_6 : ad_1 6 = ad_185 6 := had_185 6 (List.mem_append_left _ m_6)
  have e185_7 : ad_1 7 = ad_185 7 := had_185 7 (List.mem_append_left _ m_7)
  have e185_8 : ad_1 8 = ad_185 8 := had_185 8 (List.mem_append_left _ m_8)
  have e185_9 : ad_1 9 = ad_185 9 := had_185 9 (List.mem_append_left _ m_9)
  replace hl : lv_has ls 2 [(0, .ref (ad_185 0)), (1, .int 6)] := by rw [← e185_0]; exact hl
  have fa185_0 : (va_up g 20 (.inr (5, [.null, .int 0]))) 0 = .inr (8, [.ref (ad_185 1), .ref (ad_185 3), .ref (ad_185 6), .int 0, .ref (ad_185 7), .null, .null, .null, .int 0, .null, .int 0, .long 0]) := by rw [← e185_1, ← e185_3, ← e185_6, ← e185_7]; exact ((va_up_ne _ _ (by decide)).trans fa1_0)
  have fa185_1 : (va_up g 20 (.inr (5, [.null, .int 0]))) 1 = .inr (5, [.ref (ad_185 2), .int 0]) := by rw [← e185_2]; exact ((va_up_ne _ _ (by decide)).trans fa1_1)
  have fa185_3 : (va_up g 20 (.inr (5, [.null, .int 0]))) 3 = .inr (4, [.ref (ad_185 4), .ref (ad_185 5)]) := by rw [← e185_4, ← e185_5]; exact ((va_up_ne _ _ (by decide)).trans fa1_3)
  have fa185_7 : (va_up g 20 (.inr (5, [.null, .int 0]))) 7 = .inl (ty 6, 6, .inr (.inr (.inr (.inr (va_up (va_up (va_up (va_up (va_up (va_up (fun _ => none) 0 (some (ad_185 8))) 1 (some (ad_185 9))) 2 (some (ad_185 10))) 3 (some (ad_185 11))) 4 (some (ad_185 12))) 5 (some (ad_185 13))))))) := by rw [← e185_10, ← e185_11, ← e185_12, ← e185_13, ← e185_8, ← e185_9]; exact ((va_up_ne _ _ (by decide)).trans fa1_7)
  have fa185_8 : (va_up g 20 (.inr (5, [.null, .int 0]))) 8 = .inr (5, [.ref (ad_185 14), .int 0]) := by rw [← e185_14]; exact ((va_up_ne _ _ (by decide)).trans fa1_8)
  have fa185_9 : (va_up g 20 (.inr (5, [.null, .int 0]))) 9 = .inr (5, [.ref (ad_185 15), .int 0]) := by rw [← e185_15]; exact ((va_up_ne _ _ (by decide)).trans fa1_9)
  have fa185_10 : (va_up g 20 (.inr (5, [.null, .int 0]))) 10 = .inr (5, [.ref (ad_185 16), .int 0]) := by rw [← e185_16]; exact ((va_up_ne _ _ (by decide)).trans fa1_10)
  have fa185_11 : (va_up g 20 (.inr (5, [.null, .int 0]))) 11 = .inr (5, [.ref (ad_185 17), .int 0]) := by rw [← e185_17]; exact ((va_up_ne _ _ (by decide)).trans fa1_11)
  have fa185_12 : (va_up g 20 (.inr (5, [.null, .int 0]))) 12 = .inr (5, [.ref (ad_185 18), .int 0]) := by rw [← e185_18]; exact ((va_up_ne _ _ (by decide)).trans fa1_12)
  have fa185_13 : (va_up g 20 (.inr (5, [.null, .int 0]))) 13 = .inr (5, [.ref (ad_185 19), .int 0]) := by rw [← e185_19]; exact ((va_up_ne _ _ (by decide)).trans fa1_13)
  replace hB : m_B D ty A s ((L ++ [20]) ++ [21]) ad_185 (va_up (va_up (va_up g 20 (.inr (5, [.null, .int 0]))) 21 (.inl (ty 2, 80, .inl (fun _ => 0)))) 20 (.inr (5, [.ref (ad_185 21), .int 0]))) H locs := by rw [q4_185] at hB; exact hB
  refine W.eq (g2 := F0 m 88 ls [.ref (ad_185 20), .ref (ad_185 0)]) (by rw [q1_185]; (try rw [e185_0]); (try rw [e185_20]); rfl) ?_
  refine m_putF (C := RX8) (T := TX8) (N := 12) (ci := 8) (v := .ref (ad_185 20)) (ft := .object "PaperRoom$Row") hx hb hts in_X8_init_X8 tyX8 tyX8_ok nmX8 hown hB (List.mem_append_left _ (List.mem_append_left _ m_0)) ((va_up_ne _ _ (by decide)).trans ((va_up_ne _ _ (by decide)).trans fa185_0)) rfl 5 (by decide) (hts (.fieldLink RX8 35 "PaperRoom" "sample" "LPaperRoom$Row;") (by decide +kernel)) (fun _ h9 => h9) rfl hin rfl (by decide +kernel) rfl rfl (Nat.le_of_ble_eq_true rfl) dX8_init_88 (fun H locs hB => ?_)
  replace hB : m_B D ty A s ((L ++ [20]) ++ [21]) ad_185 (va_up (va_up (va_up (va_up g 20 (.inr (5, [.null, .int 0]))) 21 (.inl (ty 2, 80, .inl (fun _ => 0)))) 20 (.inr (5, [.ref (ad_185 21), .int 0]))) 0 (.inr (8, [.ref (ad_185 1), .ref (ad_185 3), .ref (ad_185 6), .int 0, .ref (ad_185 7), .ref (ad_185 20), .null, .null, .int 0, .null, .int 0, .long 0]))) H locs := hB
  exact xi_12 hx hb hml hrt hlocks hown hts hin hB (lv_sub hl [0, 1] rfl) (List.mem_append_left _ (List.mem_append_left _ m_0)) (List.mem_append_left _ (List.mem_append_left _ m_1)) (List.mem_append_left _ (List.mem_append_left _ m_2)) (List.mem_append_left _ (List.mem_append_left _ m_3)) (List.mem_append_left _ (List.mem_append_left _ m_4)) (List.mem_append_left _ (List.mem_append_left _ m_5)) (List.mem_append_left _ (List.mem_append_left _ m_6)) (List.mem_append_left _ (List.mem_append_left _ m_7)) (List.mem_append_left _ (List.mem_append_left _ m_8)) (List.mem_append_left _ (List.mem_append_left _ m_14)) (List.mem_append_left _ (List.mem_append_left _ m_9)) (List.mem_append_left _ (List.mem_append_left _ m_15)) (List.mem_append_left _ (List.mem_append_left _ m_10)) (List.mem_append_left _ (List.mem_append_left _ m_16)) (List.mem_append_left _ (List.mem_append_left _ m_11)) (List.mem_append_left _ (List.mem_append_left _ m_17)) (List.mem_append_left _ (List.mem_append_left _ m_12)) (List.mem_append_left _ (List.mem_append_left _ m_18)) (List.mem_append_left _ (List.mem_append_left _ m_13)) (List.mem_append_left _ (List.mem_append_left _ m_19)) (List.mem_append_left _ (List.mem_append_right _ List.mem_cons_self)) (List.mem_append_right _ List.mem_cons_self) (va_up_self _ _ _) ((va_up_ne _ _ (by decide)).trans ((va_up_ne _ _ (by decide)).trans ((va_up_ne _ _ (by decide)).trans fa185_1))) ((va_up_ne _ _ (by decide)).trans ((va_up_ne _ _ (by decide)).trans ((va_up_ne _ _ (by decide)).trans ((va_up_ne _ _ (by decide)).trans h_2)))) ((va_up_ne _ _ (by decide)).trans ((va_up_ne _ _ (by decide)).trans ((va_up_ne _ _ (by decide)).trans fa185_3))) ((va_up_ne _ _ (by decide)).trans ((va_up_ne _ _ (by decide)).trans ((va_up_ne _ _ (by decide)).trans ((va_up_ne _ _ (by decide)).trans h_4)))) ((va_up_ne _ _ (by decide)).trans ((va_up_ne _ _ (by decide)).trans ((va_up_ne _ _ (by decide)).trans ((va_up_ne _ _ (by decide)).trans h_5)))) ((va_up_ne _ _ (by decide)).trans ((va_up_ne _ _ (by decide)).trans ((va_up_ne _ _ (by decide)).trans ((va_up_ne _ _ (by decide)).trans h_6)))) ((va_up_ne _ _ (by decide)).trans ((va_up_ne _ _ (by decide)).trans ((va_up_ne _ _ (by decide)).trans fa185_7))) ((va_up_ne _ _ (by decide)).trans ((va_up_ne _ _ (by decide)).trans ((va_up_ne _ _ (by decide)).trans fa185_8))) ((va_up_ne _ _ (by decide)).trans ((va_up_ne _ _ (by decide)).trans ((va_up_ne _ _ (by decide)).trans ((va_up_ne _ _ (by decide)).trans h_14)))) ((va_up_ne _ _ (by decide)).trans ((va_up_ne _ _ (by decide)).trans ((va_up_ne _ _ (by decide)).trans fa185_9))) ((va_up_ne _ _ (by decide)).trans ((va_up_ne _ _ (by decide)).trans ((va_up_ne _ _ (by decide)).trans ((va_up_ne _ _ (by decide)).trans h_15)))) ((va_up_ne _ _ (by decide)).trans ((va_up_ne _ _ (by decide)).trans ((va_up_ne _ _ (by decide)).trans fa185_10))) ((va_up_ne _ _ (by decide)).trans ((va_up_ne _ _ (by decide)).trans ((va_up_ne _ _ (by decide)).trans ((va_up_ne _ _ (by decide)).trans h_16)))) ((va_up_ne _ _ (by decide)).trans ((va_up_ne _ _ (by decide)).trans ((va_up_ne _ _ (by decide)).trans fa185_11))) ((va_up_ne _ _ (by decide)).trans ((va_up_ne _ _ (by decide)).trans ((va_up_ne _ _ (by decide)).trans ((va_up_ne _ _ (by decide)).trans h_17)))) ((va_up_ne _ _ (by decide)).trans ((va_up_ne _ _ (by decide)).trans ((va_up_ne _ _ (by decide)).trans fa185_12))) ((va_up_ne _ _ (by decide)).trans ((va_up_ne _ _ (by decide)).trans ((va_up_ne _ _ (by decide)).trans ((va_up_ne _ _ (by decide)).trans h_18)))) ((va_up_ne _ _ (by decide)).trans ((va_up_ne _ _ (by decide)).trans ((va_up_ne _ _ (by decide)).trans fa185_13))) ((va_up_ne _ _ (by decide)).trans ((va_up_ne _ _ (by decide)).trans ((va_up_ne _ _ (by decide)).trans ((va_up_ne _ _ (by decide)).trans h_19)))) ((va_up_ne _ _ (by decide)).trans (va_up_self _ _ _)) ((va_up_ne _ _ (by decide)).trans ((va_up_ne _ _ (by decide)).trans (va_up_self _ _ _))) (fun r hr => by
    have h1 := (by decide : ∀ r ∈ ([22, 23, 24, 25, 26, 27, 28, 29] : List Nat), r ∈ ([20, 21, 22, 23, 24, 25, 26, 27, 28, 29] : List Nat)) r hr
    have h2 := (by decide : ∀ r ∈ ([22, 23, 24, 25, 26, 27, 28, 29] : List Nat), r ≠ 20 ∧ r ≠ 21) r hr
    exact (nin_app (nin_app (hnew r h1) h2.1) h2.2)) (fun x hx0 => by
    have hx := (hF x hx0).1
    have hn_7 : x ≠ 7 := fun e9 => hN (by rw [← e9]; exact hx0)
    refine ⟨(List.mem_append_left _ (List.mem_append_left _ hx)), (hF x hx0).2.1.trans (((((rfl).trans (had_1 x hx))).trans (had_185 x (List.mem_append_left _ hx)))), fun hn_0 => ?_⟩
    exact (((va_up_ne _ _ hn_0).trans ((va_up_ne _ _ (fun e9 => (hnew 20 (by decide)) (by rw [← e9]; exact hx))).trans ((va_up_ne _ _ (fun e9 => (hnew 21 (by decide)) (by rw [← e9]; exact hx))).trans ((va_up_ne _ _ (fun e9 => (hnew 20 (by decide)) (by rw [← e9]; exact hx))).trans rfl))))).trans ((hF x hx0).2.2 hn_0)) (all_app (all_app hO (Or.inr (by decide))) (Or.inr (by decide))) hN
set_option maxHeartbeats 4000000 in
set_option maxRecDepth 100000 in
theorem xi_10 {p : Program} {l : Launch} {e : Env} {s : State} {m : MethodId} {args : Array Value} {below : List Frame} {meth : Method} {c : Code} {A : Nat → Prop} {D : va_G} {ty : Nat → ClassId} {L0 : List Nat} {ad0 : Nat → Nat} {g0 : Nat → va_E} {L : List Nat} {ad : Nat → Nat} {g : Nat → va_E} {H : Heap} {locs : List Loc} {ls : Array Slot} (hx : p.tables.exec = Jvm.exec) (hb : c.code = cX8_init) (hml : c.maxLocals = 2) (hrt : meth.sig.returnType = none) (hlocks : meth.locks = false) (hown : s.vm.findClass RX8 = some m.cls) (hts : ∀ w ∈ wsX8_init, w.before args s = true) (hin : meth.name = "<init>") (hB : m_B D ty A s L ad g H locs) (hl : lv_has ls 2 [(0, .ref (ad 0)), (1, .int 5)]) (m_0 : 0 ∈ L) (m_1 : 1 ∈ L) (m_2 : 2 ∈ L) (m_3 : 3 ∈ L) (m_4 : 4 ∈ L) (m_5 : 5 ∈ L) (m_6 : 6 ∈ L) (m_7 : 7 ∈ L) (m_8 : 8 ∈ L) (m_14 : 14 ∈ L) (m_9 : 9 ∈ L) (m_15 : 15 ∈ L) (m_10 : 10 ∈ L) (m_16 : 16 ∈ L) (m_11 : 11 ∈ L) (m_17 : 17 ∈ L) (m_12 : 12 ∈ L) (m_18 : 18 ∈ L) (h_0 : g 0 = .inr (8, [.ref (ad 1), .ref (ad 3), .ref (ad 6), .int 0, .ref (ad 7), .null, .null, .null, .int 0, .null, .int 0, .long 0])) (h_1 : g 1 = .inr (5, [.ref (ad 2), .int 0])) (h_2 : g 2 = .inl (ty 2, 40, .inl (fun _ => 0))) (h_3 : g 3 = .inr (4, [.ref (ad 4), .ref (ad 5)])) (h_4 : g 4 = .inl (ty 0, 12, .inl (fun _ => 0))) (h_5 : g 5 = .inl (ty 0, 12, .inl (fun _ => 0))) (h_6 : g 6 = .inl (ty 4, 8, .inr (.inr (.inr (.inr (fun _ => none)))))) (h_7 : g 7 = .inl (ty 6, 6, .inr (.inr (.inr (.inr (va_up (va_up (va_up (va_up (va_up (fun _ => none) 0 (some (ad 8))) 1 (some (ad 9))) 2 (some (ad 10))) 3 (some (ad 11))) 4 (some (ad 12)))))))) (h_8 : g 8 = .inr (5, [.ref (ad 14), .int 0])) (h_14 : g 14 = .inl (ty 2, 80, .inl (fun _ => 0))) (h_9 : g 9 = .inr (5, [.ref (ad 15), .int 0])) (h_15 : g 15 = .inl (ty 2, 80, .inl (fun _ => 0))) (h_10 : g 10 = .inr (5, [.ref (ad 16), .int 0])) (h_16 : g 16 = .inl (ty 2, 80, .inl (fun _ => 0))) (h_11 : g 11 = .inr (5, [.ref (ad 17), .int 0])) (h_17 : g 17 = .inl (ty 2, 80, .inl (fun _ => 0))) (h_12 : g 12 = .inr (5, [.ref (ad 18), .int 0])) (h_18 : g 18 = .inl (ty 2, 80, .inl (fun _ => 0))) (hnew : ∀ r ∈ ([13, 19, 20, 21, 22, 23, 24, 25, 26, 27, 28, 29] : List Nat), r ∉ L) (hF : ∀ x ∈ L0, x ∈ L ∧ ad0 x = ad x ∧ (x ≠ 0 → g x = g0 x)) (hO : ∀ x ∈ L, x ∈ L0 ∨ x < 30) (hN : 7 ∉ L0) : W p l e ({ frames := 2, cells := 29, slots := 1739, locals := 42 } : Room) s m args below meth c H locs 17 532 (MQ below (m_Q D A (xi_post ty L0 ad0 g0)) args s 29 1739 A) (F0 m 48 ls []) := by
  refine lv_iload_n hx hb dX8_init_48 rfl (lv_at hl 1 rfl) ?_
  refine lv_aload_n hx hb dX8_init_49 rfl (lv_at hl 0 rfl) ?_
  refine m_get (C := RX8) (T := TX8) (N := 12) (ci := 8) hx hb hts in_X8_init_X8 hown hB m_0 h_0 rfl 4 (by decide) (hts (.fieldLink RX8 31 "PaperRoom" "lastViews" "[LPaperRoom$Row;") (by decide +kernel)) (fun _ h9 => h9) rfl dX8_init_50 ?_
  refine m_alen hx hb hB m_7 6 h_7 rfl (v := nI 6) rfl dX8_init_53 ?_
  refine b_icmp_ge_f 78 hx hb dX8_init_54 (by decide) (by decide) ?_
  refine lv_aload_n hx hb dX8_init_57 rfl (lv_at hl 0 rfl) ?_
  refine m_get (C := RX8) (T := TX8) (N := 12) (ci := 8) hx hb hts in_X8_init_X8 hown hB m_0 h_0 rfl 4 (by decide) (hts (.fieldLink RX8 31 "PaperRoom" "lastViews" "[LPaperRoom$Row;") (by decide +kernel)) (fun _ h9 => h9) rfl dX8_init_58 ?_
  refine lv_iload_n hx hb dX8_init_61 rfl (lv_at hl 1 rfl) ?_
  refine n_new (C := RX5) (T := TX5) (N := 2) (ci := 5) (fs := [.null, .int 0]) hx hb hts in_X8_init_X5 tyX5 tyX5_ok hown (hts (.classLink RX8 9 RX5) (by decide +kernel)) (hts (.instantiable RX5 2) (by decide +kernel)) (hts (.initialized RX5) (by decide +kernel)) hB 13 (hnew 13 (by decide)) rfl (by decide +kernel) (Nat.le_of_ble_eq_true rfl) (Nat.le_of_ble_eq_true rfl) dX8_init_62 (fun ad_1 H had_1 hB => ?_)
  have e1_0 : ad 0 = ad_1 0 := had_1 0 m_0
  have e1_1 : ad 1 = ad_1 1 := had_1 1 m_1
  have e1_10 : ad 10 = ad_1 10 := had_1 10 m_10
  have e1_11 : ad 11 = ad_1 11 := had_1 11 m_11
  have e1_12 : ad 12 = ad_1 12 := had_1 12 m_12
  have e1_14 : ad 14 = ad_1 14 := had_1 14 m_14
  have e1_15 : ad 15 = ad_1 15 := had_1 15 m_15
  have e1_16 : ad 16 = ad_1 16 := had_1 16 m_16
  have e1_17 : ad 17 = ad_1 17 := had_1 17 m_17
  have e1_18 : ad 18 = ad_1 18 := had_1 18 m_18
  have e1_2 : ad 2 = ad_1 2 := had_1 2 m_2
  have e1_3 : ad 3 = ad_1 3 := had_1 3 m_3
  have e1_4 : ad 4 = ad_1 4 := had_1 4 m_4
  have e1_5 : ad 5 = ad_1 5 := had_1 5 m_5
  have e1_6 : ad 6 = ad_1 6 := had_1 6 m_6
  have e1_7 : ad 7 = ad_1 7 := had_1 7 m_7
  have e1_8 : ad 8 = ad_1 8 := had_1 8 m_8
  have e1_9 : ad 9 = ad_1 9 := had_1 9 m_9
  replace hl : lv_has ls 2 [(0, .ref (ad_1 0)), (1, .int 5)] := by rw [← e1_0]; exact hl
  have fa1_0 : g 0 = .inr (8, [.ref (ad_1 1), .ref (ad_1 3), .ref (ad_1 6), .int 0, .ref (ad_1 7), .null, .null, .null, .int 0, .null, .int 0, .long 0]) := by rw [← e1_1, ← e1_3, ← e1_6, ← e1_7]; exact h_0
  have fa1_1 : g 1 = .inr (5, [.ref (ad_1 2), .int 0]) := by rw [← e1_2]; exact h_1
  have fa1_3 : g 3 = .inr (4, [.ref (ad_1 4), .ref (ad_1 5)]) := by rw [← e1_4, ← e1_5]; exact h_3
  have fa1_7 : g 7 = .inl (ty 6, 6, .inr (.inr (.inr (.inr (va_up (va_up (va_up (va_up (va_up (fun _ => none) 0 (some (ad_1 8))) 1 (some (ad_1 9))) 2 (some (ad_1 10))) 3 (some (ad_1 11))) 4 (some (ad_1 12))))))) := by rw [← e1_10, ← e1_11, ← e1_12, ← e1_8, ← e1_9]; exact h_7
  have fa1_8 : g 8 = .inr (5, [.ref (ad_1 14), .int 0]) := by rw [← e1_14]; exact h_8
  have fa1_9 : g 9 = .inr (5, [.ref (ad_1 15), .int 0]) := by rw [← e1_15]; exact h_9
  have fa1_10 : g 10 = .inr (5, [.ref (ad_1 16), .int 0]) := by rw [← e1_16]; exact h_10
  have fa1_11 : g 11 = .inr (5, [.ref (ad_1 17), .int 0]) := by rw [← e1_17]; exact h_11
  have fa1_12 : g 12 = .inr (5, [.ref (ad_1 18), .int 0]) := by rw [← e1_18]; exact h_12
  replace hB : m_B D ty A s (L ++ [13]) ad_1 (va_up g 13 (.inr (5, [.null, .int 0]))) H locs := hB
  refine W.eq (g2 := F0 m 65 ls [.ref (ad_1 13), .int 5, .ref (ad_1 7)]) (by rw [e1_7]) ?_
  refine lv_dup hx hb dX8_init_65 rfl ?_
  refine lv_bipush (v := 80) hx hb dX8_init_66 (by decide) ?_
  refine m_callI (r := 13) (As := [.int 80]) (rest := [.ref (ad_1 13), .int 5, .ref (ad_1 7)]) (c_Row_init l D ty (L ++ [13]) ad_1 _ 13 19 80 (List.mem_append_right _ List.mem_cons_self) (va_up_self _ _ _) (nin_app (hnew 19 (by decide)) (by decide)) (by decide) (by decide)) ⟨hx, hb, hml, hown, hts⟩ (cwI 1 hts gX8_init_X5_init rfl rfl rfl (hts (.initialized RX5) (by decide +kernel)) (hts (.methodLink RX8 11 yX5_init) (by decide +kernel)) (hts (.instanceMethod yX5_init) (by decide +kernel)) rfl (by decide +kernel) ⟨Nat.le_of_ble_eq_true rfl, Nat.le_of_ble_eq_true rfl⟩) hB rfl hl.1 rfl (Nat.le_of_ble_eq_true rfl) dX8_init_68 ⟨Nat.le_of_ble_eq_true rfl, Nat.le_of_ble_eq_true rfl⟩ (fun v168 L168 ad_168 g168 H locs hp168 hB => ?_)
  obtain ⟨q1_168, q2_168, had_168, q4_168⟩ := hp168
  subst q2_168
  have e168_0 : ad_1 0 = ad_168 0 := had_168 0 (List.mem_append_left _ m_0)
  have e168_1 : ad_1 1 = ad_168 1 := had_168 1 (List.mem_append_left _ m_1)
  have e168_10 : ad_1 10 = ad_168 10 := had_168 10 (List.mem_append_left _ m_10)
  have e168_11 : ad_1 11 = ad_168 11 := had_168 11 (List.mem_append_left _ m_11)
  have e168_12 : ad_1 12 = ad_168 12 := had_168 12 (List.mem_append_left _ m_12)
  have e168_13 : ad_1 13 = ad_168 13 := had_168 13 (List.mem_append_right _ List.mem_cons_self)
  have e168_14 : ad_1 14 = ad_168 14 := had_168 14 (List.mem_append_left _ m_14)
  have e168_15 : ad_1 15 = ad_168 15 := had_168 15 (List.mem_append_left _ m_15)
  have e168_16 : ad_1 16 = ad_168 16 := had_168 16 (List.mem_append_left _ m_16)
  have e168_17 : ad_1 17 = ad_168 17 := had_168 17 (List.mem_append_left _ m_17)
  have e168_18 : ad_1 18 = ad_168 18 := had_168 18 (List.mem_append_left _ m_18)
  have e168_2 : ad_1 2 = ad_168 2 := had_168 2 (List.mem_append_left _ m_2)
  have e168_3 : ad_1 3 = ad_168 3 := had_168 3 (List.mem_append_left _ m_3)
  have e168_4 : ad_1 4 = ad_168 4 := had_168 4 (List.mem_append_left _ m_4)
  have e168_5 : ad_1 5 = ad_168 5 := had_168 5 (List.mem_append_left _ m_5)
  have e168_6 : ad_1 6 = ad_168 6 := had_168 6 (List.mem_append_left _ m_6)
  have e168_7 : ad_1 7 = ad_168 7 := had_168 7 (List.mem_append_left _ m_7)
  have e168_8 : ad_1 8 = ad_168 8 := had_168 8 (List.mem_append_left _ m_8)
  have e168_9 : ad_1 9 = ad_168 9 := had_168 9 (List.mem_append_left _ m_9)
  replace hl : lv_has ls 2 [(0, .ref (ad_168 0)), (1, .int 5)] := by rw [← e168_0]; exact hl
  have fa168_0 : (va_up g 13 (.inr (5, [.null, .int 0]))) 0 = .inr (8, [.ref (ad_168 1), .ref (ad_168 3), .ref (ad_168 6), .int 0, .ref (ad_168 7), .null, .null, .null, .int 0, .null, .int 0, .long 0]) := by rw [← e168_1, ← e168_3, ← e168_6, ← e168_7]; exact ((va_up_ne _ _ (by decide)).trans fa1_0)
  have fa168_1 : (va_up g 13 (.inr (5, [.null, .int 0]))) 1 = .inr (5, [.ref (ad_168 2), .int 0]) := by rw [← e168_2]; exact ((va_up_ne _ _ (by decide)).trans fa1_1)
  have fa168_3 : (va_up g 13 (.inr (5, [.null, .int 0]))) 3 = .inr (4, [.ref (ad_168 4), .ref (ad_168 5)]) := by rw [← e168_4, ← e168_5]; exact ((va_up_ne _ _ (by decide)).trans fa1_3)
  have fa168_7 : (va_up g 13 (.inr (5, [.null, .int 0]))) 7 = .inl (ty 6, 6, .inr (.inr (.inr (.inr (va_up (va_up (va_up (va_up (va_up (fun _ => none) 0 (some (ad_168 8))) 1 (some (ad_168 9))) 2 (some (ad_168 10))) 3 (some (ad_168 11))) 4 (some (ad_168 12))))))) := by rw [← e168_10, ← e168_11, ← e168_12, ← e168_8, ← e168_9]; exact ((va_up_ne _ _ (by decide)).trans fa1_7)
  have fa168_8 : (va_up g 13 (.inr (5, [.null, .int 0]))) 8 = .inr (5, [.ref (ad_168 14), .int 0]) := by rw [← e168_14]; exact ((va_up_ne _ _ (by decide)).trans fa1_8)
  have fa168_9 : (va_up g 13 (.inr (5, [.null, .int 0]))) 9 = .inr (5, [.ref (ad_168 15), .int 0]) := by rw [← e168_15]; exact ((va_up_ne _ _ (by decide)).trans fa1_9)
  have fa168_10 : (va_up g 13 (.inr (5, [.null, .int 0]))) 10 = .inr (5, [.ref (ad_168 16), .int 0]) := by rw [← e168_16]; exact ((va_up_ne _ _ (by decide)).trans fa1_10)
  have fa168_11 : (va_up g 13 (.inr (5, [.null, .int 0]))) 11 = .inr (5, [.ref (ad_168 17), .int 0]) := by rw [← e168_17]; exact ((va_up_ne _ _ (by decide)).trans fa1_11)
  have fa168_12 : (va_up g 13 (.inr (5, [.null, .int 0]))) 12 = .inr (5, [.ref (ad_168 18), .int 0]) := by rw [← e168_18]; exact ((va_up_ne _ _ (by decide)).trans fa1_12)
  replace hB : m_B D ty A s ((L ++ [13]) ++ [19]) ad_168 (va_up (va_up (va_up g 13 (.inr (5, [.null, .int 0]))) 19 (.inl (ty 2, 80, .inl (fun _ => 0)))) 13 (.inr (5, [.ref (ad_168 19), .int 0]))) H locs := by rw [q4_168] at hB; exact hB
  refine W.eq (g2 := F0 m 71 ls [.ref (ad_168 13), .int 5, .ref (ad_168 7)]) (by rw [q1_168]; (try rw [e168_13]); (try rw [e168_7]); rfl) ?_
  refine n_aast hx hb hB (List.mem_append_left _ (List.mem_append_left _ m_7)) 6 ((va_up_ne _ _ (by decide)).trans ((va_up_ne _ _ (by decide)).trans fa168_7)) rfl (List.mem_append_left _ (List.mem_append_right _ List.mem_cons_self)) (va_up_self _ _ _) rfl (fun _ _ h1 h2 => m_asg_self h1 h2) 5 rfl (by omega) (by omega) dX8_init_71 (fun H locs hB => ?_)
  replace hB : m_B D ty A s ((L ++ [13]) ++ [19]) ad_168 (va_up (va_up (va_up (va_up g 13 (.inr (5, [.null, .int 0]))) 19 (.inl (ty 2, 80, .inl (fun _ => 0)))) 13 (.inr (5, [.ref (ad_168 19), .int 0]))) 7 (.inl (ty 6, 6, .inr (.inr (.inr (.inr (va_up (va_up (va_up (va_up (va_up (va_up (fun _ => none) 0 (some (ad_168 8))) 1 (some (ad_168 9))) 2 (some (ad_168 10))) 3 (some (ad_168 11))) 4 (some (ad_168 12))) 5 (some (ad_168 13))))))))) H locs := hB
  refine lv_iinc (v := 6) (lv' := [(1, .int 6), (0, .ref (ad_168 0))]) hx hb dX8_init_72 hl (k := 1) rfl (by decide) (by decide) rfl (fun ls hl => ?_)
  refine lv_goto (tgt := 48) hx hb dX8_init_75 (by decide) ?_
  exact xi_11 hx hb hml hrt hlocks hown hts hin hB (lv_sub hl [1, 0] rfl) (List.mem_append_left _ (List.mem_append_left _ m_0)) (List.mem_append_left _ (List.mem_append_left _ m_1)) (List.mem_append_left _ (List.mem_append_left _ m_2)) (List.mem_append_left _ (List.mem_append_left _ m_3)) (List.mem_append_left _ (List.mem_append_left _ m_4)) (List.mem_append_left _ (List.mem_append_left _ m_5)) (List.mem_append_left _ (List.mem_append_left _ m_6)) (List.mem_append_left _ (List.mem_append_left _ m_7)) (List.mem_append_left _ (List.mem_append_left _ m_8)) (List.mem_append_left _ (List.mem_append_left _ m_14)) (List.mem_append_left _ (List.mem_append_left _ m_9)) (List.mem_append_left _ (List.mem_append_left _ m_15)) (List.mem_append_left _ (List.mem_append_left _ m_10)) (List.mem_append_left _ (List.mem_append_left _ m_16)) (List.mem_append_left _ (List.mem_append_left _ m_11)) (List.mem_append_left _ (List.mem_append_left _ m_17)) (List.mem_append_left _ (List.mem_append_left _ m_12)) (List.mem_append_left _ (List.mem_append_left _ m_18)) (List.mem_append_left _ (List.mem_append_right _ List.mem_cons_self)) (List.mem_append_right _ List.mem_cons_self) ((va_up_ne _ _ (by decide)).trans ((va_up_ne _ _ (by decide)).trans ((va_up_ne _ _ (by decide)).trans fa168_0))) ((va_up_ne _ _ (by decide)).trans ((va_up_ne _ _ (by decide)).trans ((va_up_ne _ _ (by decide)).trans fa168_1))) ((va_up_ne _ _ (by decide)).trans ((va_up_ne _ _ (by decide)).trans ((va_up_ne _ _ (by decide)).trans ((va_up_ne _ _ (by decide)).trans h_2)))) ((va_up_ne _ _ (by decide)).trans ((va_up_ne _ _ (by decide)).trans ((va_up_ne _ _ (by decide)).trans fa168_3))) ((va_up_ne _ _ (by decide)).trans ((va_up_ne _ _ (by decide)).trans ((va_up_ne _ _ (by decide)).trans ((va_up_ne _ _ (by decide)).trans h_4)))) ((va_up_ne _ _ (by decide)).trans ((va_up_ne _ _ (by decide)).trans ((va_up_ne _ _ (by decide)).trans ((va_up_ne _ _ (by decide)).trans h_5)))) ((va_up_ne _ _ (by decide)).trans ((va_up_ne _ _ (by decide)).trans ((va_up_ne _ _ (by decide)).trans ((va_up_ne _ _ (by decide)).trans h_6)))) (va_up_self _ _ _) ((va_up_ne _ _ (by decide)).trans ((va_up_ne _ _ (by decide)).trans ((va_up_ne _ _ (by decide)).trans fa168_8))) ((va_up_ne _ _ (by decide)).trans ((va_up_ne _ _ (by decide)).trans ((va_up_ne _ _ (by decide)).trans ((va_up_ne _ _ (by decide)).trans h_14)))) ((va_up_ne _ _ (by decide)).trans ((va_up_ne _ _ (by decide)).trans ((va_up_ne _ _ (by decide)).trans fa168_9))) ((va_up_ne _ _ (by decide)).trans ((va_up_ne _ _ (by decide)).trans ((va_up_ne _ _ (by decide)).trans ((va_up_ne _ _ (by decide)).trans h_15)))) ((va_up_ne _ _ (by decide)).trans ((va_up_ne _ _ (by decide)).trans ((va_up_ne _ _ (by decide)).trans fa168_10))) ((va_up_ne _ _ (by decide)).trans ((va_up_ne _ _ (by decide)).trans ((va_up_ne _ _ (by decide)).trans ((va_up_ne _ _ (by decide)).trans h_16)))) ((va_up_ne _ _ (by decide)).trans ((va_up_ne _ _ (by decide)).trans ((va_up_ne _ _ (by decide)).trans fa168_11))) ((va_up_ne _ _ (by decide)).trans ((va_up_ne _ _ (by decide)).trans ((va_up_ne _ _ (by decide)).trans ((va_up_ne _ _ (by decide)).trans h_17)))) ((va_up_ne _ _ (by decide)).trans ((va_up_ne _ _ (by decide)).trans ((va_up_ne _ _ (by decide)).trans fa168_12))) ((va_up_ne _ _ (by decide)).trans ((va_up_ne _ _ (by decide)).trans ((va_up_ne _ _ (by decide)).trans ((va_up_ne _ _ (by decide)).trans h_18)))) ((va_up_ne _ _ (by decide)).trans (va_up_self _ _ _)) ((va_up_ne _ _ (by decide)).trans ((va_up_ne _ _ (by decide)).trans (va_up_self _ _ _))) (fun r hr => by
    have h1 := (by decide : ∀ r ∈ ([20, 21, 22, 23, 24, 25, 26, 27, 28, 29] : List Nat), r ∈ ([13, 19, 20, 21, 22, 23, 24, 25, 26, 27, 28, 29] : List Nat)) r hr
    have h2 := (by decide : ∀ r ∈ ([20, 21, 22, 23, 24, 25, 26, 27, 28, 29] : List Nat), r ≠ 13 ∧ r ≠ 19) r hr
    exact (nin_app (nin_app (hnew r h1) h2.1) h2.2)) (fun x hx0 => by
    have hx := (hF x hx0).1
    have hn_7 : x ≠ 7 := fun e9 => hN (by rw [← e9]; exact hx0)
    refine ⟨(List.mem_append_left _ (List.mem_append_left _ hx)), (hF x hx0).2.1.trans (((((rfl).trans (had_1 x hx))).trans (had_168 x (List.mem_append_left _ hx)))), fun hn_0 => ?_⟩
    exact (((va_up_ne _ _ hn_7).trans ((va_up_ne _ _ (fun e9 => (hnew 13 (by decide)) (by rw [← e9]; exact hx))).trans ((va_up_ne _ _ (fun e9 => (hnew 19 (by decide)) (by rw [← e9]; exact hx))).trans ((va_up_ne _ _ (fun e9 => (hnew 13 (by decide)) (by rw [← e9]; exact hx))).trans rfl))))).trans ((hF x hx0).2.2 hn_0)) (all_app (all_app hO (Or.inr (by decide))) (Or.inr (by decide))) hN
set_option maxHeartbeats 4000000 in
set_option maxRecDepth 100000 in
theorem xi_9 {p : Program} {l : Launch} {e : Env} {s : State} {m : MethodId} {args : Array Value} {below : List Frame} {meth : Method} {c : Code} {A : Nat → Prop} {D : va_G} {ty : Nat → ClassId} {L0 : List Nat} {ad0 : Nat → Nat} {g0 : Nat → va_E} {L : List Nat} {ad : Nat → Nat} {g : Nat → va_E} {H : Heap} {locs : List Loc} {ls : Array Slot} (hx : p.tables.exec = Jvm.exec) (hb : c.code = cX8_init) (hml : c.maxLocals = 2) (hrt : meth.sig.returnType = none) (hlocks : meth.locks = false) (hown : s.vm.findClass RX8 = some m.cls) (hts : ∀ w ∈ wsX8_init, w.before args s = true) (hin : meth.name = "<init>") (hB : m_B D ty A s L ad g H locs) (hl : lv_has ls 2 [(0, .ref (ad 0)), (1, .int 4)]) (m_0 : 0 ∈ L) (m_1 : 1 ∈ L) (m_2 : 2 ∈ L) (m_3 : 3 ∈ L) (m_4 : 4 ∈ L) (m_5 : 5 ∈ L) (m_6 : 6 ∈ L) (m_7 : 7 ∈ L) (m_8 : 8 ∈ L) (m_14 : 14 ∈ L) (m_9 : 9 ∈ L) (m_15 : 15 ∈ L) (m_10 : 10 ∈ L) (m_16 : 16 ∈ L) (m_11 : 11 ∈ L) (m_17 : 17 ∈ L) (h_0 : g 0 = .inr (8, [.ref (ad 1), .ref (ad 3), .ref (ad 6), .int 0, .ref (ad 7), .null, .null, .null, .int 0, .null, .int 0, .long 0])) (h_1 : g 1 = .inr (5, [.ref (ad 2), .int 0])) (h_2 : g 2 = .inl (ty 2, 40, .inl (fun _ => 0))) (h_3 : g 3 = .inr (4, [.ref (ad 4), .ref (ad 5)])) (h_4 : g 4 = .inl (ty 0, 12, .inl (fun _ => 0))) (h_5 : g 5 = .inl (ty 0, 12, .inl (fun _ => 0))) (h_6 : g 6 = .inl (ty 4, 8, .inr (.inr (.inr (.inr (fun _ => none)))))) (h_7 : g 7 = .inl (ty 6, 6, .inr (.inr (.inr (.inr (va_up (va_up (va_up (va_up (fun _ => none) 0 (some (ad 8))) 1 (some (ad 9))) 2 (some (ad 10))) 3 (some (ad 11)))))))) (h_8 : g 8 = .inr (5, [.ref (ad 14), .int 0])) (h_14 : g 14 = .inl (ty 2, 80, .inl (fun _ => 0))) (h_9 : g 9 = .inr (5, [.ref (ad 15), .int 0])) (h_15 : g 15 = .inl (ty 2, 80, .inl (fun _ => 0))) (h_10 : g 10 = .inr (5, [.ref (ad 16), .int 0])) (h_16 : g 16 = .inl (ty 2, 80, .inl (fun _ => 0))) (h_11 : g 11 = .inr (5, [.ref (ad 17), .int 0])) (h_17 : g 17 = .inl (ty 2, 80, .inl (fun _ => 0))) (hnew : ∀ r ∈ ([12, 18, 13, 19, 20, 21, 22, 23, 24, 25, 26, 27, 28, 29] : List Nat), r ∉ L) (hF : ∀ x ∈ L0, x ∈ L ∧ ad0 x = ad x ∧ (x ≠ 0 → g x = g0 x)) (hO : ∀ x ∈ L, x ∈ L0 ∨ x < 30) (hN : 7 ∉ L0) : W p l e ({ frames := 2, cells := 29, slots := 1739, locals := 42 } : Room) s m args below meth c H locs 15 450 (MQ below (m_Q D A (xi_post ty L0 ad0 g0)) args s 29 1739 A) (F0 m 48 ls []) := by
  refine lv_iload_n hx hb dX8_init_48 rfl (lv_at hl 1 rfl) ?_
  refine lv_aload_n hx hb dX8_init_49 rfl (lv_at hl 0 rfl) ?_
  refine m_get (C := RX8) (T := TX8) (N := 12) (ci := 8) hx hb hts in_X8_init_X8 hown hB m_0 h_0 rfl 4 (by decide) (hts (.fieldLink RX8 31 "PaperRoom" "lastViews" "[LPaperRoom$Row;") (by decide +kernel)) (fun _ h9 => h9) rfl dX8_init_50 ?_
  refine m_alen hx hb hB m_7 6 h_7 rfl (v := nI 6) rfl dX8_init_53 ?_
  refine b_icmp_ge_f 78 hx hb dX8_init_54 (by decide) (by decide) ?_
  refine lv_aload_n hx hb dX8_init_57 rfl (lv_at hl 0 rfl) ?_
  refine m_get (C := RX8) (T := TX8) (N := 12) (ci := 8) hx hb hts in_X8_init_X8 hown hB m_0 h_0 rfl 4 (by decide) (hts (.fieldLink RX8 31 "PaperRoom" "lastViews" "[LPaperRoom$Row;") (by decide +kernel)) (fun _ h9 => h9) rfl dX8_init_58 ?_
  refine lv_iload_n hx hb dX8_init_61 rfl (lv_at hl 1 rfl) ?_
  refine n_new (C := RX5) (T := TX5) (N := 2) (ci := 5) (fs := [.null, .int 0]) hx hb hts in_X8_init_X5 tyX5 tyX5_ok hown (hts (.classLink RX8 9 RX5) (by decide +kernel)) (hts (.instantiable RX5 2) (by decide +kernel)) (hts (.initialized RX5) (by decide +kernel)) hB 12 (hnew 12 (by decide)) rfl (by decide +kernel) (Nat.le_of_ble_eq_true rfl) (Nat.le_of_ble_eq_true rfl) dX8_init_62 (fun ad_1 H had_1 hB => ?_)
  have e1_0 : ad 0 = ad_1 0 := had_1 0 m_0
  have e1_1 : ad 1 = ad_1 1 := had_1 1 m_1
  have e1_10 : ad 10 = ad_1 10 := had_1 10 m_10
  have e1_11 : ad 11 = ad_1 11 := had_1 11 m_11
  have e1_14 : ad 14 = ad_1 14 := had_1 14 m_14
  have e1_15 : ad 15 = ad_1 15 := had_1 15 m_15
  have e1_16 : ad 16 = ad_1 16 := had_1 16 m_16
  have e1_17 : ad 17 = ad_1 17 := had_1 17 m_17
  have e1_2 : ad 2 = ad_1 2 := had_1 2 m_2
  have e1_3 : ad 3 = ad_1 3 := had_1 3 m_3
  have e1_4 : ad 4 = ad_1 4 := had_1 4 m_4
  have e1_5 : ad 5 = ad_1 5 := had_1 5 m_5
  have e1_6 : ad 6 = ad_1 6 := had_1 6 m_6
  have e1_7 : ad 7 = ad_1 7 := had_1 7 m_7
  have e1_8 : ad 8 = ad_1 8 := had_1 8 m_8
  have e1_9 : ad 9 = ad_1 9 := had_1 9 m_9
  replace hl : lv_has ls 2 [(0, .ref (ad_1 0)), (1, .int 4)] := by rw [← e1_0]; exact hl
  have fa1_0 : g 0 = .inr (8, [.ref (ad_1 1), .ref (ad_1 3), .ref (ad_1 6), .int 0, .ref (ad_1 7), .null, .null, .null, .int 0, .null, .int 0, .long 0]) := by rw [← e1_1, ← e1_3, ← e1_6, ← e1_7]; exact h_0
  have fa1_1 : g 1 = .inr (5, [.ref (ad_1 2), .int 0]) := by rw [← e1_2]; exact h_1
  have fa1_3 : g 3 = .inr (4, [.ref (ad_1 4), .ref (ad_1 5)]) := by rw [← e1_4, ← e1_5]; exact h_3
  have fa1_7 : g 7 = .inl (ty 6, 6, .inr (.inr (.inr (.inr (va_up (va_up (va_up (va_up (fun _ => none) 0 (some (ad_1 8))) 1 (some (ad_1 9))) 2 (some (ad_1 10))) 3 (some (ad_1 11))))))) := by rw [← e1_10, ← e1_11, ← e1_8, ← e1_9]; exact h_7
  have fa1_8 : g 8 = .inr (5, [.ref (ad_1 14), .int 0]) := by rw [← e1_14]; exact h_8
  have fa1_9 : g 9 = .inr (5, [.ref (ad_1 15), .int 0]) := by rw [← e1_15]; exact h_9
  have fa1_10 : g 10 = .inr (5, [.ref (ad_1 16), .int 0]) := by rw [← e1_16]; exact h_10
  have fa1_11 : g 11 = .inr (5, [.ref (ad_1 17), .int 0]) := by rw [← e1_17]; exact h_11
  replace hB : m_B D ty A s (L ++ [12]) ad_1 (va_up g 12 (.inr (5, [.null, .int 0]))) H locs := hB
  refine W.eq (g2 := F0 m 65 ls [.ref (ad_1 12), .int 4, .ref (ad_1 7)]) (by rw [e1_7]) ?_
  refine lv_dup hx hb dX8_init_65 rfl ?_
  refine lv_bipush (v := 80) hx hb dX8_init_66 (by decide) ?_
  refine m_callI (r := 12) (As := [.int 80]) (rest := [.ref (ad_1 12), .int 4, .ref (ad_1 7)]) (c_Row_init l D ty (L ++ [12]) ad_1 _ 12 18 80 (List.mem_append_right _ List.mem_cons_self) (va_up_self _ _ _) (nin_app (hnew 18 (by decide)) (by decide)) (by decide) (by decide)) ⟨hx, hb, hml, hown, hts⟩ (cwI 1 hts gX8_init_X5_init rfl rfl rfl (hts (.initialized RX5) (by decide +kernel)) (hts (.methodLink RX8 11 yX5_init) (by decide +kernel)) (hts (.instanceMethod yX5_init) (by decide +kernel)) rfl (by decide +kernel) ⟨Nat.le_of_ble_eq_true rfl, Nat.le_of_ble_eq_true rfl⟩) hB rfl hl.1 rfl (Nat.le_of_ble_eq_true rfl) dX8_init_68 ⟨Nat.le_of_ble_eq_true rfl, Nat.le_of_ble_eq_true rfl⟩ (fun v168 L168 ad_168 g168 H locs hp168 hB => ?_)
  obtain ⟨q1_168, q2_168, had_168, q4_168⟩ := hp168
  subst q2_168
  have e168_0 : ad_1 0 = ad_168 0 := had_168 0 (List.mem_append_left _ m_0)
  have e168_1 : ad_1 1 = ad_168 1 := had_168 1 (List.mem_append_left _ m_1)
  have e168_10 : ad_1 10 = ad_168 10 := had_168 10 (List.mem_append_left _ m_10)
  have e168_11 : ad_1 11 = ad_168 11 := had_168 11 (List.mem_append_left _ m_11)
  have e168_12 : ad_1 12 = ad_168 12 := had_168 12 (List.mem_append_right _ List.mem_cons_self)
  have e168_14 : ad_1 14 = ad_168 14 := had_168 14 (List.mem_append_left _ m_14)
  have e168_15 : ad_1 15 = ad_168 15 := had_168 15 (List.mem_append_left _ m_15)
  have e168_16 : ad_1 16 = ad_168 16 := had_168 16 (List.mem_append_left _ m_16)
  have e168_17 : ad_1 17 = ad_168 17 := had_168 17 (List.mem_append_left _ m_17)
  have e168_2 : ad_1 2 = ad_168 2 := had_168 2 (List.mem_append_left _ m_2)
  have e168_3 : ad_1 3 = ad_168 3 := had_168 3 (List.mem_append_left _ m_3)
  have e168_4 : ad_1 4 = ad_168 4 := had_168 4 (List.mem_append_left _ m_4)
  have e168_5 : ad_1 5 = ad_168 5 := had_168 5 (List.mem_append_left _ m_5)
  have e168_6 : ad_1 6 = ad_168 6 := had_168 6 (List.mem_append_left _ m_6)
  have e168_7 : ad_1 7 = ad_168 7 := had_168 7 (List.mem_append_left _ m_7)
  have e168_8 : ad_1 8 = ad_168 8 := had_168 8 (List.mem_append_left _ m_8)
  have e168_9 : ad_1 9 = ad_168 9 := had_168 9 (List.mem_append_left _ m_9)
  replace hl : lv_has ls 2 [(0, .ref (ad_168 0)), (1, .int 4)] := by rw [← e168_0]; exact hl
  have fa168_0 : (va_up g 12 (.inr (5, [.null, .int 0]))) 0 = .inr (8, [.ref (ad_168 1), .ref (ad_168 3), .ref (ad_168 6), .int 0, .ref (ad_168 7), .null, .null, .null, .int 0, .null, .int 0, .long 0]) := by rw [← e168_1, ← e168_3, ← e168_6, ← e168_7]; exact ((va_up_ne _ _ (by decide)).trans fa1_0)
  have fa168_1 : (va_up g 12 (.inr (5, [.null, .int 0]))) 1 = .inr (5, [.ref (ad_168 2), .int 0]) := by rw [← e168_2]; exact ((va_up_ne _ _ (by decide)).trans fa1_1)
  have fa168_3 : (va_up g 12 (.inr (5, [.null, .int 0]))) 3 = .inr (4, [.ref (ad_168 4), .ref (ad_168 5)]) := by rw [← e168_4, ← e168_5]; exact ((va_up_ne _ _ (by decide)).trans fa1_3)
  have fa168_7 : (va_up g 12 (.inr (5, [.null, .int 0]))) 7 = .inl (ty 6, 6, .inr (.inr (.inr (.inr (va_up (va_up (va_up (va_up (fun _ => none) 0 (some (ad_168 8))) 1 (some (ad_168 9))) 2 (some (ad_168 10))) 3 (some (ad_168 11))))))) := by rw [← e168_10, ← e168_11, ← e168_8, ← e168_9]; exact ((va_up_ne _ _ (by decide)).trans fa1_7)
  have fa168_8 : (va_up g 12 (.inr (5, [.null, .int 0]))) 8 = .inr (5, [.ref (ad_168 14), .int 0]) := by rw [← e168_14]; exact ((va_up_ne _ _ (by decide)).trans fa1_8)
  have fa168_9 : (va_up g 12 (.inr (5, [.null, .int 0]))) 9 = .inr (5, [.ref (ad_168 15), .int 0]) := by rw [← e168_15]; exact ((va_up_ne _ _ (by decide)).trans fa1_9)
  have fa168_10 : (va_up g 12 (.inr (5, [.null, .int 0]))) 10 = .inr (5, [.ref (ad_168 16), .int 0]) := by rw [← e168_16]; exact ((va_up_ne _ _ (by decide)).trans fa1_10)
  have fa168_11 : (va_up g 12 (.inr (5, [.null, .int 0]))) 11 = .inr (5, [.ref (ad_168 17), .int 0]) := by rw [← e168_17]; exact ((va_up_ne _ _ (by decide)).trans fa1_11)
  replace hB : m_B D ty A s ((L ++ [12]) ++ [18]) ad_168 (va_up (va_up (va_up g 12 (.inr (5, [.null, .int 0]))) 18 (.inl (ty 2, 80, .inl (fun _ => 0)))) 12 (.inr (5, [.ref (ad_168 18), .int 0]))) H locs := by rw [q4_168] at hB; exact hB
  refine W.eq (g2 := F0 m 71 ls [.ref (ad_168 12), .int 4, .ref (ad_168 7)]) (by rw [q1_168]; (try rw [e168_12]); (try rw [e168_7]); rfl) ?_
  refine n_aast hx hb hB (List.mem_append_left _ (List.mem_append_left _ m_7)) 6 ((va_up_ne _ _ (by decide)).trans ((va_up_ne _ _ (by decide)).trans fa168_7)) rfl (List.mem_append_left _ (List.mem_append_right _ List.mem_cons_self)) (va_up_self _ _ _) rfl (fun _ _ h1 h2 => m_asg_self h1 h2) 4 rfl (by omega) (by omega) dX8_init_71 (fun H locs hB => ?_)
  replace hB : m_B D ty A s ((L ++ [12]) ++ [18]) ad_168 (va_up (va_up (va_up (va_up g 12 (.inr (5, [.null, .int 0]))) 18 (.inl (ty 2, 80, .inl (fun _ => 0)))) 12 (.inr (5, [.ref (ad_168 18), .int 0]))) 7 (.inl (ty 6, 6, .inr (.inr (.inr (.inr (va_up (va_up (va_up (va_up (va_up (fun _ => none) 0 (some (ad_168 8))) 1 (some (ad_168 9))) 2 (some (ad_168 10))) 3 (some (ad_168 11))) 4 (some (ad_168 12))))))))) H locs := hB
  refine lv_iinc (v := 5) (lv' := [(1, .int 5), (0, .ref (ad_168 0))]) hx hb dX8_init_72 hl (k := 1) rfl (by decide) (by decide) rfl (fun ls hl => ?_)
  refine lv_goto (tgt := 48) hx hb dX8_init_75 (by decide) ?_
  exact xi_10 hx hb hml hrt hlocks hown hts hin hB (lv_sub hl [1, 0] rfl) (List.mem_append_left _ (List.mem_append_left _ m_0)) (List.mem_append_left _ (List.mem_append_left _ m_1)) (List.mem_append_left _ (List.mem_append_left _ m_2)) (List.mem_append_left _ (List.mem_append_left _ m_3)) (List.mem_append_left _ (List.mem_append_left _ m_4)) (List.mem_append_left _ (List.mem_append_left _ m_5)) (List.mem_append_left _ (List.mem_append_left _ m_6)) (List.mem_append_left _ (List.mem_append_left _ m_7)) (List.mem_append_left _ (List.mem_append_left _ m_8)) (List.mem_append_left _ (List.mem_append_left _ m_14)) (List.mem_append_left _ (List.mem_append_left _ m_9)) (List.mem_append_left _ (List.mem_append_left _ m_15)) (List.mem_append_left _ (List.mem_append_left _ m_10)) (List.mem_append_left _ (List.mem_append_left _ m_16)) (List.mem_append_left _ (List.mem_append_left _ m_11)) (List.mem_append_left _ (List.mem_append_left _ m_17)) (List.mem_append_left _ (List.mem_append_right _ List.mem_cons_self)) (List.mem_append_right _ List.mem_cons_self) ((va_up_ne _ _ (by decide)).trans ((va_up_ne _ _ (by decide)).trans ((va_up_ne _ _ (by decide)).trans fa168_0))) ((va_up_ne _ _ (by decide)).trans ((va_up_ne _ _ (by decide)).trans ((va_up_ne _ _ (by decide)).trans fa168_1))) ((va_up_ne _ _ (by decide)).trans ((va_up_ne _ _ (by decide)).trans ((va_up_ne _ _ (by decide)).trans ((va_up_ne _ _ (by decide)).trans h_2)))) ((va_up_ne _ _ (by decide)).trans ((va_up_ne _ _ (by decide)).trans ((va_up_ne _ _ (by decide)).trans fa168_3))) ((va_up_ne _ _ (by decide)).trans ((va_up_ne _ _ (by decide)).trans ((va_up_ne _ _ (by decide)).trans ((va_up_ne _ _ (by decide)).trans h_4)))) ((va_up_ne _ _ (by decide)).trans ((va_up_ne _ _ (by decide)).trans ((va_up_ne _ _ (by decide)).trans ((va_up_ne _ _ (by decide)).trans h_5)))) ((va_up_ne _ _ (by decide)).trans ((va_up_ne _ _ (by decide)).trans ((va_up_ne _ _ (by decide)).trans ((va_up_ne _ _ (by decide)).trans h_6)))) (va_up_self _ _ _) ((va_up_ne _ _ (by decide)).trans ((va_up_ne _ _ (by decide)).trans ((va_up_ne _ _ (by decide)).trans fa168_8))) ((va_up_ne _ _ (by decide)).trans ((va_up_ne _ _ (by decide)).trans ((va_up_ne _ _ (by decide)).trans ((va_up_ne _ _ (by decide)).trans h_14)))) ((va_up_ne _ _ (by decide)).trans ((va_up_ne _ _ (by decide)).trans ((va_up_ne _ _ (by decide)).trans fa168_9))) ((va_up_ne _ _ (by decide)).trans ((va_up_ne _ _ (by decide)).trans ((va_up_ne _ _ (by decide)).trans ((va_up_ne _ _ (by decide)).trans h_15)))) ((va_up_ne _ _ (by decide)).trans ((va_up_ne _ _ (by decide)).trans ((va_up_ne _ _ (by decide)).trans fa168_10))) ((va_up_ne _ _ (by decide)).trans ((va_up_ne _ _ (by decide)).trans ((va_up_ne _ _ (by decide)).trans ((va_up_ne _ _ (by decide)).trans h_16)))) ((va_up_ne _ _ (by decide)).trans ((va_up_ne _ _ (by decide)).trans ((va_up_ne _ _ (by decide)).trans fa168_11))) ((va_up_ne _ _ (by decide)).trans ((va_up_ne _ _ (by decide)).trans ((va_up_ne _ _ (by decide)).trans ((va_up_ne _ _ (by decide)).trans h_17)))) ((va_up_ne _ _ (by decide)).trans (va_up_self _ _ _)) ((va_up_ne _ _ (by decide)).trans ((va_up_ne _ _ (by decide)).trans (va_up_self _ _ _))) (fun r hr => by
    have h1 := (by decide : ∀ r ∈ ([13, 19, 20, 21, 22, 23, 24, 25, 26, 27, 28, 29] : List Nat), r ∈ ([12, 18, 13, 19, 20, 21, 22, 23, 24, 25, 26, 27, 28, 29] : List Nat)) r hr
    have h2 := (by decide : ∀ r ∈ ([13, 19, 20, 21, 22, 23, 24, 25, 26, 27, 28, 29] : List Nat), r ≠ 12 ∧ r ≠ 18) r hr
    exact (nin_app (nin_app (hnew r h1) h2.1) h2.2)) (fun x hx0 => by
    have hx := (hF x hx0).1
    have hn_7 : x ≠ 7 := fun e9 => hN (by rw [← e9]; exact hx0)
    refine ⟨(List.mem_append_left _ (List.mem_append_left _ hx)), (hF x hx0).2.1.trans (((((rfl).trans (had_1 x hx))).trans (had_168 x (List.mem_append_left _ hx)))), fun hn_0 => ?_⟩
    exact (((va_up_ne _ _ hn_7).trans ((va_up_ne _ _ (fun e9 => (hnew 12 (by decide)) (by rw [← e9]; exact hx))).trans ((va_up_ne _ _ (fun e9 => (hnew 18 (by decide)) (by rw [← e9]; exact hx))).trans ((va_up_ne _ _ (fun e9 => (hnew 12 (by decide)) (by rw [← e9]; exact hx))).trans rfl))))).trans ((hF x hx0).2.2 hn_0)) (all_app (all_app hO (Or.inr (by decide))) (Or.inr (by decide))) hN
set_option maxHeartbeats 4000000 in
set_option maxRecDepth 100000 in
theorem xi_8 {p : Program} {l : Launch} {e : Env} {s : State} {m : MethodId} {args : Array Value} {below : List Frame} {meth : Method} {c : Code} {A : Nat → Prop} {D : va_G} {ty : Nat → ClassId} {L0 : List Nat} {ad0 : Nat → Nat} {g0 : Nat → va_E} {L : List Nat} {ad : Nat → Nat} {g : Nat → va_E} {H : Heap} {locs : List Loc} {ls : Array Slot} (hx : p.tables.exec = Jvm.exec) (hb : c.code = cX8_init) (hml : c.maxLocals = 2) (hrt : meth.sig.returnType = none) (hlocks : meth.locks = false) (hown : s.vm.findClass RX8 = some m.cls) (hts : ∀ w ∈ wsX8_init, w.before args s = true) (hin : meth.name = "<init>") (hB : m_B D ty A s L ad g H locs) (hl : lv_has ls 2 [(0, .ref (ad 0)), (1, .int 3)]) (m_0 : 0 ∈ L) (m_1 : 1 ∈ L) (m_2 : 2 ∈ L) (m_3 : 3 ∈ L) (m_4 : 4 ∈ L) (m_5 : 5 ∈ L) (m_6 : 6 ∈ L) (m_7 : 7 ∈ L) (m_8 : 8 ∈ L) (m_14 : 14 ∈ L) (m_9 : 9 ∈ L) (m_15 : 15 ∈ L) (m_10 : 10 ∈ L) (m_16 : 16 ∈ L) (h_0 : g 0 = .inr (8, [.ref (ad 1), .ref (ad 3), .ref (ad 6), .int 0, .ref (ad 7), .null, .null, .null, .int 0, .null, .int 0, .long 0])) (h_1 : g 1 = .inr (5, [.ref (ad 2), .int 0])) (h_2 : g 2 = .inl (ty 2, 40, .inl (fun _ => 0))) (h_3 : g 3 = .inr (4, [.ref (ad 4), .ref (ad 5)])) (h_4 : g 4 = .inl (ty 0, 12, .inl (fun _ => 0))) (h_5 : g 5 = .inl (ty 0, 12, .inl (fun _ => 0))) (h_6 : g 6 = .inl (ty 4, 8, .inr (.inr (.inr (.inr (fun _ => none)))))) (h_7 : g 7 = .inl (ty 6, 6, .inr (.inr (.inr (.inr (va_up (va_up (va_up (fun _ => none) 0 (some (ad 8))) 1 (some (ad 9))) 2 (some (ad 10)))))))) (h_8 : g 8 = .inr (5, [.ref (ad 14), .int 0])) (h_14 : g 14 = .inl (ty 2, 80, .inl (fun _ => 0))) (h_9 : g 9 = .inr (5, [.ref (ad 15), .int 0])) (h_15 : g 15 = .inl (ty 2, 80, .inl (fun _ => 0))) (h_10 : g 10 = .inr (5, [.ref (ad 16), .int 0])) (h_16 : g 16 = .inl (ty 2, 80, .inl (fun _ => 0))) (hnew : ∀ r ∈ ([11, 17, 12, 18, 13, 19, 20, 21, 22, 23, 24, 25, 26, 27, 28, 29] : List Nat), r ∉ L) (hF : ∀ x ∈ L0, x ∈ L ∧ ad0 x = ad x ∧ (x ≠ 0 → g x = g0 x)) (hO : ∀ x ∈ L, x ∈ L0 ∨ x < 30) (hN : 7 ∉ L0) : W p l e ({ frames := 2, cells := 29, slots := 1739, locals := 42 } : Room) s m args below meth c H locs 13 368 (MQ below (m_Q D A (xi_post ty L0 ad0 g0)) args s 29 1739 A) (F0 m 48 ls []) := by
  refine lv_iload_n hx hb dX8_init_48 rfl (lv_at hl 1 rfl) ?_
  refine lv_aload_n hx hb dX8_init_49 rfl (lv_at hl 0 rfl) ?_
  refine m_get (C := RX8) (T := TX8) (N := 12) (ci := 8) hx hb hts in_X8_init_X8 hown hB m_0 h_0 rfl 4 (by decide) (hts (.fieldLink RX8 31 "PaperRoom" "lastViews" "[LPaperRoom$Row;") (by decide +kernel)) (fun _ h9 => h9) rfl dX8_init_50 ?_
  refine m_alen hx hb hB m_7 6 h_7 rfl (v := nI 6) rfl dX8_init_53 ?_
  refine b_icmp_ge_f 78 hx hb dX8_init_54 (by decide) (by decide) ?_
  refine lv_aload_n hx hb dX8_init_57 rfl (lv_at hl 0 rfl) ?_
  refine m_get (C := RX8) (T := TX8) (N := 12) (ci := 8) hx hb hts in_X8_init_X8 hown hB m_0 h_0 rfl 4 (by decide) (hts (.fieldLink RX8 31 "PaperRoom" "lastViews" "[LPaperRoom$Row;") (by decide +kernel)) (fun _ h9 => h9) rfl dX8_init_58 ?_
  refine lv_iload_n hx hb dX8_init_61 rfl (lv_at hl 1 rfl) ?_
  refine n_new (C := RX5) (T := TX5) (N := 2) (ci := 5) (fs := [.null, .int 0]) hx hb hts in_X8_init_X5 tyX5 tyX5_ok hown (hts (.classLink RX8 9 RX5) (by decide +kernel)) (hts (.instantiable RX5 2) (by decide +kernel)) (hts (.initialized RX5) (by decide +kernel)) hB 11 (hnew 11 (by decide)) rfl (by decide +kernel) (Nat.le_of_ble_eq_true rfl) (Nat.le_of_ble_eq_true rfl) dX8_init_62 (fun ad_1 H had_1 hB => ?_)
  have e1_0 : ad 0 = ad_1 0 := had_1 0 m_0
  have e1_1 : ad 1 = ad_1 1 := had_1 1 m_1
  have e1_10 : ad 10 = ad_1 10 := had_1 10 m_10
  have e1_14 : ad 14 = ad_1 14 := had_1 14 m_14
  have e1_15 : ad 15 = ad_1 15 := had_1 15 m_15
  have e1_16 : ad 16 = ad_1 16 := had_1 16 m_16
  have e1_2 : ad 2 = ad_1 2 := had_1 2 m_2
  have e1_3 : ad 3 = ad_1 3 := had_1 3 m_3
  have e1_4 : ad 4 = ad_1 4 := had_1 4 m_4
  have e1_5 : ad 5 = ad_1 5 := had_1 5 m_5
  have e1_6 : ad 6 = ad_1 6 := had_1 6 m_6
  have e1_7 : ad 7 = ad_1 7 := had_1 7 m_7
  have e1_8 : ad 8 = ad_1 8 := had_1 8 m_8
  have e1_9 : ad 9 = ad_1 9 := had_1 9 m_9
  replace hl : lv_has ls 2 [(0, .ref (ad_1 0)), (1, .int 3)] := by rw [← e1_0]; exact hl
  have fa1_0 : g 0 = .inr (8, [.ref (ad_1 1), .ref (ad_1 3), .ref (ad_1 6), .int 0, .ref (ad_1 7), .null, .null, .null, .int 0, .null, .int 0, .long 0]) := by rw [← e1_1, ← e1_3, ← e1_6, ← e1_7]; exact h_0
  have fa1_1 : g 1 = .inr (5, [.ref (ad_1 2), .int 0]) := by rw [← e1_2]; exact h_1
  have fa1_3 : g 3 = .inr (4, [.ref (ad_1 4), .ref (ad_1 5)]) := by rw [← e1_4, ← e1_5]; exact h_3
  have fa1_7 : g 7 = .inl (ty 6, 6, .inr (.inr (.inr (.inr (va_up (va_up (va_up (fun _ => none) 0 (some (ad_1 8))) 1 (some (ad_1 9))) 2 (some (ad_1 10))))))) := by rw [← e1_10, ← e1_8, ← e1_9]; exact h_7
  have fa1_8 : g 8 = .inr (5, [.ref (ad_1 14), .int 0]) := by rw [← e1_14]; exact h_8
  have fa1_9 : g 9 = .inr (5, [.ref (ad_1 15), .int 0]) := by rw [← e1_15]; exact h_9
  have fa1_10 : g 10 = .inr (5, [.ref (ad_1 16), .int 0]) := by rw [← e1_16]; exact h_10
  replace hB : m_B D ty A s (L ++ [11]) ad_1 (va_up g 11 (.inr (5, [.null, .int 0]))) H locs := hB
  refine W.eq (g2 := F0 m 65 ls [.ref (ad_1 11), .int 3, .ref (ad_1 7)]) (by rw [e1_7]) ?_
  refine lv_dup hx hb dX8_init_65 rfl ?_
  refine lv_bipush (v := 80) hx hb dX8_init_66 (by decide) ?_
  refine m_callI (r := 11) (As := [.int 80]) (rest := [.ref (ad_1 11), .int 3, .ref (ad_1 7)]) (c_Row_init l D ty (L ++ [11]) ad_1 _ 11 17 80 (List.mem_append_right _ List.mem_cons_self) (va_up_self _ _ _) (nin_app (hnew 17 (by decide)) (by decide)) (by decide) (by decide)) ⟨hx, hb, hml, hown, hts⟩ (cwI 1 hts gX8_init_X5_init rfl rfl rfl (hts (.initialized RX5) (by decide +kernel)) (hts (.methodLink RX8 11 yX5_init) (by decide +kernel)) (hts (.instanceMethod yX5_init) (by decide +kernel)) rfl (by decide +kernel) ⟨Nat.le_of_ble_eq_true rfl, Nat.le_of_ble_eq_true rfl⟩) hB rfl hl.1 rfl (Nat.le_of_ble_eq_true rfl) dX8_init_68 ⟨Nat.le_of_ble_eq_true rfl, Nat.le_of_ble_eq_true rfl⟩ (fun v168 L168 ad_168 g168 H locs hp168 hB => ?_)
  obtain ⟨q1_168, q2_168, had_168, q4_168⟩ := hp168
  subst q2_168
  have e168_0 : ad_1 0 = ad_168 0 := had_168 0 (List.mem_append_left _ m_0)
  have e168_1 : ad_1 1 = ad_168 1 := had_168 1 (List.mem_append_left _ m_1)
  have e168_10 : ad_1 10 = ad_168 10 := had_168 10 (List.mem_append_left _ m_10)
  have e168_11 : ad_1 11 = ad_168 11 := had_168 11 (List.mem_append_right _ List.mem_cons_self)
  have e168_14 : ad_1 14 = ad_168 14 := had_168 14 (List.mem_append_left _ m_14)
  have e168_15 : ad_1 15 = ad_168 15 := had_168 15 (List.mem_append_left _ m_15)
  have e168_16 : ad_1 16 = ad_168 16 := had_168 16 (List.mem_append_left _ m_16)
  have e168_2 : ad_1 2 = ad_168 2 := had_168 2 (List.mem_append_left _ m_2)
  have e168_3 : ad_1 3 = ad_168 3 := had_168 3 (List.mem_append_left _ m_3)
  have e168_4 : ad_1 4 = ad_168 4 := had_168 4 (List.mem_append_left _ m_4)
  have e168_5 : ad_1 5 = ad_168 5 := had_168 5 (List.mem_append_left _ m_5)
  have e168_6 : ad_1 6 = ad_168 6 := had_168 6 (List.mem_append_left _ m_6)
  have e168_7 : ad_1 7 = ad_168 7 := had_168 7 (List.mem_append_left _ m_7)
  have e168_8 : ad_1 8 = ad_168 8 := had_168 8 (List.mem_append_left _ m_8)
  have e168_9 : ad_1 9 = ad_168 9 := had_168 9 (List.mem_append_left _ m_9)
  replace hl : lv_has ls 2 [(0, .ref (ad_168 0)), (1, .int 3)] := by rw [← e168_0]; exact hl
  have fa168_0 : (va_up g 11 (.inr (5, [.null, .int 0]))) 0 = .inr (8, [.ref (ad_168 1), .ref (ad_168 3), .ref (ad_168 6), .int 0, .ref (ad_168 7), .null, .null, .null, .int 0, .null, .int 0, .long 0]) := by rw [← e168_1, ← e168_3, ← e168_6, ← e168_7]; exact ((va_up_ne _ _ (by decide)).trans fa1_0)
  have fa168_1 : (va_up g 11 (.inr (5, [.null, .int 0]))) 1 = .inr (5, [.ref (ad_168 2), .int 0]) := by rw [← e168_2]; exact ((va_up_ne _ _ (by decide)).trans fa1_1)
  have fa168_3 : (va_up g 11 (.inr (5, [.null, .int 0]))) 3 = .inr (4, [.ref (ad_168 4), .ref (ad_168 5)]) := by rw [← e168_4, ← e168_5]; exact ((va_up_ne _ _ (by decide)).trans fa1_3)
  have fa168_7 : (va_up g 11 (.inr (5, [.null, .int 0]))) 7 = .inl (ty 6, 6, .inr (.inr (.inr (.inr (va_up (va_up (va_up (fun _ => none) 0 (some (ad_168 8))) 1 (some (ad_168 9))) 2 (some (ad_168 10))))))) := by rw [← e168_10, ← e168_8, ← e168_9]; exact ((va_up_ne _ _ (by decide)).trans fa1_7)
  have fa168_8 : (va_up g 11 (.inr (5, [.null, .int 0]))) 8 = .inr (5, [.ref (ad_168 14), .int 0]) := by rw [← e168_14]; exact ((va_up_ne _ _ (by decide)).trans fa1_8)
  have fa168_9 : (va_up g 11 (.inr (5, [.null, .int 0]))) 9 = .inr (5, [.ref (ad_168 15), .int 0]) := by rw [← e168_15]; exact ((va_up_ne _ _ (by decide)).trans fa1_9)
  have fa168_10 : (va_up g 11 (.inr (5, [.null, .int 0]))) 10 = .inr (5, [.ref (ad_168 16), .int 0]) := by rw [← e168_16]; exact ((va_up_ne _ _ (by decide)).trans fa1_10)
  replace hB : m_B D ty A s ((L ++ [11]) ++ [17]) ad_168 (va_up (va_up (va_up g 11 (.inr (5, [.null, .int 0]))) 17 (.inl (ty 2, 80, .inl (fun _ => 0)))) 11 (.inr (5, [.ref (ad_168 17), .int 0]))) H locs := by rw [q4_168] at hB; exact hB
  refine W.eq (g2 := F0 m 71 ls [.ref (ad_168 11), .int 3, .ref (ad_168 7)]) (by rw [q1_168]; (try rw [e168_11]); (try rw [e168_7]); rfl) ?_
  refine n_aast hx hb hB (List.mem_append_left _ (List.mem_append_left _ m_7)) 6 ((va_up_ne _ _ (by decide)).trans ((va_up_ne _ _ (by decide)).trans fa168_7)) rfl (List.mem_append_left _ (List.mem_append_right _ List.mem_cons_self)) (va_up_self _ _ _) rfl (fun _ _ h1 h2 => m_asg_self h1 h2) 3 rfl (by omega) (by omega) dX8_init_71 (fun H locs hB => ?_)
  replace hB : m_B D ty A s ((L ++ [11]) ++ [17]) ad_168 (va_up (va_up (va_up (va_up g 11 (.inr (5, [.null, .int 0]))) 17 (.inl (ty 2, 80, .inl (fun _ => 0)))) 11 (.inr (5, [.ref (ad_168 17), .int 0]))) 7 (.inl (ty 6, 6, .inr (.inr (.inr (.inr (va_up (va_up (va_up (va_up (fun _ => none) 0 (some (ad_168 8))) 1 (some (ad_168 9))) 2 (some (ad_168 10))) 3 (some (ad_168 11))))))))) H locs := hB
  refine lv_iinc (v := 4) (lv' := [(1, .int 4), (0, .ref (ad_168 0))]) hx hb dX8_init_72 hl (k := 1) rfl (by decide) (by decide) rfl (fun ls hl => ?_)
  refine lv_goto (tgt := 48) hx hb dX8_init_75 (by decide) ?_
  exact xi_9 hx hb hml hrt hlocks hown hts hin hB (lv_sub hl [1, 0] rfl) (List.mem_append_left _ (List.mem_append_left _ m_0)) (List.mem_append_left _ (List.mem_append_left _ m_1)) (List.mem_append_left _ (List.mem_append_left _ m_2)) (List.mem_append_left _ (List.mem_append_left _ m_3)) (List.mem_append_left _ (List.mem_append_left _ m_4)) (List.mem_append_left _ (List.mem_append_left _ m_5)) (List.mem_append_left _ (List.mem_append_left _ m_6)) (List.mem_append_left _ (List.mem_append_left _ m_7)) (List.mem_append_left _ (List.mem_append_left _ m_8)) (List.mem_append_left _ (List.mem_append_left _ m_14)) (List.mem_append_left _ (List.mem_append_left _ m_9)) (List.mem_append_left _ (List.mem_append_left _ m_15)) (List.mem_append_left _ (List.mem_append_left _ m_10)) (List.mem_append_left _ (List.mem_append_left _ m_16)) (List.mem_append_left _ (List.mem_append_right _ List.mem_cons_self)) (List.mem_append_right _ List.mem_cons_self) ((va_up_ne _ _ (by decide)).trans ((va_up_ne _ _ (by decide)).trans ((va_up_ne _ _ (by decide)).trans fa168_0))) ((va_up_ne _ _ (by decide)).trans ((va_up_ne _ _ (by decide)).trans ((va_up_ne _ _ (by decide)).trans fa168_1))) ((va_up_ne _ _ (by decide)).trans ((va_up_ne _ _ (by decide)).trans ((va_up_ne _ _ (by decide)).trans ((va_up_ne _ _ (by decide)).trans h_2)))) ((va_up_ne _ _ (by decide)).trans ((va_up_ne _ _ (by decide)).trans ((va_up_ne _ _ (by decide)).trans fa168_3))) ((va_up_ne _ _ (by decide)).trans ((va_up_ne _ _ (by decide)).trans ((va_up_ne _ _ (by decide)).trans ((va_up_ne _ _ (by decide)).trans h_4)))) ((va_up_ne _ _ (by decide)).trans ((va_up_ne _ _ (by decide)).trans ((va_up_ne _ _ (by decide)).trans ((va_up_ne _ _ (by decide)).trans h_5)))) ((va_up_ne _ _ (by decide)).trans ((va_up_ne _ _ (by decide)).trans ((va_up_ne _ _ (by decide)).trans ((va_up_ne _ _ (by decide)).trans h_6)))) (va_up_self _ _ _) ((va_up_ne _ _ (by decide)).trans ((va_up_ne _ _ (by decide)).trans ((va_up_ne _ _ (by decide)).trans fa168_8))) ((va_up_ne _ _ (by decide)).trans ((va_up_ne _ _ (by decide)).trans ((va_up_ne _ _ (by decide)).trans ((va_up_ne _ _ (by decide)).trans h_14)))) ((va_up_ne _ _ (by decide)).trans ((va_up_ne _ _ (by decide)).trans ((va_up_ne _ _ (by decide)).trans fa168_9))) ((va_up_ne _ _ (by decide)).trans ((va_up_ne _ _ (by decide)).trans ((va_up_ne _ _ (by decide)).trans ((va_up_ne _ _ (by decide)).trans h_15)))) ((va_up_ne _ _ (by decide)).trans ((va_up_ne _ _ (by decide)).trans ((va_up_ne _ _ (by decide)).trans fa168_10))) ((va_up_ne _ _ (by decide)).trans ((va_up_ne _ _ (by decide)).trans ((va_up_ne _ _ (by decide)).trans ((va_up_ne _ _ (by decide)).trans h_16)))) ((va_up_ne _ _ (by decide)).trans (va_up_self _ _ _)) ((va_up_ne _ _ (by decide)).trans ((va_up_ne _ _ (by decide)).trans (va_up_self _ _ _))) (fun r hr => by
    have h1 := (by decide : ∀ r ∈ ([12, 18, 13, 19, 20, 21, 22, 23, 24, 25, 26, 27, 28, 29] : List Nat), r ∈ ([11, 17, 12, 18, 13, 19, 20, 21, 22, 23, 24, 25, 26, 27, 28, 29] : List Nat)) r hr
    have h2 := (by decide : ∀ r ∈ ([12, 18, 13, 19, 20, 21, 22, 23, 24, 25, 26, 27, 28, 29] : List Nat), r ≠ 11 ∧ r ≠ 17) r hr
    exact (nin_app (nin_app (hnew r h1) h2.1) h2.2)) (fun x hx0 => by
    have hx := (hF x hx0).1
    have hn_7 : x ≠ 7 := fun e9 => hN (by rw [← e9]; exact hx0)
    refine ⟨(List.mem_append_left _ (List.mem_append_left _ hx)), (hF x hx0).2.1.trans (((((rfl).trans (had_1 x hx))).trans (had_168 x (List.mem_append_left _ hx)))), fun hn_0 => ?_⟩
    exact (((va_up_ne _ _ hn_7).trans ((va_up_ne _ _ (fun e9 => (hnew 11 (by decide)) (by rw [← e9]; exact hx))).trans ((va_up_ne _ _ (fun e9 => (hnew 17 (by decide)) (by rw [← e9]; exact hx))).trans ((va_up_ne _ _ (fun e9 => (hnew 11 (by decide)) (by rw [← e9]; exact hx))).trans rfl))))).trans ((hF x hx0).2.2 hn_0)) (all_app (all_app hO (Or.inr (by decide))) (Or.inr (by decide))) hN
set_option maxHeartbeats 4000000 in
set_option maxRecDepth 100000 in
theorem xi_7 {p : Program} {l : Launch} {e : Env} {s : State} {m : MethodId} {args : Array Value} {below : List Frame} {meth : Method} {c : Code} {A : Nat → Prop} {D : va_G} {ty : Nat → ClassId} {L0 : List Nat} {ad0 : Nat → Nat} {g0 : Nat → va_E} {L : List Nat} {ad : Nat → Nat} {g : Nat → va_E} {H : Heap} {locs : List Loc} {ls : Array Slot} (hx : p.tables.exec = Jvm.exec) (hb : c.code = cX8_init) (hml : c.maxLocals = 2) (hrt : meth.sig.returnType = none) (hlocks : meth.locks = false) (hown : s.vm.findClass RX8 = some m.cls) (hts : ∀ w ∈ wsX8_init, w.before args s = true) (hin : meth.name = "<init>") (hB : m_B D ty A s L ad g H locs) (hl : lv_has ls 2 [(0, .ref (ad 0)), (1, .int 2)]) (m_0 : 0 ∈ L) (m_1 : 1 ∈ L) (m_2 : 2 ∈ L) (m_3 : 3 ∈ L) (m_4 : 4 ∈ L) (m_5 : 5 ∈ L) (m_6 : 6 ∈ L) (m_7 : 7 ∈ L) (m_8 : 8 ∈ L) (m_14 : 14 ∈ L) (m_9 : 9 ∈ L) (m_15 : 15 ∈ L) (h_0 : g 0 = .inr (8, [.ref (ad 1), .ref (ad 3), .ref (ad 6), .int 0, .ref (ad 7), .null, .null, .null, .int 0, .null, .int 0, .long 0])) (h_1 : g 1 = .inr (5, [.ref (ad 2), .int 0])) (h_2 : g 2 = .inl (ty 2, 40, .inl (fun _ => 0))) (h_3 : g 3 = .inr (4, [.ref (ad 4), .ref (ad 5)])) (h_4 : g 4 = .inl (ty 0, 12, .inl (fun _ => 0))) (h_5 : g 5 = .inl (ty 0, 12, .inl (fun _ => 0))) (h_6 : g 6 = .inl (ty 4, 8, .inr (.inr (.inr (.inr (fun _ => none)))))) (h_7 : g 7 = .inl (ty 6, 6, .inr (.inr (.inr (.inr (va_up (va_up (fun _ => none) 0 (some (ad 8))) 1 (some (ad 9)))))))) (h_8 : g 8 = .inr (5, [.ref (ad 14), .int 0])) (h_14 : g 14 = .inl (ty 2, 80, .inl (fun _ => 0))) (h_9 : g 9 = .inr (5, [.ref (ad 15), .int 0])) (h_15 : g 15 = .inl (ty 2, 80, .inl (fun _ => 0))) (hnew : ∀ r ∈ ([10, 16, 11, 17, 12, 18, 13, 19, 20, 21, 22, 23, 24, 25, 26, 27, 28, 29] : List Nat), r ∉ L) (hF : ∀ x ∈ L0, x ∈ L ∧ ad0 x = ad x ∧ (x ≠ 0 → g x = g0 x)) (hO : ∀ x ∈ L, x ∈ L0 ∨ x < 30) (hN : 7 ∉ L0) : W p l e ({ frames := 2, cells := 29, slots := 1739, locals := 42 } : Room) s m args below meth c H locs 11 286 (MQ below (m_Q D A (xi_post ty L0 ad0 g0)) args s 29 1739 A) (F0 m 48 ls []) := by
  refine lv_iload_n hx hb dX8_init_48 rfl (lv_at hl 1 rfl) ?_
  refine lv_aload_n hx hb dX8_init_49 rfl (lv_at hl 0 rfl) ?_
  refine m_get (C := RX8) (T := TX8) (N := 12) (ci := 8) hx hb hts in_X8_init_X8 hown hB m_0 h_0 rfl 4 (by decide) (hts (.fieldLink RX8 31 "PaperRoom" "lastViews" "[LPaperRoom$Row;") (by decide +kernel)) (fun _ h9 => h9) rfl dX8_init_50 ?_
  refine m_alen hx hb hB m_7 6 h_7 rfl (v := nI 6) rfl dX8_init_53 ?_
  refine b_icmp_ge_f 78 hx hb dX8_init_54 (by decide) (by decide) ?_
  refine lv_aload_n hx hb dX8_init_57 rfl (lv_at hl 0 rfl) ?_
  refine m_get (C := RX8) (T := TX8) (N := 12) (ci := 8) hx hb hts in_X8_init_X8 hown hB m_0 h_0 rfl 4 (by decide) (hts (.fieldLink RX8 31 "PaperRoom" "lastViews" "[LPaperRoom$Row;") (by decide +kernel)) (fun _ h9 => h9) rfl dX8_init_58 ?_
  refine lv_iload_n hx hb dX8_init_61 rfl (lv_at hl 1 rfl) ?_
  refine n_new (C := RX5) (T := TX5) (N := 2) (ci := 5) (fs := [.null, .int 0]) hx hb hts in_X8_init_X5 tyX5 tyX5_ok hown (hts (.classLink RX8 9 RX5) (by decide +kernel)) (hts (.instantiable RX5 2) (by decide +kernel)) (hts (.initialized RX5) (by decide +kernel)) hB 10 (hnew 10 (by decide)) rfl (by decide +kernel) (Nat.le_of_ble_eq_true rfl) (Nat.le_of_ble_eq_true rfl) dX8_init_62 (fun ad_1 H had_1 hB => ?_)
  have e1_0 : ad 0 = ad_1 0 := had_1 0 m_0
  have e1_1 : ad 1 = ad_1 1 := had_1 1 m_1
  have e1_14 : ad 14 = ad_1 14 := had_1 14 m_14
  have e1_15 : ad 15 = ad_1 15 := had_1 15 m_15
  have e1_2 : ad 2 = ad_1 2 := had_1 2 m_2
  have e1_3 : ad 3 = ad_1 3 := had_1 3 m_3
  have e1_4 : ad 4 = ad_1 4 := had_1 4 m_4
  have e1_5 : ad 5 = ad_1 5 := had_1 5 m_5
  have e1_6 : ad 6 = ad_1 6 := had_1 6 m_6
  have e1_7 : ad 7 = ad_1 7 := had_1 7 m_7
  have e1_8 : ad 8 = ad_1 8 := had_1 8 m_8
  have e1_9 : ad 9 = ad_1 9 := had_1 9 m_9
  replace hl : lv_has ls 2 [(0, .ref (ad_1 0)), (1, .int 2)] := by rw [← e1_0]; exact hl
  have fa1_0 : g 0 = .inr (8, [.ref (ad_1 1), .ref (ad_1 3), .ref (ad_1 6), .int 0, .ref (ad_1 7), .null, .null, .null, .int 0, .null, .int 0, .long 0]) := by rw [← e1_1, ← e1_3, ← e1_6, ← e1_7]; exact h_0
  have fa1_1 : g 1 = .inr (5, [.ref (ad_1 2), .int 0]) := by rw [← e1_2]; exact h_1
  have fa1_3 : g 3 = .inr (4, [.ref (ad_1 4), .ref (ad_1 5)]) := by rw [← e1_4, ← e1_5]; exact h_3
  have fa1_7 : g 7 = .inl (ty 6, 6, .inr (.inr (.inr (.inr (va_up (va_up (fun _ => none) 0 (some (ad_1 8))) 1 (some (ad_1 9))))))) := by rw [← e1_8, ← e1_9]; exact h_7
  have fa1_8 : g 8 = .inr (5, [.ref (ad_1 14), .int 0]) := by rw [← e1_14]; exact h_8
  have fa1_9 : g 9 = .inr (5, [.ref (ad_1 15), .int 0]) := by rw [← e1_15]; exact h_9
  replace hB : m_B D ty A s (L ++ [10]) ad_1 (va_up g 10 (.inr (5, [.null, .int 0]))) H locs := hB
  refine W.eq (g2 := F0 m 65 ls [.ref (ad_1 10), .int 2, .ref (ad_1 7)]) (by rw [e1_7]) ?_
  refine lv_dup hx hb dX8_init_65 rfl ?_
  refine lv_bipush (v := 80) hx hb dX8_init_66 (by decide) ?_
  refine m_callI (r := 10) (As := [.int 80]) (rest := [.ref (ad_1 10), .int 2, .ref (ad_1 7)]) (c_Row_init l D ty (L ++ [10]) ad_1 _ 10 16 80 (List.mem_append_right _ List.mem_cons_self) (va_up_self _ _ _) (nin_app (hnew 16 (by decide)) (by decide)) (by decide) (by decide)) ⟨hx, hb, hml, hown, hts⟩ (cwI 1 hts gX8_init_X5_init rfl rfl rfl (hts (.initialized RX5) (by decide +kernel)) (hts (.methodLink RX8 11 yX5_init) (by decide +kernel)) (hts (.instanceMethod yX5_init) (by decide +kernel)) rfl (by decide +kernel) ⟨Nat.le_of_ble_eq_true rfl, Nat.le_of_ble_eq_true rfl⟩) hB rfl hl.1 rfl (Nat.le_of_ble_eq_true rfl) dX8_init_68 ⟨Nat.le_of_ble_eq_true rfl, Nat.le_of_ble_eq_true rfl⟩ (fun v168 L168 ad_168 g168 H locs hp168 hB => ?_)
  obtain ⟨q1_168, q2_168, had_168, q4_168⟩ := hp168
  subst q2_168
  have e168_0 : ad_1 0 = ad_168 0 := had_168 0 (List.mem_append_left _ m_0)
  have e168_1 : ad_1 1 = ad_168 1 := had_168 1 (List.mem_append_left _ m_1)
  have e168_10 : ad_1 10 = ad_168 10 := had_168 10 (List.mem_append_right _ List.mem_cons_self)
  have e168_14 : ad_1 14 = ad_168 14 := had_168 14 (List.mem_append_left _ m_14)
  have e168_15 : ad_1 15 = ad_168 15 := had_168 15 (List.mem_append_left _ m_15)
  have e168_2 : ad_1 2 = ad_168 2 := had_168 2 (List.mem_append_left _ m_2)
  have e168_3 : ad_1 3 = ad_168 3 := had_168 3 (List.mem_append_left _ m_3)
  have e168_4 : ad_1 4 = ad_168 4 := had_168 4 (List.mem_append_left _ m_4)
  have e168_5 : ad_1 5 = ad_168 5 := had_168 5 (List.mem_append_left _ m_5)
  have e168_6 : ad_1 6 = ad_168 6 := had_168 6 (List.mem_append_left _ m_6)
  have e168_7 : ad_1 7 = ad_168 7 := had_168 7 (List.mem_append_left _ m_7)
  have e168_8 : ad_1 8 = ad_168 8 := had_168 8 (List.mem_append_left _ m_8)
  have e168_9 : ad_1 9 = ad_168 9 := had_168 9 (List.mem_append_left _ m_9)
  replace hl : lv_has ls 2 [(0, .ref (ad_168 0)), (1, .int 2)] := by rw [← e168_0]; exact hl
  have fa168_0 : (va_up g 10 (.inr (5, [.null, .int 0]))) 0 = .inr (8, [.ref (ad_168 1), .ref (ad_168 3), .ref (ad_168 6), .int 0, .ref (ad_168 7), .null, .null, .null, .int 0, .null, .int 0, .long 0]) := by rw [← e168_1, ← e168_3, ← e168_6, ← e168_7]; exact ((va_up_ne _ _ (by decide)).trans fa1_0)
  have fa168_1 : (va_up g 10 (.inr (5, [.null, .int 0]))) 1 = .inr (5, [.ref (ad_168 2), .int 0]) := by rw [← e168_2]; exact ((va_up_ne _ _ (by decide)).trans fa1_1)
  have fa168_3 : (va_up g 10 (.inr (5, [.null, .int 0]))) 3 = .inr (4, [.ref (ad_168 4), .ref (ad_168 5)]) := by rw [← e168_4, ← e168_5]; exact ((va_up_ne _ _ (by decide)).trans fa1_3)
  have fa168_7 : (va_up g 10 (.inr (5, [.null, .int 0]))) 7 = .inl (ty 6, 6, .inr (.inr (.inr (.inr (va_up (va_up (fun _ => none) 0 (some (ad_168 8))) 1 (some (ad_168 9))))))) := by rw [← e168_8, ← e168_9]; exact ((va_up_ne _ _ (by decide)).trans fa1_7)
  have fa168_8 : (va_up g 10 (.inr (5, [.null, .int 0]))) 8 = .inr (5, [.ref (ad_168 14), .int 0]) := by rw [← e168_14]; exact ((va_up_ne _ _ (by decide)).trans fa1_8)
  have fa168_9 : (va_up g 10 (.inr (5, [.null, .int 0]))) 9 = .inr (5, [.ref (ad_168 15), .int 0]) := by rw [← e168_15]; exact ((va_up_ne _ _ (by decide)).trans fa1_9)
  replace hB : m_B D ty A s ((L ++ [10]) ++ [16]) ad_168 (va_up (va_up (va_up g 10 (.inr (5, [.null, .int 0]))) 16 (.inl (ty 2, 80, .inl (fun _ => 0)))) 10 (.inr (5, [.ref (ad_168 16), .int 0]))) H locs := by rw [q4_168] at hB; exact hB
  refine W.eq (g2 := F0 m 71 ls [.ref (ad_168 10), .int 2, .ref (ad_168 7)]) (by rw [q1_168]; (try rw [e168_10]); (try rw [e168_7]); rfl) ?_
  refine n_aast hx hb hB (List.mem_append_left _ (List.mem_append_left _ m_7)) 6 ((va_up_ne _ _ (by decide)).trans ((va_up_ne _ _ (by decide)).trans fa168_7)) rfl (List.mem_append_left _ (List.mem_append_right _ List.mem_cons_self)) (va_up_self _ _ _) rfl (fun _ _ h1 h2 => m_asg_self h1 h2) 2 rfl (by omega) (by omega) dX8_init_71 (fun H locs hB => ?_)
  replace hB : m_B D ty A s ((L ++ [10]) ++ [16]) ad_168 (va_up (va_up (va_up (va_up g 10 (.inr (5, [.null, .int 0]))) 16 (.inl (ty 2, 80, .inl (fun _ => 0)))) 10 (.inr (5, [.ref (ad_168 16), .int 0]))) 7 (.inl (ty 6, 6, .inr (.inr (.inr (.inr (va_up (va_up (va_up (fun _ => none) 0 (some (ad_168 8))) 1 (some (ad_168 9))) 2 (some (ad_168 10))))))))) H locs := hB
  refine lv_iinc (v := 3) (lv' := [(1, .int 3), (0, .ref (ad_168 0))]) hx hb dX8_init_72 hl (k := 1) rfl (by decide) (by decide) rfl (fun ls hl => ?_)
  refine lv_goto (tgt := 48) hx hb dX8_init_75 (by decide) ?_
  exact xi_8 hx hb hml hrt hlocks hown hts hin hB (lv_sub hl [1, 0] rfl) (List.mem_append_left _ (List.mem_append_left _ m_0)) (List.mem_append_left _ (List.mem_append_left _ m_1)) (List.mem_append_left _ (List.mem_append_left _ m_2)) (List.mem_append_left _ (List.mem_append_left _ m_3)) (List.mem_append_left _ (List.mem_append_left _ m_4)) (List.mem_append_left _ (List.mem_append_left _ m_5)) (List.mem_append_left _ (List.mem_append_left _ m_6)) (List.mem_append_left _ (List.mem_append_left _ m_7)) (List.mem_append_left _ (List.mem_append_left _ m_8)) (List.mem_append_left _ (List.mem_append_left _ m_14)) (List.mem_append_left _ (List.mem_append_left _ m_9)) (List.mem_append_left _ (List.mem_append_left _ m_15)) (List.mem_append_left _ (List.mem_append_right _ List.mem_cons_self)) (List.mem_append_right _ List.mem_cons_self) ((va_up_ne _ _ (by decide)).trans ((va_up_ne _ _ (by decide)).trans ((va_up_ne _ _ (by decide)).trans fa168_0))) ((va_up_ne _ _ (by decide)).trans ((va_up_ne _ _ (by decide)).trans ((va_up_ne _ _ (by decide)).trans fa168_1))) ((va_up_ne _ _ (by decide)).trans ((va_up_ne _ _ (by decide)).trans ((va_up_ne _ _ (by decide)).trans ((va_up_ne _ _ (by decide)).trans h_2)))) ((va_up_ne _ _ (by decide)).trans ((va_up_ne _ _ (by decide)).trans ((va_up_ne _ _ (by decide)).trans fa168_3))) ((va_up_ne _ _ (by decide)).trans ((va_up_ne _ _ (by decide)).trans ((va_up_ne _ _ (by decide)).trans ((va_up_ne _ _ (by decide)).trans h_4)))) ((va_up_ne _ _ (by decide)).trans ((va_up_ne _ _ (by decide)).trans ((va_up_ne _ _ (by decide)).trans ((va_up_ne _ _ (by decide)).trans h_5)))) ((va_up_ne _ _ (by decide)).trans ((va_up_ne _ _ (by decide)).trans ((va_up_ne _ _ (by decide)).trans ((va_up_ne _ _ (by decide)).trans h_6)))) (va_up_self _ _ _) ((va_up_ne _ _ (by decide)).trans ((va_up_ne _ _ (by decide)).trans ((va_up_ne _ _ (by decide)).trans fa168_8))) ((va_up_ne _ _ (by decide)).trans ((va_up_ne _ _ (by decide)).trans ((va_up_ne _ _ (by decide)).trans ((va_up_ne _ _ (by decide)).trans h_14)))) ((va_up_ne _ _ (by decide)).trans ((va_up_ne _ _ (by decide)).trans ((va_up_ne _ _ (by decide)).trans fa168_9))) ((va_up_ne _ _ (by decide)).trans ((va_up_ne _ _ (by decide)).trans ((va_up_ne _ _ (by decide)).trans ((va_up_ne _ _ (by decide)).trans h_15)))) ((va_up_ne _ _ (by decide)).trans (va_up_self _ _ _)) ((va_up_ne _ _ (by decide)).trans ((va_up_ne _ _ (by decide)).trans (va_up_self _ _ _))) (fun r hr => by
    have h1 := (by decide : ∀ r ∈ ([11, 17, 12, 18, 13, 19, 20, 21, 22, 23, 24, 25, 26, 27, 28, 29] : List Nat), r ∈ ([10, 16, 11, 17, 12, 18, 13, 19, 20, 21, 22, 23, 24, 25, 26, 27, 28, 29] : List Nat)) r hr
    have h2 := (by decide : ∀ r ∈ ([11, 17, 12, 18, 13, 19, 20, 21, 22, 23, 24, 25, 26, 27, 28, 29] : List Nat), r ≠ 10 ∧ r ≠ 16) r hr
    exact (nin_app (nin_app (hnew r h1) h2.1) h2.2)) (fun x hx0 => by
    have hx := (hF x hx0).1
    have hn_7 : x ≠ 7 := fun e9 => hN (by rw [← e9]; exact hx0)
    refine ⟨(List.mem_append_left _ (List.mem_append_left _ hx)), (hF x hx0).2.1.trans (((((rfl).trans (had_1 x hx))).trans (had_168 x (List.mem_append_left _ hx)))), fun hn_0 => ?_⟩
    exact (((va_up_ne _ _ hn_7).trans ((va_up_ne _ _ (fun e9 => (hnew 10 (by decide)) (by rw [← e9]; exact hx))).trans ((va_up_ne _ _ (fun e9 => (hnew 16 (by decide)) (by rw [← e9]; exact hx))).trans ((va_up_ne _ _ (fun e9 => (hnew 10 (by decide)) (by rw [← e9]; exact hx))).trans rfl))))).trans ((hF x hx0).2.2 hn_0)) (all_app (all_app hO (Or.inr (by decide))) (Or.inr (by decide))) hN
set_option maxHeartbeats 4000000 in
set_option maxRecDepth 100000 in
theorem xi_6 {p : Program} {l : Launch} {e : Env} {s : State} {m : MethodId} {args : Array Value} {below : List Frame} {meth : Method} {c : Code} {A : Nat → Prop} {D : va_G} {ty : Nat → ClassId} {L0 : List Nat} {ad0 : Nat → Nat} {g0 : Nat → va_E} {L : List Nat} {ad : Nat → Nat} {g : Nat → va_E} {H : Heap} {locs : List Loc} {ls : Array Slot} (hx : p.tables.exec = Jvm.exec) (hb : c.code = cX8_init) (hml : c.maxLocals = 2) (hrt : meth.sig.returnType = none) (hlocks : meth.locks = false) (hown : s.vm.findClass RX8 = some m.cls) (hts : ∀ w ∈ wsX8_init, w.before args s = true) (hin : meth.name = "<init>") (hB : m_B D ty A s L ad g H locs) (hl : lv_has ls 2 [(0, .ref (ad 0)), (1, .int 1)]) (m_0 : 0 ∈ L) (m_1 : 1 ∈ L) (m_2 : 2 ∈ L) (m_3 : 3 ∈ L) (m_4 : 4 ∈ L) (m_5 : 5 ∈ L) (m_6 : 6 ∈ L) (m_7 : 7 ∈ L) (m_8 : 8 ∈ L) (m_14 : 14 ∈ L) (h_0 : g 0 = .inr (8, [.ref (ad 1), .ref (ad 3), .ref (ad 6), .int 0, .ref (ad 7), .null, .null, .null, .int 0, .null, .int 0, .long 0])) (h_1 : g 1 = .inr (5, [.ref (ad 2), .int 0])) (h_2 : g 2 = .inl (ty 2, 40, .inl (fun _ => 0))) (h_3 : g 3 = .inr (4, [.ref (ad 4), .ref (ad 5)])) (h_4 : g 4 = .inl (ty 0, 12, .inl (fun _ => 0))) (h_5 : g 5 = .inl (ty 0, 12, .inl (fun _ => 0))) (h_6 : g 6 = .inl (ty 4, 8, .inr (.inr (.inr (.inr (fun _ => none)))))) (h_7 : g 7 = .inl (ty 6, 6, .inr (.inr (.inr (.inr (va_up (fun _ => none) 0 (some (ad 8)))))))) (h_8 : g 8 = .inr (5, [.ref (ad 14), .int 0])) (h_14 : g 14 = .inl (ty 2, 80, .inl (fun _ => 0))) (hnew : ∀ r ∈ ([9, 15, 10, 16, 11, 17, 12, 18, 13, 19, 20, 21, 22, 23, 24, 25, 26, 27, 28, 29] : List Nat), r ∉ L) (hF : ∀ x ∈ L0, x ∈ L ∧ ad0 x = ad x ∧ (x ≠ 0 → g x = g0 x)) (hO : ∀ x ∈ L, x ∈ L0 ∨ x < 30) (hN : 7 ∉ L0) : W p l e ({ frames := 2, cells := 29, slots := 1739, locals := 42 } : Room) s m args below meth c H locs 9 204 (MQ below (m_Q D A (xi_post ty L0 ad0 g0)) args s 29 1739 A) (F0 m 48 ls []) := by
  refine lv_iload_n hx hb dX8_init_48 rfl (lv_at hl 1 rfl) ?_
  refine lv_aload_n hx hb dX8_init_49 rfl (lv_at hl 0 rfl) ?_
  refine m_get (C := RX8) (T := TX8) (N := 12) (ci := 8) hx hb hts in_X8_init_X8 hown hB m_0 h_0 rfl 4 (by decide) (hts (.fieldLink RX8 31 "PaperRoom" "lastViews" "[LPaperRoom$Row;") (by decide +kernel)) (fun _ h9 => h9) rfl dX8_init_50 ?_
  refine m_alen hx hb hB m_7 6 h_7 rfl (v := nI 6) rfl dX8_init_53 ?_
  refine b_icmp_ge_f 78 hx hb dX8_init_54 (by decide) (by decide) ?_
  refine lv_aload_n hx hb dX8_init_57 rfl (lv_at hl 0 rfl) ?_
  refine m_get (C := RX8) (T := TX8) (N := 12) (ci := 8) hx hb hts in_X8_init_X8 hown hB m_0 h_0 rfl 4 (by decide) (hts (.fieldLink RX8 31 "PaperRoom" "lastViews" "[LPaperRoom$Row;") (by decide +kernel)) (fun _ h9 => h9) rfl dX8_init_58 ?_
  refine lv_iload_n hx hb dX8_init_61 rfl (lv_at hl 1 rfl) ?_
  refine n_new (C := RX5) (T := TX5) (N := 2) (ci := 5) (fs := [.null, .int 0]) hx hb hts in_X8_init_X5 tyX5 tyX5_ok hown (hts (.classLink RX8 9 RX5) (by decide +kernel)) (hts (.instantiable RX5 2) (by decide +kernel)) (hts (.initialized RX5) (by decide +kernel)) hB 9 (hnew 9 (by decide)) rfl (by decide +kernel) (Nat.le_of_ble_eq_true rfl) (Nat.le_of_ble_eq_true rfl) dX8_init_62 (fun ad_1 H had_1 hB => ?_)
  have e1_0 : ad 0 = ad_1 0 := had_1 0 m_0
  have e1_1 : ad 1 = ad_1 1 := had_1 1 m_1
  have e1_14 : ad 14 = ad_1 14 := had_1 14 m_14
  have e1_2 : ad 2 = ad_1 2 := had_1 2 m_2
  have e1_3 : ad 3 = ad_1 3 := had_1 3 m_3
  have e1_4 : ad 4 = ad_1 4 := had_1 4 m_4
  have e1_5 : ad 5 = ad_1 5 := had_1 5 m_5
  have e1_6 : ad 6 = ad_1 6 := had_1 6 m_6
  have e1_7 : ad 7 = ad_1 7 := had_1 7 m_7
  have e1_8 : ad 8 = ad_1 8 := had_1 8 m_8
  replace hl : lv_has ls 2 [(0, .ref (ad_1 0)), (1, .int 1)] := by rw [← e1_0]; exact hl
  have fa1_0 : g 0 = .inr (8, [.ref (ad_1 1), .ref (ad_1 3), .ref (ad_1 6), .int 0, .ref (ad_1 7), .null, .null, .null, .int 0, .null, .int 0, .long 0]) := by rw [← e1_1, ← e1_3, ← e1_6, ← e1_7]; exact h_0
  have fa1_1 : g 1 = .inr (5, [.ref (ad_1 2), .int 0]) := by rw [← e1_2]; exact h_1
  have fa1_3 : g 3 = .inr (4, [.ref (ad_1 4), .ref (ad_1 5)]) := by rw [← e1_4, ← e1_5]; exact h_3
  have fa1_7 : g 7 = .inl (ty 6, 6, .inr (.inr (.inr (.inr (va_up (fun _ => none) 0 (some (ad_1 8))))))) := by rw [← e1_8]; exact h_7
  have fa1_8 : g 8 = .inr (5, [.ref (ad_1 14), .int 0]) := by rw [← e1_14]; exact h_8
  replace hB : m_B D ty A s (L ++ [9]) ad_1 (va_up g 9 (.inr (5, [.null, .int 0]))) H locs := hB
  refine W.eq (g2 := F0 m 65 ls [.ref (ad_1 9), .int 1, .ref (ad_1 7)]) (by rw [e1_7]) ?_
  refine lv_dup hx hb dX8_init_65 rfl ?_
  refine lv_bipush (v := 80) hx hb dX8_init_66 (by decide) ?_
  refine m_callI (r := 9) (As := [.int 80]) (rest := [.ref (ad_1 9), .int 1, .ref (ad_1 7)]) (c_Row_init l D ty (L ++ [9]) ad_1 _ 9 15 80 (List.mem_append_right _ List.mem_cons_self) (va_up_self _ _ _) (nin_app (hnew 15 (by decide)) (by decide)) (by decide) (by decide)) ⟨hx, hb, hml, hown, hts⟩ (cwI 1 hts gX8_init_X5_init rfl rfl rfl (hts (.initialized RX5) (by decide +kernel)) (hts (.methodLink RX8 11 yX5_init) (by decide +kernel)) (hts (.instanceMethod yX5_init) (by decide +kernel)) rfl (by decide +kernel) ⟨Nat.le_of_ble_eq_true rfl, Nat.le_of_ble_eq_true rfl⟩) hB rfl hl.1 rfl (Nat.le_of_ble_eq_true rfl) dX8_init_68 ⟨Nat.le_of_ble_eq_true rfl, Nat.le_of_ble_eq_true rfl⟩ (fun v168 L168 ad_168 g168 H locs hp168 hB => ?_)
  obtain ⟨q1_168, q2_168, had_168, q4_168⟩ := hp168
  subst q2_168
  have e168_0 : ad_1 0 = ad_168 0 := had_168 0 (List.mem_append_left _ m_0)
  have e168_1 : ad_1 1 = ad_168 1 := had_168 1 (List.mem_append_left _ m_1)
  have e168_14 : ad_1 14 = ad_168 14 := had_168 14 (List.mem_append_left _ m_14)
  have e168_2 : ad_1 2 = ad_168 2 := had_168 2 (List.mem_append_left _ m_2)
  have e168_3 : ad_1 3 = ad_168 3 := had_168 3 (List.mem_append_left _ m_3)
  have e168_4 : ad_1 4 = ad_168 4 := had_168 4 (List.mem_append_left _ m_4)
  have e168_5 : ad_1 5 = ad_168 5 := had_168 5 (List.mem_append_left _ m_5)
  have e168_6 : ad_1 6 = ad_168 6 := had_168 6 (List.mem_append_left _ m_6)
  have e168_7 : ad_1 7 = ad_168 7 := had_168 7 (List.mem_append_left _ m_7)
  have e168_8 : ad_1 8 = ad_168 8 := had_168 8 (List.mem_append_left _ m_8)
  have e168_9 : ad_1 9 = ad_168 9 := had_168 9 (List.mem_append_right _ List.mem_cons_self)
  replace hl : lv_has ls 2 [(0, .ref (ad_168 0)), (1, .int 1)] := by rw [← e168_0]; exact hl
  have fa168_0 : (va_up g 9 (.inr (5, [.null, .int 0]))) 0 = .inr (8, [.ref (ad_168 1), .ref (ad_168 3), .ref (ad_168 6), .int 0, .ref (ad_168 7), .null, .null, .null, .int 0, .null, .int 0, .long 0]) := by rw [← e168_1, ← e168_3, ← e168_6, ← e168_7]; exact ((va_up_ne _ _ (by decide)).trans fa1_0)
  have fa168_1 : (va_up g 9 (.inr (5, [.null, .int 0]))) 1 = .inr (5, [.ref (ad_168 2), .int 0]) := by rw [← e168_2]; exact ((va_up_ne _ _ (by decide)).trans fa1_1)
  have fa168_3 : (va_up g 9 (.inr (5, [.null, .int 0]))) 3 = .inr (4, [.ref (ad_168 4), .ref (ad_168 5)]) := by rw [← e168_4, ← e168_5]; exact ((va_up_ne _ _ (by decide)).trans fa1_3)
  have fa168_7 : (va_up g 9 (.inr (5, [.null, .int 0]))) 7 = .inl (ty 6, 6, .inr (.inr (.inr (.inr (va_up (fun _ => none) 0 (some (ad_168 8))))))) := by rw [← e168_8]; exact ((va_up_ne _ _ (by decide)).trans fa1_7)
  have fa168_8 : (va_up g 9 (.inr (5, [.null, .int 0]))) 8 = .inr (5, [.ref (ad_168 14), .int 0]) := by rw [← e168_14]; exact ((va_up_ne _ _ (by decide)).trans fa1_8)
  replace hB : m_B D ty A s ((L ++ [9]) ++ [15]) ad_168 (va_up (va_up (va_up g 9 (.inr (5, [.null, .int 0]))) 15 (.inl (ty 2, 80, .inl (fun _ => 0)))) 9 (.inr (5, [.ref (ad_168 15), .int 0]))) H locs := by rw [q4_168] at hB; exact hB
  refine W.eq (g2 := F0 m 71 ls [.ref (ad_168 9), .int 1, .ref (ad_168 7)]) (by rw [q1_168]; (try rw [e168_7]); (try rw [e168_9]); rfl) ?_
  refine n_aast hx hb hB (List.mem_append_left _ (List.mem_append_left _ m_7)) 6 ((va_up_ne _ _ (by decide)).trans ((va_up_ne _ _ (by decide)).trans fa168_7)) rfl (List.mem_append_left _ (List.mem_append_right _ List.mem_cons_self)) (va_up_self _ _ _) rfl (fun _ _ h1 h2 => m_asg_self h1 h2) 1 rfl (by omega) (by omega) dX8_init_71 (fun H locs hB => ?_)
  replace hB : m_B D ty A s ((L ++ [9]) ++ [15]) ad_168 (va_up (va_up (va_up (va_up g 9 (.inr (5, [.null, .int 0]))) 15 (.inl (ty 2, 80, .inl (fun _ => 0)))) 9 (.inr (5, [.ref (ad_168 15), .int 0]))) 7 (.inl (ty 6, 6, .inr (.inr (.inr (.inr (va_up (va_up (fun _ => none) 0 (some (ad_168 8))) 1 (some (ad_168 9))))))))) H locs := hB
  refine lv_iinc (v := 2) (lv' := [(1, .int 2), (0, .ref (ad_168 0))]) hx hb dX8_init_72 hl (k := 1) rfl (by decide) (by decide) rfl (fun ls hl => ?_)
  refine lv_goto (tgt := 48) hx hb dX8_init_75 (by decide) ?_
  exact xi_7 hx hb hml hrt hlocks hown hts hin hB (lv_sub hl [1, 0] rfl) (List.mem_append_left _ (List.mem_append_left _ m_0)) (List.mem_append_left _ (List.mem_append_left _ m_1)) (List.mem_append_left _ (List.mem_append_left _ m_2)) (List.mem_append_left _ (List.mem_append_left _ m_3)) (List.mem_append_left _ (List.mem_append_left _ m_4)) (List.mem_append_left _ (List.mem_append_left _ m_5)) (List.mem_append_left _ (List.mem_append_left _ m_6)) (List.mem_append_left _ (List.mem_append_left _ m_7)) (List.mem_append_left _ (List.mem_append_left _ m_8)) (List.mem_append_left _ (List.mem_append_left _ m_14)) (List.mem_append_left _ (List.mem_append_right _ List.mem_cons_self)) (List.mem_append_right _ List.mem_cons_self) ((va_up_ne _ _ (by decide)).trans ((va_up_ne _ _ (by decide)).trans ((va_up_ne _ _ (by decide)).trans fa168_0))) ((va_up_ne _ _ (by decide)).trans ((va_up_ne _ _ (by decide)).trans ((va_up_ne _ _ (by decide)).trans fa168_1))) ((va_up_ne _ _ (by decide)).trans ((va_up_ne _ _ (by decide)).trans ((va_up_ne _ _ (by decide)).trans ((va_up_ne _ _ (by decide)).trans h_2)))) ((va_up_ne _ _ (by decide)).trans ((va_up_ne _ _ (by decide)).trans ((va_up_ne _ _ (by decide)).trans fa168_3))) ((va_up_ne _ _ (by decide)).trans ((va_up_ne _ _ (by decide)).trans ((va_up_ne _ _ (by decide)).trans ((va_up_ne _ _ (by decide)).trans h_4)))) ((va_up_ne _ _ (by decide)).trans ((va_up_ne _ _ (by decide)).trans ((va_up_ne _ _ (by decide)).trans ((va_up_ne _ _ (by decide)).trans h_5)))) ((va_up_ne _ _ (by decide)).trans ((va_up_ne _ _ (by decide)).trans ((va_up_ne _ _ (by decide)).trans ((va_up_ne _ _ (by decide)).trans h_6)))) (va_up_self _ _ _) ((va_up_ne _ _ (by decide)).trans ((va_up_ne _ _ (by decide)).trans ((va_up_ne _ _ (by decide)).trans fa168_8))) ((va_up_ne _ _ (by decide)).trans ((va_up_ne _ _ (by decide)).trans ((va_up_ne _ _ (by decide)).trans ((va_up_ne _ _ (by decide)).trans h_14)))) ((va_up_ne _ _ (by decide)).trans (va_up_self _ _ _)) ((va_up_ne _ _ (by decide)).trans ((va_up_ne _ _ (by decide)).trans (va_up_self _ _ _))) (fun r hr => by
    have h1 := (by decide : ∀ r ∈ ([10, 16, 11, 17, 12, 18, 13, 19, 20, 21, 22, 23, 24, 25, 26, 27, 28, 29] : List Nat), r ∈ ([9, 15, 10, 16, 11, 17, 12, 18, 13, 19, 20, 21, 22, 23, 24, 25, 26, 27, 28, 29] : List Nat)) r hr
    have h2 := (by decide : ∀ r ∈ ([10, 16, 11, 17, 12, 18, 13, 19, 20, 21, 22, 23, 24, 25, 26, 27, 28, 29] : List Nat), r ≠ 9 ∧ r ≠ 15) r hr
    exact (nin_app (nin_app (hnew r h1) h2.1) h2.2)) (fun x hx0 => by
    have hx := (hF x hx0).1
    have hn_7 : x ≠ 7 := fun e9 => hN (by rw [← e9]; exact hx0)
    refine ⟨(List.mem_append_left _ (List.mem_append_left _ hx)), (hF x hx0).2.1.trans (((((rfl).trans (had_1 x hx))).trans (had_168 x (List.mem_append_left _ hx)))), fun hn_0 => ?_⟩
    exact (((va_up_ne _ _ hn_7).trans ((va_up_ne _ _ (fun e9 => (hnew 9 (by decide)) (by rw [← e9]; exact hx))).trans ((va_up_ne _ _ (fun e9 => (hnew 15 (by decide)) (by rw [← e9]; exact hx))).trans ((va_up_ne _ _ (fun e9 => (hnew 9 (by decide)) (by rw [← e9]; exact hx))).trans rfl))))).trans ((hF x hx0).2.2 hn_0)) (all_app (all_app hO (Or.inr (by decide))) (Or.inr (by decide))) hN
set_option maxHeartbeats 4000000 in
set_option maxRecDepth 100000 in
theorem xi_5 {p : Program} {l : Launch} {e : Env} {s : State} {m : MethodId} {args : Array Value} {below : List Frame} {meth : Method} {c : Code} {A : Nat → Prop} {D : va_G} {ty : Nat → ClassId} {L0 : List Nat} {ad0 : Nat → Nat} {g0 : Nat → va_E} {L : List Nat} {ad : Nat → Nat} {g : Nat → va_E} {H : Heap} {locs : List Loc} {ls : Array Slot} (hx : p.tables.exec = Jvm.exec) (hb : c.code = cX8_init) (hml : c.maxLocals = 2) (hrt : meth.sig.returnType = none) (hlocks : meth.locks = false) (hown : s.vm.findClass RX8 = some m.cls) (hts : ∀ w ∈ wsX8_init, w.before args s = true) (hin : meth.name = "<init>") (hB : m_B D ty A s L ad g H locs) (hl : lv_has ls 2 [(0, .ref (ad 0)), (1, .int 0)]) (m_0 : 0 ∈ L) (m_1 : 1 ∈ L) (m_2 : 2 ∈ L) (m_3 : 3 ∈ L) (m_4 : 4 ∈ L) (m_5 : 5 ∈ L) (m_6 : 6 ∈ L) (m_7 : 7 ∈ L) (h_0 : g 0 = .inr (8, [.ref (ad 1), .ref (ad 3), .ref (ad 6), .int 0, .ref (ad 7), .null, .null, .null, .int 0, .null, .int 0, .long 0])) (h_1 : g 1 = .inr (5, [.ref (ad 2), .int 0])) (h_2 : g 2 = .inl (ty 2, 40, .inl (fun _ => 0))) (h_3 : g 3 = .inr (4, [.ref (ad 4), .ref (ad 5)])) (h_4 : g 4 = .inl (ty 0, 12, .inl (fun _ => 0))) (h_5 : g 5 = .inl (ty 0, 12, .inl (fun _ => 0))) (h_6 : g 6 = .inl (ty 4, 8, .inr (.inr (.inr (.inr (fun _ => none)))))) (h_7 : g 7 = .inl (ty 6, 6, .inr (.inr (.inr (.inr (fun _ => none)))))) (hnew : ∀ r ∈ ([8, 14, 9, 15, 10, 16, 11, 17, 12, 18, 13, 19, 20, 21, 22, 23, 24, 25, 26, 27, 28, 29] : List Nat), r ∉ L) (hF : ∀ x ∈ L0, x ∈ L ∧ ad0 x = ad x ∧ (x ≠ 0 → g x = g0 x)) (hO : ∀ x ∈ L, x ∈ L0 ∨ x < 30) (hN : 7 ∉ L0) : W p l e ({ frames := 2, cells := 29, slots := 1739, locals := 42 } : Room) s m args below meth c H locs 7 122 (MQ below (m_Q D A (xi_post ty L0 ad0 g0)) args s 29 1739 A) (F0 m 48 ls []) := by
  refine lv_iload_n hx hb dX8_init_48 rfl (lv_at hl 1 rfl) ?_
  refine lv_aload_n hx hb dX8_init_49 rfl (lv_at hl 0 rfl) ?_
  refine m_get (C := RX8) (T := TX8) (N := 12) (ci := 8) hx hb hts in_X8_init_X8 hown hB m_0 h_0 rfl 4 (by decide) (hts (.fieldLink RX8 31 "PaperRoom" "lastViews" "[LPaperRoom$Row;") (by decide +kernel)) (fun _ h9 => h9) rfl dX8_init_50 ?_
  refine m_alen hx hb hB m_7 6 h_7 rfl (v := nI 6) rfl dX8_init_53 ?_
  refine b_icmp_ge_f 78 hx hb dX8_init_54 (by decide) (by decide) ?_
  refine lv_aload_n hx hb dX8_init_57 rfl (lv_at hl 0 rfl) ?_
  refine m_get (C := RX8) (T := TX8) (N := 12) (ci := 8) hx hb hts in_X8_init_X8 hown hB m_0 h_0 rfl 4 (by decide) (hts (.fieldLink RX8 31 "PaperRoom" "lastViews" "[LPaperRoom$Row;") (by decide +kernel)) (fun _ h9 => h9) rfl dX8_init_58 ?_
  refine lv_iload_n hx hb dX8_init_61 rfl (lv_at hl 1 rfl) ?_
  refine n_new (C := RX5) (T := TX5) (N := 2) (ci := 5) (fs := [.null, .int 0]) hx hb hts in_X8_init_X5 tyX5 tyX5_ok hown (hts (.classLink RX8 9 RX5) (by decide +kernel)) (hts (.instantiable RX5 2) (by decide +kernel)) (hts (.initialized RX5) (by decide +kernel)) hB 8 (hnew 8 (by decide)) rfl (by decide +kernel) (Nat.le_of_ble_eq_true rfl) (Nat.le_of_ble_eq_true rfl) dX8_init_62 (fun ad_1 H had_1 hB => ?_)
  have e1_0 : ad 0 = ad_1 0 := had_1 0 m_0
  have e1_1 : ad 1 = ad_1 1 := had_1 1 m_1
  have e1_2 : ad 2 = ad_1 2 := had_1 2 m_2
  have e1_3 : ad 3 = ad_1 3 := had_1 3 m_3
  have e1_4 : ad 4 = ad_1 4 := had_1 4 m_4
  have e1_5 : ad 5 = ad_1 5 := had_1 5 m_5
  have e1_6 : ad 6 = ad_1 6 := had_1 6 m_6
  have e1_7 : ad 7 = ad_1 7 := had_1 7 m_7
  replace hl : lv_has ls 2 [(0, .ref (ad_1 0)), (1, .int 0)] := by rw [← e1_0]; exact hl
  have fa1_0 : g 0 = .inr (8, [.ref (ad_1 1), .ref (ad_1 3), .ref (ad_1 6), .int 0, .ref (ad_1 7), .null, .null, .null, .int 0, .null, .int 0, .long 0]) := by rw [← e1_1, ← e1_3, ← e1_6, ← e1_7]; exact h_0
  have fa1_1 : g 1 = .inr (5, [.ref (ad_1 2), .int 0]) := by rw [← e1_2]; exact h_1
  have fa1_3 : g 3 = .inr (4, [.ref (ad_1 4), .ref (ad_1 5)]) := by rw [← e1_4, ← e1_5]; exact h_3
  replace hB : m_B D ty A s (L ++ [8]) ad_1 (va_up g 8 (.inr (5, [.null, .int 0]))) H locs := hB
  refine W.eq (g2 := F0 m 65 ls [.ref (ad_1 8), .int 0, .ref (ad_1 7)]) (by rw [e1_7]) ?_
  refine lv_dup hx hb dX8_init_65 rfl ?_
  refine lv_bipush (v := 80) hx hb dX8_init_66 (by decide) ?_
  refine m_callI (r := 8) (As := [.int 80]) (rest := [.ref (ad_1 8), .int 0, .ref (ad_1 7)]) (c_Row_init l D ty (L ++ [8]) ad_1 _ 8 14 80 (List.mem_append_right _ List.mem_cons_self) (va_up_self _ _ _) (nin_app (hnew 14 (by decide)) (by decide)) (by decide) (by decide)) ⟨hx, hb, hml, hown, hts⟩ (cwI 1 hts gX8_init_X5_init rfl rfl rfl (hts (.initialized RX5) (by decide +kernel)) (hts (.methodLink RX8 11 yX5_init) (by decide +kernel)) (hts (.instanceMethod yX5_init) (by decide +kernel)) rfl (by decide +kernel) ⟨Nat.le_of_ble_eq_true rfl, Nat.le_of_ble_eq_true rfl⟩) hB rfl hl.1 rfl (Nat.le_of_ble_eq_true rfl) dX8_init_68 ⟨Nat.le_of_ble_eq_true rfl, Nat.le_of_ble_eq_true rfl⟩ (fun v168 L168 ad_168 g168 H locs hp168 hB => ?_)
  obtain ⟨q1_168, q2_168, had_168, q4_168⟩ := hp168
  subst q2_168
  have e168_0 : ad_1 0 = ad_168 0 := had_168 0 (List.mem_append_left _ m_0)
  have e168_1 : ad_1 1 = ad_168 1 := had_168 1 (List.mem_append_left _ m_1)
  have e168_2 : ad_1 2 = ad_168 2 := had_168 2 (List.mem_append_left _ m_2)
  have e168_3 : ad_1 3 = ad_168 3 := had_168 3 (List.mem_append_left _ m_3)
  have e168_4 : ad_1 4 = ad_168 4 := had_168 4 (List.mem_append_left _ m_4)
  have e168_5 : ad_1 5 = ad_168 5 := had_168 5 (List.mem_append_left _ m_5)
  have e168_6 : ad_1 6 = ad_168 6 := had_168 6 (List.mem_append_left _ m_6)
  have e168_7 : ad_1 7 = ad_168 7 := had_168 7 (List.mem_append_left _ m_7)
  have e168_8 : ad_1 8 = ad_168 8 := had_168 8 (List.mem_append_right _ List.mem_cons_self)
  replace hl : lv_has ls 2 [(0, .ref (ad_168 0)), (1, .int 0)] := by rw [← e168_0]; exact hl
  have fa168_0 : (va_up g 8 (.inr (5, [.null, .int 0]))) 0 = .inr (8, [.ref (ad_168 1), .ref (ad_168 3), .ref (ad_168 6), .int 0, .ref (ad_168 7), .null, .null, .null, .int 0, .null, .int 0, .long 0]) := by rw [← e168_1, ← e168_3, ← e168_6, ← e168_7]; exact ((va_up_ne _ _ (by decide)).trans fa1_0)
  have fa168_1 : (va_up g 8 (.inr (5, [.null, .int 0]))) 1 = .inr (5, [.ref (ad_168 2), .int 0]) := by rw [← e168_2]; exact ((va_up_ne _ _ (by decide)).trans fa1_1)
  have fa168_3 : (va_up g 8 (.inr (5, [.null, .int 0]))) 3 = .inr (4, [.ref (ad_168 4), .ref (ad_168 5)]) := by rw [← e168_4, ← e168_5]; exact ((va_up_ne _ _ (by decide)).trans fa1_3)
  replace hB : m_B D ty A s ((L ++ [8]) ++ [14]) ad_168 (va_up (va_up (va_up g 8 (.inr (5, [.null, .int 0]))) 14 (.inl (ty 2, 80, .inl (fun _ => 0)))) 8 (.inr (5, [.ref (ad_168 14), .int 0]))) H locs := by rw [q4_168] at hB; exact hB
  refine W.eq (g2 := F0 m 71 ls [.ref (ad_168 8), .int 0, .ref (ad_168 7)]) (by rw [q1_168]; (try rw [e168_7]); (try rw [e168_8]); rfl) ?_
  refine n_aast hx hb hB (List.mem_append_left _ (List.mem_append_left _ m_7)) 6 ((va_up_ne _ _ (by decide)).trans ((va_up_ne _ _ (by decide)).trans ((va_up_ne _ _ (by decide)).trans h_7))) rfl (List.mem_append_left _ (List.mem_append_right _ List.mem_cons_self)) (va_up_self _ _ _) rfl (fun _ _ h1 h2 => m_asg_self h1 h2) 0 rfl (by omega) (by omega) dX8_init_71 (fun H locs hB => ?_)
  replace hB : m_B D ty A s ((L ++ [8]) ++ [14]) ad_168 (va_up (va_up (va_up (va_up g 8 (.inr (5, [.null, .int 0]))) 14 (.inl (ty 2, 80, .inl (fun _ => 0)))) 8 (.inr (5, [.ref (ad_168 14), .int 0]))) 7 (.inl (ty 6, 6, .inr (.inr (.inr (.inr (va_up (fun _ => none) 0 (some (ad_168 8))))))))) H locs := hB
  refine lv_iinc (v := 1) (lv' := [(1, .int 1), (0, .ref (ad_168 0))]) hx hb dX8_init_72 hl (k := 1) rfl (by decide) (by decide) rfl (fun ls hl => ?_)
  refine lv_goto (tgt := 48) hx hb dX8_init_75 (by decide) ?_
  exact xi_6 hx hb hml hrt hlocks hown hts hin hB (lv_sub hl [1, 0] rfl) (List.mem_append_left _ (List.mem_append_left _ m_0)) (List.mem_append_left _ (List.mem_append_left _ m_1)) (List.mem_append_left _ (List.mem_append_left _ m_2)) (List.mem_append_left _ (List.mem_append_left _ m_3)) (List.mem_append_left _ (List.mem_append_left _ m_4)) (List.mem_append_left _ (List.mem_append_left _ m_5)) (List.mem_append_left _ (List.mem_append_left _ m_6)) (List.mem_append_left _ (List.mem_append_left _ m_7)) (List.mem_append_left _ (List.mem_append_right _ List.mem_cons_self)) (List.mem_append_right _ List.mem_cons_self) ((va_up_ne _ _ (by decide)).trans ((va_up_ne _ _ (by decide)).trans ((va_up_ne _ _ (by decide)).trans fa168_0))) ((va_up_ne _ _ (by decide)).trans ((va_up_ne _ _ (by decide)).trans ((va_up_ne _ _ (by decide)).trans fa168_1))) ((va_up_ne _ _ (by decide)).trans ((va_up_ne _ _ (by decide)).trans ((va_up_ne _ _ (by decide)).trans ((va_up_ne _ _ (by decide)).trans h_2)))) ((va_up_ne _ _ (by decide)).trans ((va_up_ne _ _ (by decide)).trans ((va_up_ne _ _ (by decide)).trans fa168_3))) ((va_up_ne _ _ (by decide)).trans ((va_up_ne _ _ (by decide)).trans ((va_up_ne _ _ (by decide)).trans ((va_up_ne _ _ (by decide)).trans h_4)))) ((va_up_ne _ _ (by decide)).trans ((va_up_ne _ _ (by decide)).trans ((va_up_ne _ _ (by decide)).trans ((va_up_ne _ _ (by decide)).trans h_5)))) ((va_up_ne _ _ (by decide)).trans ((va_up_ne _ _ (by decide)).trans ((va_up_ne _ _ (by decide)).trans ((va_up_ne _ _ (by decide)).trans h_6)))) (va_up_self _ _ _) ((va_up_ne _ _ (by decide)).trans (va_up_self _ _ _)) ((va_up_ne _ _ (by decide)).trans ((va_up_ne _ _ (by decide)).trans (va_up_self _ _ _))) (fun r hr => by
    have h1 := (by decide : ∀ r ∈ ([9, 15, 10, 16, 11, 17, 12, 18, 13, 19, 20, 21, 22, 23, 24, 25, 26, 27, 28, 29] : List Nat), r ∈ ([8, 14, 9, 15, 10, 16, 11, 17, 12, 18, 13, 19, 20, 21, 22, 23, 24, 25, 26, 27, 28, 29] : List Nat)) r hr
    have h2 := (by decide : ∀ r ∈ ([9, 15, 10, 16, 11, 17, 12, 18, 13, 19, 20, 21, 22, 23, 24, 25, 26, 27, 28, 29] : List Nat), r ≠ 8 ∧ r ≠ 14) r hr
    exact (nin_app (nin_app (hnew r h1) h2.1) h2.2)) (fun x hx0 => by
    have hx := (hF x hx0).1
    have hn_7 : x ≠ 7 := fun e9 => hN (by rw [← e9]; exact hx0)
    refine ⟨(List.mem_append_left _ (List.mem_append_left _ hx)), (hF x hx0).2.1.trans (((((rfl).trans (had_1 x hx))).trans (had_168 x (List.mem_append_left _ hx)))), fun hn_0 => ?_⟩
    exact (((va_up_ne _ _ hn_7).trans ((va_up_ne _ _ (fun e9 => (hnew 8 (by decide)) (by rw [← e9]; exact hx))).trans ((va_up_ne _ _ (fun e9 => (hnew 14 (by decide)) (by rw [← e9]; exact hx))).trans ((va_up_ne _ _ (fun e9 => (hnew 8 (by decide)) (by rw [← e9]; exact hx))).trans rfl))))).trans ((hF x hx0).2.2 hn_0)) (all_app (all_app hO (Or.inr (by decide))) (Or.inr (by decide))) hN
set_option maxHeartbeats 4000000 in
set_option maxRecDepth 100000 in
theorem xi_4 {p : Program} {l : Launch} {e : Env} {s : State} {m : MethodId} {args : Array Value} {below : List Frame} {meth : Method} {c : Code} {A : Nat → Prop} {D : va_G} {ty : Nat → ClassId} {L0 : List Nat} {ad0 : Nat → Nat} {g0 : Nat → va_E} {L : List Nat} {ad : Nat → Nat} {g : Nat → va_E} {H : Heap} {locs : List Loc} {ls : Array Slot} (hx : p.tables.exec = Jvm.exec) (hb : c.code = cX8_init) (hml : c.maxLocals = 2) (hrt : meth.sig.returnType = none) (hlocks : meth.locks = false) (hown : s.vm.findClass RX8 = some m.cls) (hts : ∀ w ∈ wsX8_init, w.before args s = true) (hin : meth.name = "<init>") (hB : m_B D ty A s L ad g H locs) (hl : lv_has ls 2 [(0, .ref (ad 0))]) (m_0 : 0 ∈ L) (m_1 : 1 ∈ L) (m_2 : 2 ∈ L) (m_3 : 3 ∈ L) (m_4 : 4 ∈ L) (m_5 : 5 ∈ L) (m_6 : 6 ∈ L) (h_0 : g 0 = .inr (8, [.ref (ad 1), .ref (ad 3), .ref (ad 6), .int 0, .null, .null, .null, .null, .int 0, .null, .int 0, .long 0])) (h_1 : g 1 = .inr (5, [.ref (ad 2), .int 0])) (h_2 : g 2 = .inl (ty 2, 40, .inl (fun _ => 0))) (h_3 : g 3 = .inr (4, [.ref (ad 4), .ref (ad 5)])) (h_4 : g 4 = .inl (ty 0, 12, .inl (fun _ => 0))) (h_5 : g 5 = .inl (ty 0, 12, .inl (fun _ => 0))) (h_6 : g 6 = .inl (ty 4, 8, .inr (.inr (.inr (.inr (fun _ => none)))))) (hnew : ∀ r ∈ ([7, 8, 14, 9, 15, 10, 16, 11, 17, 12, 18, 13, 19, 20, 21, 22, 23, 24, 25, 26, 27, 28, 29] : List Nat), r ∉ L) (hF : ∀ x ∈ L0, x ∈ L ∧ ad0 x = ad x ∧ (x ≠ 0 → g x = g0 x)) (hO : ∀ x ∈ L, x ∈ L0 ∨ x < 30) (hN : 7 ∉ L0) : W p l e ({ frames := 2, cells := 29, slots := 1739, locals := 42 } : Room) s m args below meth c H locs 6 116 (MQ below (m_Q D A (xi_post ty L0 ad0 g0)) args s 29 1739 A) (F0 m 37 ls []) := by
  refine lv_aload_n hx hb dX8_init_37 rfl (lv_at hl 0 rfl) ?_
  refine lv_bipush (v := 6) hx hb dX8_init_38 (by decide) ?_
  refine n_newq (C := RX5) (N' := 6) hx hb hown (hts (.classLink RX8 9 RX5) (by decide +kernel)) hB.2.1.1.2.2.1 hB 6 rfl 7 (hnew 7 (by decide)) (by decide) (by decide) (by decide) (Nat.le_of_ble_eq_true rfl) (Nat.le_of_ble_eq_true rfl) dX8_init_40 (fun ad_1 H had_1 hB => ?_)
  have e1_0 : ad 0 = ad_1 0 := had_1 0 m_0
  have e1_1 : ad 1 = ad_1 1 := had_1 1 m_1
  have e1_2 : ad 2 = ad_1 2 := had_1 2 m_2
  have e1_3 : ad 3 = ad_1 3 := had_1 3 m_3
  have e1_4 : ad 4 = ad_1 4 := had_1 4 m_4
  have e1_5 : ad 5 = ad_1 5 := had_1 5 m_5
  have e1_6 : ad 6 = ad_1 6 := had_1 6 m_6
  replace hl : lv_has ls 2 [(0, .ref (ad_1 0))] := by rw [← e1_0]; exact hl
  have fa1_0 : g 0 = .inr (8, [.ref (ad_1 1), .ref (ad_1 3), .ref (ad_1 6), .int 0, .null, .null, .null, .null, .int 0, .null, .int 0, .long 0]) := by rw [← e1_1, ← e1_3, ← e1_6]; exact h_0
  have fa1_1 : g 1 = .inr (5, [.ref (ad_1 2), .int 0]) := by rw [← e1_2]; exact h_1
  have fa1_3 : g 3 = .inr (4, [.ref (ad_1 4), .ref (ad_1 5)]) := by rw [← e1_4, ← e1_5]; exact h_3
  replace hB : m_B D ty A s (L ++ [7]) ad_1 (va_up g 7 (.inl (ty 6, 6, .inr (.inr (.inr (.inr (fun _ => none))))))) H locs := hB
  refine W.eq (g2 := F0 m 43 ls [.ref (ad_1 7), .ref (ad_1 0)]) (by rw [e1_0]) ?_
  refine m_putF (C := RX8) (T := TX8) (N := 12) (ci := 8) (v := .ref (ad_1 7)) (ft := .array (.object "PaperRoom$Row")) hx hb hts in_X8_init_X8 tyX8 tyX8_ok nmX8 hown hB (List.mem_append_left _ m_0) ((va_up_ne _ _ (by decide)).trans fa1_0) rfl 4 (by decide) (hts (.fieldLink RX8 31 "PaperRoom" "lastViews" "[LPaperRoom$Row;") (by decide +kernel)) (fun _ h9 => h9) rfl hin rfl (by decide +kernel) rfl rfl (Nat.le_of_ble_eq_true rfl) dX8_init_43 (fun H locs hB => ?_)
  replace hB : m_B D ty A s (L ++ [7]) ad_1 (va_up (va_up g 7 (.inl (ty 6, 6, .inr (.inr (.inr (.inr (fun _ => none))))))) 0 (.inr (8, [.ref (ad_1 1), .ref (ad_1 3), .ref (ad_1 6), .int 0, .ref (ad_1 7), .null, .null, .null, .int 0, .null, .int 0, .long 0]))) H locs := hB
  refine lv_iconst (v := 0) hx hb dX8_init_46 (by decide) ?_
  refine lv_istore_n (lv' := [(1, .int 0), (0, .ref (ad_1 0))]) hx hb dX8_init_47 rfl hl (by decide) rfl (fun ls hl => ?_)
  exact xi_5 hx hb hml hrt hlocks hown hts hin hB (lv_sub hl [1, 0] rfl) (List.mem_append_left _ m_0) (List.mem_append_left _ m_1) (List.mem_append_left _ m_2) (List.mem_append_left _ m_3) (List.mem_append_left _ m_4) (List.mem_append_left _ m_5) (List.mem_append_left _ m_6) (List.mem_append_right _ List.mem_cons_self) (va_up_self _ _ _) ((va_up_ne _ _ (by decide)).trans ((va_up_ne _ _ (by decide)).trans fa1_1)) ((va_up_ne _ _ (by decide)).trans ((va_up_ne _ _ (by decide)).trans h_2)) ((va_up_ne _ _ (by decide)).trans ((va_up_ne _ _ (by decide)).trans fa1_3)) ((va_up_ne _ _ (by decide)).trans ((va_up_ne _ _ (by decide)).trans h_4)) ((va_up_ne _ _ (by decide)).trans ((va_up_ne _ _ (by decide)).trans h_5)) ((va_up_ne _ _ (by decide)).trans ((va_up_ne _ _ (by decide)).trans h_6)) ((va_up_ne _ _ (by decide)).trans (va_up_self _ _ _)) (fun r hr => by
    have h1 := (by decide : ∀ r ∈ ([8, 14, 9, 15, 10, 16, 11, 17, 12, 18, 13, 19, 20, 21, 22, 23, 24, 25, 26, 27, 28, 29] : List Nat), r ∈ ([7, 8, 14, 9, 15, 10, 16, 11, 17, 12, 18, 13, 19, 20, 21, 22, 23, 24, 25, 26, 27, 28, 29] : List Nat)) r hr
    have h2 := (by decide : ∀ r ∈ ([8, 14, 9, 15, 10, 16, 11, 17, 12, 18, 13, 19, 20, 21, 22, 23, 24, 25, 26, 27, 28, 29] : List Nat), r ≠ 7) r hr
    exact (nin_app (hnew r h1) h2)) (fun x hx0 => by
    have hx := (hF x hx0).1
    have hn_7 : x ≠ 7 := fun e9 => hN (by rw [← e9]; exact hx0)
    refine ⟨(List.mem_append_left _ hx), (hF x hx0).2.1.trans (((rfl).trans (had_1 x hx))), fun hn_0 => ?_⟩
    exact (((va_up_ne _ _ hn_0).trans ((va_up_ne _ _ (fun e9 => (hnew 7 (by decide)) (by rw [← e9]; exact hx))).trans rfl))).trans ((hF x hx0).2.2 hn_0)) (all_app hO (Or.inr (by decide))) hN
set_option maxHeartbeats 4000000 in
set_option maxRecDepth 100000 in
theorem xi_3 {p : Program} {l : Launch} {e : Env} {s : State} {m : MethodId} {args : Array Value} {below : List Frame} {meth : Method} {c : Code} {A : Nat → Prop} {D : va_G} {ty : Nat → ClassId} {L0 : List Nat} {ad0 : Nat → Nat} {g0 : Nat → va_E} {L : List Nat} {ad : Nat → Nat} {g : Nat → va_E} {H : Heap} {locs : List Loc} {ls : Array Slot} (hx : p.tables.exec = Jvm.exec) (hb : c.code = cX8_init) (hml : c.maxLocals = 2) (hrt : meth.sig.returnType = none) (hlocks : meth.locks = false) (hown : s.vm.findClass RX8 = some m.cls) (hts : ∀ w ∈ wsX8_init, w.before args s = true) (hin : meth.name = "<init>") (hB : m_B D ty A s L ad g H locs) (hl : lv_has ls 2 [(0, .ref (ad 0))]) (m_0 : 0 ∈ L) (m_1 : 1 ∈ L) (m_2 : 2 ∈ L) (m_3 : 3 ∈ L) (m_4 : 4 ∈ L) (m_5 : 5 ∈ L) (h_0 : g 0 = .inr (8, [.ref (ad 1), .ref (ad 3), .null, .int 0, .null, .null, .null, .null, .int 0, .null, .int 0, .long 0])) (h_1 : g 1 = .inr (5, [.ref (ad 2), .int 0])) (h_2 : g 2 = .inl (ty 2, 40, .inl (fun _ => 0))) (h_3 : g 3 = .inr (4, [.ref (ad 4), .ref (ad 5)])) (h_4 : g 4 = .inl (ty 0, 12, .inl (fun _ => 0))) (h_5 : g 5 = .inl (ty 0, 12, .inl (fun _ => 0))) (hnew : ∀ r ∈ ([6, 7, 8, 14, 9, 15, 10, 16, 11, 17, 12, 18, 13, 19, 20, 21, 22, 23, 24, 25, 26, 27, 28, 29] : List Nat), r ∉ L) (hF : ∀ x ∈ L0, x ∈ L ∧ ad0 x = ad x ∧ (x ≠ 0 → g x = g0 x)) (hO : ∀ x ∈ L, x ∈ L0 ∨ x < 30) (hN : 7 ∉ L0) : W p l e ({ frames := 2, cells := 29, slots := 1739, locals := 42 } : Room) s m args below meth c H locs 5 108 (MQ below (m_Q D A (xi_post ty L0 ad0 g0)) args s 29 1739 A) (F0 m 28 ls []) := by
  refine lv_aload_n hx hb dX8_init_28 rfl (lv_at hl 0 rfl) ?_
  refine lv_bipush (v := 8) hx hb dX8_init_29 (by decide) ?_
  refine n_newq (C := RX2) (N' := 8) hx hb hown (hts (.classLink RX8 25 RX2) (by decide +kernel)) hB.2.1.1.1 hB 4 rfl 6 (hnew 6 (by decide)) (by decide) (by decide) (by decide) (Nat.le_of_ble_eq_true rfl) (Nat.le_of_ble_eq_true rfl) dX8_init_31 (fun ad_1 H had_1 hB => ?_)
  have e1_0 : ad 0 = ad_1 0 := had_1 0 m_0
  have e1_1 : ad 1 = ad_1 1 := had_1 1 m_1
  have e1_2 : ad 2 = ad_1 2 := had_1 2 m_2
  have e1_3 : ad 3 = ad_1 3 := had_1 3 m_3
  have e1_4 : ad 4 = ad_1 4 := had_1 4 m_4
  have e1_5 : ad 5 = ad_1 5 := had_1 5 m_5
  replace hl : lv_has ls 2 [(0, .ref (ad_1 0))] := by rw [← e1_0]; exact hl
  have fa1_0 : g 0 = .inr (8, [.ref (ad_1 1), .ref (ad_1 3), .null, .int 0, .null, .null, .null, .null, .int 0, .null, .int 0, .long 0]) := by rw [← e1_1, ← e1_3]; exact h_0
  have fa1_1 : g 1 = .inr (5, [.ref (ad_1 2), .int 0]) := by rw [← e1_2]; exact h_1
  have fa1_3 : g 3 = .inr (4, [.ref (ad_1 4), .ref (ad_1 5)]) := by rw [← e1_4, ← e1_5]; exact h_3
  replace hB : m_B D ty A s (L ++ [6]) ad_1 (va_up g 6 (.inl (ty 4, 8, .inr (.inr (.inr (.inr (fun _ => none))))))) H locs := hB
  refine W.eq (g2 := F0 m 34 ls [.ref (ad_1 6), .ref (ad_1 0)]) (by rw [e1_0]) ?_
  refine m_putF (C := RX8) (T := TX8) (N := 12) (ci := 8) (v := .ref (ad_1 6)) (ft := .array (.object "PaperRoom$Paper")) hx hb hts in_X8_init_X8 tyX8 tyX8_ok nmX8 hown hB (List.mem_append_left _ m_0) ((va_up_ne _ _ (by decide)).trans fa1_0) rfl 2 (by decide) (hts (.fieldLink RX8 27 "PaperRoom" "papers" "[LPaperRoom$Paper;") (by decide +kernel)) (fun _ h9 => h9) rfl hin rfl (by decide +kernel) rfl rfl (Nat.le_of_ble_eq_true rfl) dX8_init_34 (fun H locs hB => ?_)
  replace hB : m_B D ty A s (L ++ [6]) ad_1 (va_up (va_up g 6 (.inl (ty 4, 8, .inr (.inr (.inr (.inr (fun _ => none))))))) 0 (.inr (8, [.ref (ad_1 1), .ref (ad_1 3), .ref (ad_1 6), .int 0, .null, .null, .null, .null, .int 0, .null, .int 0, .long 0]))) H locs := hB
  exact xi_4 hx hb hml hrt hlocks hown hts hin hB (lv_sub hl [0] rfl) (List.mem_append_left _ m_0) (List.mem_append_left _ m_1) (List.mem_append_left _ m_2) (List.mem_append_left _ m_3) (List.mem_append_left _ m_4) (List.mem_append_left _ m_5) (List.mem_append_right _ List.mem_cons_self) (va_up_self _ _ _) ((va_up_ne _ _ (by decide)).trans ((va_up_ne _ _ (by decide)).trans fa1_1)) ((va_up_ne _ _ (by decide)).trans ((va_up_ne _ _ (by decide)).trans h_2)) ((va_up_ne _ _ (by decide)).trans ((va_up_ne _ _ (by decide)).trans fa1_3)) ((va_up_ne _ _ (by decide)).trans ((va_up_ne _ _ (by decide)).trans h_4)) ((va_up_ne _ _ (by decide)).trans ((va_up_ne _ _ (by decide)).trans h_5)) ((va_up_ne _ _ (by decide)).trans (va_up_self _ _ _)) (fun r hr => by
    have h1 := (by decide : ∀ r ∈ ([7, 8, 14, 9, 15, 10, 16, 11, 17, 12, 18, 13, 19, 20, 21, 22, 23, 24, 25, 26, 27, 28, 29] : List Nat), r ∈ ([6, 7, 8, 14, 9, 15, 10, 16, 11, 17, 12, 18, 13, 19, 20, 21, 22, 23, 24, 25, 26, 27, 28, 29] : List Nat)) r hr
    have h2 := (by decide : ∀ r ∈ ([7, 8, 14, 9, 15, 10, 16, 11, 17, 12, 18, 13, 19, 20, 21, 22, 23, 24, 25, 26, 27, 28, 29] : List Nat), r ≠ 6) r hr
    exact (nin_app (hnew r h1) h2)) (fun x hx0 => by
    have hx := (hF x hx0).1
    have hn_7 : x ≠ 7 := fun e9 => hN (by rw [← e9]; exact hx0)
    refine ⟨(List.mem_append_left _ hx), (hF x hx0).2.1.trans (((rfl).trans (had_1 x hx))), fun hn_0 => ?_⟩
    exact (((va_up_ne _ _ hn_0).trans ((va_up_ne _ _ (fun e9 => (hnew 6 (by decide)) (by rw [← e9]; exact hx))).trans rfl))).trans ((hF x hx0).2.2 hn_0)) (all_app hO (Or.inr (by decide))) hN
set_option maxHeartbeats 4000000 in
set_option maxRecDepth 100000 in
theorem xi_2 {p : Program} {l : Launch} {e : Env} {s : State} {m : MethodId} {args : Array Value} {below : List Frame} {meth : Method} {c : Code} {A : Nat → Prop} {D : va_G} {ty : Nat → ClassId} {L0 : List Nat} {ad0 : Nat → Nat} {g0 : Nat → va_E} {L : List Nat} {ad : Nat → Nat} {g : Nat → va_E} {H : Heap} {locs : List Loc} {ls : Array Slot} (hx : p.tables.exec = Jvm.exec) (hb : c.code = cX8_init) (hml : c.maxLocals = 2) (hrt : meth.sig.returnType = none) (hlocks : meth.locks = false) (hown : s.vm.findClass RX8 = some m.cls) (hts : ∀ w ∈ wsX8_init, w.before args s = true) (hin : meth.name = "<init>") (hB : m_B D ty A s L ad g H locs) (hl : lv_has ls 2 [(0, .ref (ad 0))]) (m_0 : 0 ∈ L) (m_1 : 1 ∈ L) (m_2 : 2 ∈ L) (h_0 : g 0 = .inr (8, [.ref (ad 1), .null, .null, .int 0, .null, .null, .null, .null, .int 0, .null, .int 0, .long 0])) (h_1 : g 1 = .inr (5, [.ref (ad 2), .int 0])) (h_2 : g 2 = .inl (ty 2, 40, .inl (fun _ => 0))) (hnew : ∀ r ∈ ([3, 4, 5, 6, 7, 8, 14, 9, 15, 10, 16, 11, 17, 12, 18, 13, 19, 20, 21, 22, 23, 24, 25, 26, 27, 28, 29] : List Nat), r ∉ L) (hF : ∀ x ∈ L0, x ∈ L ∧ ad0 x = ad x ∧ (x ≠ 0 → g x = g0 x)) (hO : ∀ x ∈ L, x ∈ L0 ∨ x < 30) (hN : 7 ∉ L0) : W p l e ({ frames := 2, cells := 29, slots := 1739, locals := 42 } : Room) s m args below meth c H locs 2 82 (MQ below (m_Q D A (xi_post ty L0 ad0 g0)) args s 29 1739 A) (F0 m 17 ls []) := by
  refine lv_aload_n hx hb dX8_init_17 rfl (lv_at hl 0 rfl) ?_
  refine n_new (C := RX4) (T := TX4) (N := 2) (ci := 4) (fs := [.null, .null]) hx hb hts in_X8_init_X4 tyX4 tyX4_ok hown (hts (.classLink RX8 18 RX4) (by decide +kernel)) (hts (.instantiable RX4 2) (by decide +kernel)) (hts (.initialized RX4) (by decide +kernel)) hB 3 (hnew 3 (by decide)) rfl (by decide +kernel) (Nat.le_of_ble_eq_true rfl) (Nat.le_of_ble_eq_true rfl) dX8_init_18 (fun ad_1 H had_1 hB => ?_)
  have e1_0 : ad 0 = ad_1 0 := had_1 0 m_0
  have e1_1 : ad 1 = ad_1 1 := had_1 1 m_1
  have e1_2 : ad 2 = ad_1 2 := had_1 2 m_2
  replace hl : lv_has ls 2 [(0, .ref (ad_1 0))] := by rw [← e1_0]; exact hl
  have fa1_0 : g 0 = .inr (8, [.ref (ad_1 1), .null, .null, .int 0, .null, .null, .null, .null, .int 0, .null, .int 0, .long 0]) := by rw [← e1_1]; exact h_0
  have fa1_1 : g 1 = .inr (5, [.ref (ad_1 2), .int 0]) := by rw [← e1_2]; exact h_1
  replace hB : m_B D ty A s (L ++ [3]) ad_1 (va_up g 3 (.inr (4, [.null, .null]))) H locs := hB
  refine W.eq (g2 := F0 m 21 ls [.ref (ad_1 3), .ref (ad_1 0)]) (by rw [e1_0]) ?_
  refine lv_dup hx hb dX8_init_21 rfl ?_
  refine m_callIN (r := 3) (As := []) (rest := [.ref (ad_1 3), .ref (ad_1 0)]) (c_Rights_init l D ty (L ++ [3]) ad_1 _ 3 4 5 (List.mem_append_right _ List.mem_cons_self) (va_up_self _ _ _) (nin_app (hnew 4 (by decide)) (by decide)) (nin_app (hnew 5 (by decide)) (by decide)) (by decide) (by decide) (by decide)) ⟨hx, hb, hml, hown, hts⟩ ⟨va_cnB 0 hts gX8_init_X4_init_n20 rfl rfl rfl hB.2.1.2.2.1 (hts (.initialized RX4) (by decide +kernel)) (by decide +kernel) ⟨Nat.le_of_ble_eq_true rfl, Nat.le_of_ble_eq_true rfl⟩, rfl, hts (.instanceMethod yX4_init) (by decide +kernel)⟩ hB rfl hl.1 rfl (Nat.le_of_ble_eq_true rfl) dX8_init_22 ⟨Nat.le_of_ble_eq_true rfl, Nat.le_of_ble_eq_true rfl⟩ (fun v122 L122 ad_122 g122 H locs hp122 hB => ?_)
  obtain ⟨q1_122, q2_122, had_122, hfr_122, hf122_0, hf122_1, hf122_2⟩ := hp122
  subst q2_122
  have e122_0 : ad_1 0 = ad_122 0 := had_122 0 (List.mem_append_left _ m_0)
  have e122_1 : ad_1 1 = ad_122 1 := had_122 1 (List.mem_append_left _ m_1)
  have e122_2 : ad_1 2 = ad_122 2 := had_122 2 (List.mem_append_left _ m_2)
  have e122_3 : ad_1 3 = ad_122 3 := had_122 3 (List.mem_append_right _ List.mem_cons_self)
  replace hl : lv_has ls 2 [(0, .ref (ad_122 0))] := by rw [← e122_0]; exact hl
  have fa122_0 : (va_up g 3 (.inr (4, [.null, .null]))) 0 = .inr (8, [.ref (ad_122 1), .null, .null, .int 0, .null, .null, .null, .null, .int 0, .null, .int 0, .long 0]) := by rw [← e122_1]; exact ((va_up_ne _ _ (by decide)).trans fa1_0)
  have fa122_1 : (va_up g 3 (.inr (4, [.null, .null]))) 1 = .inr (5, [.ref (ad_122 2), .int 0]) := by rw [← e122_2]; exact ((va_up_ne _ _ (by decide)).trans fa1_1)
  refine W.eq (g2 := F0 m 25 ls [.ref (ad_122 3), .ref (ad_122 0)]) (by rw [q1_122]; (try rw [e122_0]); (try rw [e122_3]); rfl) ?_
  refine m_putF (C := RX8) (T := TX8) (N := 12) (ci := 8) (v := .ref (ad_122 3)) (ft := .object "PaperRoom$Rights") hx hb hts in_X8_init_X8 tyX8 tyX8_ok nmX8 hown hB (List.mem_append_left _ (List.mem_append_left _ (List.mem_append_left _ m_0))) ((hfr_122 0 (List.mem_append_left _ m_0) (by decide)).trans fa122_0) rfl 1 (by decide) (hts (.fieldLink RX8 21 "PaperRoom" "granted" "LPaperRoom$Rights;") (by decide +kernel)) (fun _ h9 => h9) rfl hin rfl (by decide +kernel) rfl rfl (Nat.le_of_ble_eq_true rfl) dX8_init_25 (fun H locs hB => ?_)
  replace hB : m_B D ty A s (((L ++ [3]) ++ [4]) ++ [5]) ad_122 (va_up g122 0 (.inr (8, [.ref (ad_122 1), .ref (ad_122 3), .null, .int 0, .null, .null, .null, .null, .int 0, .null, .int 0, .long 0]))) H locs := hB
  exact xi_3 hx hb hml hrt hlocks hown hts hin hB (lv_sub hl [0] rfl) (List.mem_append_left _ (List.mem_append_left _ (List.mem_append_left _ m_0))) (List.mem_append_left _ (List.mem_append_left _ (List.mem_append_left _ m_1))) (List.mem_append_left _ (List.mem_append_left _ (List.mem_append_left _ m_2))) (List.mem_append_left _ (List.mem_append_left _ (List.mem_append_right _ List.mem_cons_self))) (List.mem_append_left _ (List.mem_append_right _ List.mem_cons_self)) (List.mem_append_right _ List.mem_cons_self) (va_up_self _ _ _) ((va_up_ne _ _ (by decide)).trans ((hfr_122 1 (List.mem_append_left _ m_1) (by decide)).trans fa122_1)) ((va_up_ne _ _ (by decide)).trans ((hfr_122 2 (List.mem_append_left _ m_2) (by decide)).trans ((va_up_ne _ _ (by decide)).trans h_2))) ((va_up_ne _ _ (by decide)).trans hf122_0) ((va_up_ne _ _ (by decide)).trans hf122_1) ((va_up_ne _ _ (by decide)).trans hf122_2) (fun r hr => by
    have h1 := (by decide : ∀ r ∈ ([6, 7, 8, 14, 9, 15, 10, 16, 11, 17, 12, 18, 13, 19, 20, 21, 22, 23, 24, 25, 26, 27, 28, 29] : List Nat), r ∈ ([3, 4, 5, 6, 7, 8, 14, 9, 15, 10, 16, 11, 17, 12, 18, 13, 19, 20, 21, 22, 23, 24, 25, 26, 27, 28, 29] : List Nat)) r hr
    have h2 := (by decide : ∀ r ∈ ([6, 7, 8, 14, 9, 15, 10, 16, 11, 17, 12, 18, 13, 19, 20, 21, 22, 23, 24, 25, 26, 27, 28, 29] : List Nat), r ≠ 3 ∧ r ≠ 4 ∧ r ≠ 5) r hr
    exact (nin_app (nin_app (nin_app (hnew r h1) h2.1) h2.2.1) h2.2.2)) (fun x hx0 => by
    have hx := (hF x hx0).1
    have hn_7 : x ≠ 7 := fun e9 => hN (by rw [← e9]; exact hx0)
    refine ⟨(List.mem_append_left _ (List.mem_append_left _ (List.mem_append_left _ hx))), (hF x hx0).2.1.trans (((((rfl).trans (had_1 x hx))).trans (had_122 x (List.mem_append_left _ hx)))), fun hn_0 => ?_⟩
    exact (((va_up_ne _ _ hn_0).trans ((hfr_122 x (List.mem_append_left _ hx) (fun e9 => (hnew 3 (by decide)) (by rw [← e9]; exact hx))).trans ((va_up_ne _ _ (fun e9 => (hnew 3 (by decide)) (by rw [← e9]; exact hx))).trans rfl)))).trans ((hF x hx0).2.2 hn_0)) (all_app (all_app (all_app hO (Or.inr (by decide))) (Or.inr (by decide))) (Or.inr (by decide))) hN
set_option maxHeartbeats 4000000 in
set_option maxRecDepth 100000 in
theorem xi_1 {p : Program} {l : Launch} {e : Env} {s : State} {m : MethodId} {args : Array Value} {below : List Frame} {meth : Method} {c : Code} {A : Nat → Prop} {D : va_G} {ty : Nat → ClassId} {L0 : List Nat} {ad0 : Nat → Nat} {g0 : Nat → va_E} {L : List Nat} {ad : Nat → Nat} {g : Nat → va_E} {H : Heap} {locs : List Loc} {ls : Array Slot} (hx : p.tables.exec = Jvm.exec) (hb : c.code = cX8_init) (hml : c.maxLocals = 2) (hrt : meth.sig.returnType = none) (hlocks : meth.locks = false) (hown : s.vm.findClass RX8 = some m.cls) (hts : ∀ w ∈ wsX8_init, w.before args s = true) (hin : meth.name = "<init>") (hB : m_B D ty A s L ad g H locs) (hl : lv_has ls 2 [(0, .ref (ad 0))]) (m_0 : 0 ∈ L) (h_0 : g 0 = .inr (8, [.null, .null, .null, .int 0, .null, .null, .null, .null, .int 0, .null, .int 0, .long 0])) (hnew : ∀ r ∈ ([1, 2, 3, 4, 5, 6, 7, 8, 14, 9, 15, 10, 16, 11, 17, 12, 18, 13, 19, 20, 21, 22, 23, 24, 25, 26, 27, 28, 29] : List Nat), r ∉ L) (hF : ∀ x ∈ L0, x ∈ L ∧ ad0 x = ad x ∧ (x ≠ 0 → g x = g0 x)) (hO : ∀ x ∈ L, x ∈ L0 ∨ x < 30) (hN : 7 ∉ L0) : W p l e ({ frames := 2, cells := 29, slots := 1739, locals := 42 } : Room) s m args below meth c H locs 0 0 (MQ below (m_Q D A (xi_post ty L0 ad0 g0)) args s 29 1739 A) (F0 m 0 ls []) := by
  refine lv_aload_n hx hb dX8_init_0 rfl (lv_at hl 0 rfl) ?_
  refine W.objInit hx hb hown (hts (.methodLink RX8 3 objectInit) (by decide +kernel)) (hts (.instanceMethod objectInit) (by decide +kernel)) (hts _ oi_X8_init) rfl (by rw [hml]; exact hl.1) rfl dX8_init_1 (Nat.le_of_ble_eq_true rfl) (Nat.le_of_ble_eq_true rfl) ?_
  refine W.eq (g2 := F0 m 4 ls []) rfl ?_
  refine lv_aload_n hx hb dX8_init_4 rfl (lv_at hl 0 rfl) ?_
  refine n_new (C := RX5) (T := TX5) (N := 2) (ci := 5) (fs := [.null, .int 0]) hx hb hts in_X8_init_X5 tyX5 tyX5_ok hown (hts (.classLink RX8 9 RX5) (by decide +kernel)) (hts (.instantiable RX5 2) (by decide +kernel)) (hts (.initialized RX5) (by decide +kernel)) hB 1 (hnew 1 (by decide)) rfl (by decide +kernel) (Nat.le_of_ble_eq_true rfl) (Nat.le_of_ble_eq_true rfl) dX8_init_5 (fun ad_1 H had_1 hB => ?_)
  have e1_0 : ad 0 = ad_1 0 := had_1 0 m_0
  replace hl : lv_has ls 2 [(0, .ref (ad_1 0))] := by rw [← e1_0]; exact hl
  replace hB : m_B D ty A s (L ++ [1]) ad_1 (va_up g 1 (.inr (5, [.null, .int 0]))) H locs := hB
  refine W.eq (g2 := F0 m 8 ls [.ref (ad_1 1), .ref (ad_1 0)]) (by rw [e1_0]) ?_
  refine lv_dup hx hb dX8_init_8 rfl ?_
  refine lv_bipush (v := 40) hx hb dX8_init_9 (by decide) ?_
  refine m_callI (r := 1) (As := [.int 40]) (rest := [.ref (ad_1 1), .ref (ad_1 0)]) (c_Row_init l D ty (L ++ [1]) ad_1 _ 1 2 40 (List.mem_append_right _ List.mem_cons_self) (va_up_self _ _ _) (nin_app (hnew 2 (by decide)) (by decide)) (by decide) (by decide)) ⟨hx, hb, hml, hown, hts⟩ (cwI 1 hts gX8_init_X5_init rfl rfl rfl (hts (.initialized RX5) (by decide +kernel)) (hts (.methodLink RX8 11 yX5_init) (by decide +kernel)) (hts (.instanceMethod yX5_init) (by decide +kernel)) rfl (by decide +kernel) ⟨Nat.le_of_ble_eq_true rfl, Nat.le_of_ble_eq_true rfl⟩) hB rfl hl.1 rfl (Nat.le_of_ble_eq_true rfl) dX8_init_11 ⟨Nat.le_of_ble_eq_true rfl, Nat.le_of_ble_eq_true rfl⟩ (fun v111 L111 ad_111 g111 H locs hp111 hB => ?_)
  obtain ⟨q1_111, q2_111, had_111, q4_111⟩ := hp111
  subst q2_111
  have e111_0 : ad_1 0 = ad_111 0 := had_111 0 (List.mem_append_left _ m_0)
  have e111_1 : ad_1 1 = ad_111 1 := had_111 1 (List.mem_append_right _ List.mem_cons_self)
  replace hl : lv_has ls 2 [(0, .ref (ad_111 0))] := by rw [← e111_0]; exact hl
  replace hB : m_B D ty A s ((L ++ [1]) ++ [2]) ad_111 (va_up (va_up (va_up g 1 (.inr (5, [.null, .int 0]))) 2 (.inl (ty 2, 40, .inl (fun _ => 0)))) 1 (.inr (5, [.ref (ad_111 2), .int 0]))) H locs := by rw [q4_111] at hB; exact hB
  refine W.eq (g2 := F0 m 14 ls [.ref (ad_111 1), .ref (ad_111 0)]) (by rw [q1_111]; (try rw [e111_0]); (try rw [e111_1]); rfl) ?_
  refine m_putF (C := RX8) (T := TX8) (N := 12) (ci := 8) (v := .ref (ad_111 1)) (ft := .object "PaperRoom$Row") hx hb hts in_X8_init_X8 tyX8 tyX8_ok nmX8 hown hB (List.mem_append_left _ (List.mem_append_left _ m_0)) ((va_up_ne _ _ (by decide)).trans ((va_up_ne _ _ (by decide)).trans ((va_up_ne _ _ (by decide)).trans h_0))) rfl 0 (by decide) (hts (.fieldLink RX8 14 "PaperRoom" "draft" "LPaperRoom$Row;") (by decide +kernel)) (fun _ h9 => h9) rfl hin rfl (by decide +kernel) rfl rfl (Nat.le_of_ble_eq_true rfl) dX8_init_14 (fun H locs hB => ?_)
  replace hB : m_B D ty A s ((L ++ [1]) ++ [2]) ad_111 (va_up (va_up (va_up (va_up g 1 (.inr (5, [.null, .int 0]))) 2 (.inl (ty 2, 40, .inl (fun _ => 0)))) 1 (.inr (5, [.ref (ad_111 2), .int 0]))) 0 (.inr (8, [.ref (ad_111 1), .null, .null, .int 0, .null, .null, .null, .null, .int 0, .null, .int 0, .long 0]))) H locs := hB
  exact xi_2 hx hb hml hrt hlocks hown hts hin hB (lv_sub hl [0] rfl) (List.mem_append_left _ (List.mem_append_left _ m_0)) (List.mem_append_left _ (List.mem_append_right _ List.mem_cons_self)) (List.mem_append_right _ List.mem_cons_self) (va_up_self _ _ _) ((va_up_ne _ _ (by decide)).trans (va_up_self _ _ _)) ((va_up_ne _ _ (by decide)).trans ((va_up_ne _ _ (by decide)).trans (va_up_self _ _ _))) (fun r hr => by
    have h1 := (by decide : ∀ r ∈ ([3, 4, 5, 6, 7, 8, 14, 9, 15, 10, 16, 11, 17, 12, 18, 13, 19, 20, 21, 22, 23, 24, 25, 26, 27, 28, 29] : List Nat), r ∈ ([1, 2, 3, 4, 5, 6, 7, 8, 14, 9, 15, 10, 16, 11, 17, 12, 18, 13, 19, 20, 21, 22, 23, 24, 25, 26, 27, 28, 29] : List Nat)) r hr
    have h2 := (by decide : ∀ r ∈ ([3, 4, 5, 6, 7, 8, 14, 9, 15, 10, 16, 11, 17, 12, 18, 13, 19, 20, 21, 22, 23, 24, 25, 26, 27, 28, 29] : List Nat), r ≠ 1 ∧ r ≠ 2) r hr
    exact (nin_app (nin_app (hnew r h1) h2.1) h2.2)) (fun x hx0 => by
    have hx := (hF x hx0).1
    have hn_7 : x ≠ 7 := fun e9 => hN (by rw [← e9]; exact hx0)
    refine ⟨(List.mem_append_left _ (List.mem_append_left _ hx)), (hF x hx0).2.1.trans (((((rfl).trans (had_1 x hx))).trans (had_111 x (List.mem_append_left _ hx)))), fun hn_0 => ?_⟩
    exact (((va_up_ne _ _ hn_0).trans ((va_up_ne _ _ (fun e9 => (hnew 1 (by decide)) (by rw [← e9]; exact hx))).trans ((va_up_ne _ _ (fun e9 => (hnew 2 (by decide)) (by rw [← e9]; exact hx))).trans ((va_up_ne _ _ (fun e9 => (hnew 1 (by decide)) (by rw [← e9]; exact hx))).trans rfl))))).trans ((hF x hx0).2.2 hn_0)) (all_app (all_app hO (Or.inr (by decide))) (Or.inr (by decide))) hN
set_option maxHeartbeats 4000000 in
set_option maxRecDepth 100000 in
theorem c_X_init (l : Launch) (D : va_G) (ty : Nat → ClassId) (L : List Nat) (ad : Nat → Nat) (g : Nat → va_E) (m_0 : 0 ∈ L) (h_0 : g 0 = .inr (8, [.null, .null, .null, .int 0, .null, .null, .null, .null, .int 0, .null, .int 0, .long 0])) (hnew : ∀ r ∈ ([1, 2, 3, 4, 5, 6, 7, 8, 14, 9, 15, 10, 16, 11, 17, 12, 18, 13, 19, 20, 21, 22, 23, 24, 25, 26, 27, 28, 29] : List Nat), r ∉ L) : m_C l yX8_init wsX8_init 2 42 29 1739 D ty [.ref (ad 0)] L ad g (xi_post ty L ad g) := by
  intro sz
  refine Met.ofW (cc := cX8_init) (maxL := 2) (ret := none) (by decide) rfl ?_
  intro p e s m args below meth c s₁ B hml hv
  have hx := B.exec
  have hb := B.bytes
  have hrt := B.returns
  have hts := atoms_spec (ws := wsX8_init) B.pre
  have hown : s.vm.findClass RX8 = some m.cls := findClass_of_methodNamed B.named
  have hlocks := B.notSynchronized
  have hin : meth.name = "<init>" := (name_of_methodNamed B.named B.method).1
  obtain ⟨rfl, hB⟩ := m_start hv
  generalize va_A (m_w L ad g) sz = A at hB ⊢
  generalize s.heap = H at hB ⊢
  generalize ([] : List Loc) = locs at hB ⊢
  have hl := lv_entry ([.ref (ad 0)]) (n := 2) (Nat.le_of_ble_eq_true rfl)
  rw [lg_entry_eq]
  generalize (lg_sl ([.ref (ad 0)]) ++ List.replicate (2 - (lg_sl ([.ref (ad 0)])).length) Slot.unset).toArray = ls at hl ⊢
  have hl : lv_has ls 2 [(0, .ref (ad 0))] := hl
  exact xi_1 hx hb hml hrt hlocks hown hts hin hB hl m_0 h_0 hnew (fun x hx => ⟨hx, rfl, fun _ => rfl⟩) (fun x hx => Or.inl hx) (hnew 7 (by decide))
