set_option maxHeartbeats 4000000 in
theorem s_clear (l : Launch) (D : va_G) (ty : Nat → ClassId) {k : Nat} {L : List Nat} {ad : Nat → Nat} {g : Nat → va_E} {a : Nat → FI} {dn pn en qn mz : Nat} {nw lo : Int32} {tr : Int64}  (hk9 : k < 1000) (hP : PI a dn pn en qn nw k) (hX : RX ty L ad g a dn pn en qn nw lo tr) (hM : RM ty L ad g a dn pn en qn mz nw lo tr) : SimAt Value.int l D ty yX8_clear wsX8_clear 1 20 yX9_clear wsX9_clear 0 0 [] k L ad g a dn pn en qn mz nw lo tr := by
  obtain ⟨⟨hd40, hp8, he200, hq30⟩, pD, pJ, pT, pV, pQ, pK⟩ := id hP
  obtain ⟨cO, cD, cR, cP, cV, cS, cN, cQ, cK, cF⟩ := id hX
  obtain ⟨hL0, h_0⟩ := id cO
  have hv4 : ∀ j, j < pn → nN (a 10 j) ≤ 4 := fun j hj => (pJ j hj).2.2.2.1.2.2
  obtain ⟨h_1, db, h_2, hdb⟩ := id cD
  refine sim_E (nI dn) a 0 pn en qn mz nw lo tr hM ⟨⟨by omega, hp8, he200, hq30⟩, fun i hi => absurd hi (by omega), pJ, pT, pV, pQ, pK.next⟩ (c_X_clear l D ty L ad g _ _ _ _ _ (hL0 0 (by decide)) (hL0 1 (by decide)) h_0 h_1) (fun x hx => (va_up_ne _ _ (by omega))) ⟨cO.fr hL0 (fun _ _ => rfl) (va_up_ne _ _ (by omega)), ⟨by rw [nI_0]; exact va_up_self _ _ _, db, (va_up_ne _ _ (by decide)).trans h_2, fun i hi => absurd hi (by omega)⟩, cR.fr (fun _ _ => rfl) (fun x h1 h2 => (va_up_ne _ _ (by omega))), cP.fr (fun _ h => h) (fun _ _ => rfl) (va_up_ne _ _ (by omega)) (fun x _ h1 h2 => (va_up_ne _ _ (by omega))) hp8 hv4, cV.fr (fun _ _ => rfl) (fun x h1 h2 => (va_up_ne _ _ (by omega))), cS.fr (fun _ _ => rfl) (fun x h1 h2 => (va_up_ne _ _ (by omega))), cN.fr (fun _ _ => rfl) (fun x h1 h2 => (va_up_ne _ _ (by omega))), cQ.fr (fun _ h => h) (fun _ _ => rfl) (va_up_ne _ _ (by omega)) (fun x _ h1 h2 => (va_up_ne _ _ (by omega))) hq30, cK.fr (va_up_ne _ _ (by omega)), cF⟩ (fun L1 ad1 g1 hR9 => c_M_clear l D ty L1 ad1 g1 a dn pn en qn mz nw lo tr hR9)
set_option maxHeartbeats 4000000 in
theorem s_trace (l : Launch) (D : va_G) (ty : Nat → ClassId) {k : Nat} {L : List Nat} {ad : Nat → Nat} {g : Nat → va_E} {a : Nat → FI} {dn pn en qn mz : Nat} {nw lo : Int32} {tr : Int64}  (hk9 : k < 1000) (hP : PI a dn pn en qn nw k) (hX : RX ty L ad g a dn pn en qn nw lo tr) (hM : RM ty L ad g a dn pn en qn mz nw lo tr) : SimAt Value.long l D ty yX8_trace wsX8_trace 0 0 yX9_trace wsX9_trace 0 0 [] k L ad g a dn pn en qn mz nw lo tr := by
  obtain ⟨⟨hd40, hp8, he200, hq30⟩, pD, pJ, pT, pV, pQ, pK⟩ := id hP
  obtain ⟨cO, cD, cR, cP, cV, cS, cN, cQ, cK, cF⟩ := id hX
  obtain ⟨hL0, h_0⟩ := id cO
  have hv4 : ∀ j, j < pn → nN (a 10 j) ≤ 4 := fun j hj => (pJ j hj).2.2.2.1.2.2
  exact sim_S (tr) hM hX hP (c_X_trace l D ty L ad g _ _ _ _ (hL0 0 (by decide)) h_0) (fun L1 ad1 g1 hR9 => c_M_trace l D ty L1 ad1 g1 a dn pn en qn mz nw lo tr hR9)
set_option maxHeartbeats 4000000 in
theorem s_count (l : Launch) (D : va_G) (ty : Nat → ClassId) {k : Nat} {L : List Nat} {ad : Nat → Nat} {g : Nat → va_E} {a : Nat → FI} {dn pn en qn mz : Nat} {nw lo : Int32} {tr : Int64} (w : Int32) (hk9 : k < 1000) (hP : PI a dn pn en qn nw k) (hX : RX ty L ad g a dn pn en qn nw lo tr) (hM : RM ty L ad g a dn pn en qn mz nw lo tr) : SimAt Value.int l D ty yX8_count wsX8_count 1 20 yX9_count wsX9_count 0 0 [.int w] k L ad g a dn pn en qn mz nw lo tr := by
  obtain ⟨⟨hd40, hp8, he200, hq30⟩, pD, pJ, pT, pV, pQ, pK⟩ := id hP
  obtain ⟨cO, cD, cR, cP, cV, cS, cN, cQ, cK, cF⟩ := id hX
  obtain ⟨hL0, h_0⟩ := id cO
  have hv4 : ∀ j, j < pn → nN (a 10 j) ≤ 4 := fun j hj => (pJ j hj).2.2.2.1.2.2
  obtain ⟨h_1, db, h_2, hdb⟩ := id cD
  obtain ⟨h_22, h_23, h_24, h_25, h_26, f4, h_27, hlk⟩ := id cN
  rcases sw w with rfl | rfl | rfl | rfl | rfl | rfl | hw
  · exact sim_S (nI pn) hM hX hP (c_X_count_0 l D ty L ad g _ _ _ _ (hL0 0 (by decide)) h_0) (fun L1 ad1 g1 hR9 => c_M_count_0 l D ty L1 ad1 g1 a dn pn en qn mz nw lo tr hR9)
  · exact sim_S (nw) hM hX hP (c_X_count_1 l D ty L ad g _ _ _ _ (hL0 0 (by decide)) h_0) (fun L1 ad1 g1 hR9 => c_M_count_1 l D ty L1 ad1 g1 a dn pn en qn mz nw lo tr hR9)
  · exact sim_S (nI dn) hM hX hP (c_X_count_2 l D ty L ad g _ _ _ _ _ (hL0 0 (by decide)) (hL0 1 (by decide)) h_0 h_1) (fun L1 ad1 g1 hR9 => c_M_count_2 l D ty L1 ad1 g1 a dn pn en qn mz nw lo tr hR9)
  · exact sim_S (nI en) hM hX hP (c_X_count_3 l D ty L ad g _ _ _ _ _ _ (hL0 0 (by decide)) (hL0 22 (by decide)) h_0 h_22) (fun L1 ad1 g1 hR9 => c_M_count_3 l D ty L1 ad1 g1 a dn pn en qn mz nw lo tr hR9)
  · exact sim_S (lo) hM hX hP (c_X_count_4 l D ty L ad g _ _ _ _ _ _ (hL0 0 (by decide)) (hL0 22 (by decide)) h_0 h_22) (fun L1 ad1 g1 hR9 => c_M_count_4 l D ty L1 ad1 g1 a dn pn en qn mz nw lo tr hR9)
  · exact sim_S (nI qn) hM hX hP (c_X_count_5 l D ty L ad g _ _ _ _ (hL0 0 (by decide)) h_0) (fun L1 ad1 g1 hR9 => c_M_count_5 l D ty L1 ad1 g1 a dn pn en qn mz nw lo tr hR9)
  · exact sim_S (-1) hM hX hP (c_X_count_x l D ty L ad g _ _ _ _ _ (hL0 0 (by decide)) h_0 hw) (fun L1 ad1 g1 hR9 => c_M_count_x l D ty L1 ad1 g1 a dn pn en qn mz nw lo tr _ hR9 hw)
set_option maxHeartbeats 4000000 in
theorem s_tick (l : Launch) (D : va_G) (ty : Nat → ClassId) {k : Nat} {L : List Nat} {ad : Nat → Nat} {g : Nat → va_E} {a : Nat → FI} {dn pn en qn mz : Nat} {nw lo : Int32} {tr : Int64} (n : Int32) (hk9 : k < 1000) (hP : PI a dn pn en qn nw k) (hX : RX ty L ad g a dn pn en qn nw lo tr) (hM : RM ty L ad g a dn pn en qn mz nw lo tr) : SimAt Value.int l D ty yX8_tick wsX8_tick 1 23 yX9_tick wsX9_tick 1 22 [.int n] k L ad g a dn pn en qn mz nw lo tr := by
  obtain ⟨⟨hd40, hp8, he200, hq30⟩, pD, pJ, pT, pV, pQ, pK⟩ := id hP
  obtain ⟨cO, cD, cR, cP, cV, cS, cN, cQ, cK, cF⟩ := id hX
  obtain ⟨hL0, h_0⟩ := id cO
  have hv4 : ∀ j, j < pn → nN (a 10 j) ≤ 4 := fun j hj => (pJ j hj).2.2.2.1.2.2
  obtain ⟨ak, h_29, hak⟩ := id cK
  by_cases h : 1 ≤ n.toInt ∧ n.toInt ≤ 1000
  · skip
    obtain ⟨⟨hn0, hn1⟩, hn2⟩ := id pK
    have ht : (nw + n).toInt = nw.toInt + n.toInt := ti_add (by omega) (by omega)
    refine sim_E (nw + n) a dn pn en qn mz (nw + n) lo tr hM ⟨⟨hd40, hp8, he200, hq30⟩, pD, pJ, pT, pV, pQ, ⟨by omega, by omega⟩, fun b hb => ⟨by have := (hn2 b hb).1; omega, (hn2 b hb).2⟩⟩ (c_X_tick_ok l D ty L ad g _ _ _ _ _ _ (hL0 0 (by decide)) (hL0 29 (by decide)) h_0 h_29 h) (fun x hx => ((va_up_ne _ _ (by omega)).trans (va_up_ne _ _ (by omega)))) ⟨⟨hL0, (va_up_ne _ _ (by decide)).trans (va_up_self _ _ _)⟩, cD.fr (fun _ _ => rfl) (fun x h1 h2 => ((va_up_ne _ _ (by omega)).trans (va_up_ne _ _ (by omega)))), cR.fr (fun _ _ => rfl) (fun x h1 h2 => ((va_up_ne _ _ (by omega)).trans (va_up_ne _ _ (by omega)))), cP.fr (fun _ h => h) (fun _ _ => rfl) ((va_up_ne _ _ (by omega)).trans (va_up_ne _ _ (by omega))) (fun x _ h1 h2 => ((va_up_ne _ _ (by omega)).trans (va_up_ne _ _ (by omega)))) hp8 hv4, cV.fr (fun _ _ => rfl) (fun x h1 h2 => ((va_up_ne _ _ (by omega)).trans (va_up_ne _ _ (by omega)))), cS.fr (fun _ _ => rfl) (fun x h1 h2 => ((va_up_ne _ _ (by omega)).trans (va_up_ne _ _ (by omega)))), cN.fr (fun _ _ => rfl) (fun x h1 h2 => ((va_up_ne _ _ (by omega)).trans (va_up_ne _ _ (by omega)))), cQ.fr (fun _ h => h) (fun _ _ => rfl) ((va_up_ne _ _ (by omega)).trans (va_up_ne _ _ (by omega))) (fun x _ h1 h2 => ((va_up_ne _ _ (by omega)).trans (va_up_ne _ _ (by omega)))) hq30, ⟨_, va_up_self _ _ _, fun b hb => ?_⟩, cF⟩ (fun L1 ad1 g1 hR9 => c_M_tick_ok l D ty L1 ad1 g1 a dn pn en qn mz nw lo tr _ hR9 h)
    rw [fl_f, if_pos hb, if_neg (fun e9 => by have h8 := (hn2 b hb).1; rw [e9] at h8; omega)]
  · skip
    exact sim_S (-1) hM hX hP (c_X_tick_bad l D ty L ad g _ _ _ _ _ (hL0 0 (by decide)) h_0 h) (fun L1 ad1 g1 hR9 => c_M_tick_bad l D ty L1 ad1 g1 a dn pn en qn mz nw lo tr _ hR9 h)
set_option maxHeartbeats 4000000 in
theorem s_rights (l : Launch) (D : va_G) (ty : Nat → ClassId) {k : Nat} {L : List Nat} {ad : Nat → Nat} {g : Nat → va_E} {a : Nat → FI} {dn pn en qn mz : Nat} {nw lo : Int32} {tr : Int64} (x f u w : Int32) (hk9 : k < 1000) (hP : PI a dn pn en qn nw k) (hX : RX ty L ad g a dn pn en qn nw lo tr) (hM : RM ty L ad g a dn pn en qn mz nw lo tr) : SimAt Value.int l D ty yX8_rights wsX8_rights 2 46 yX9_rights wsX9_rights 1 22 [.int x, .int f, .int u, .int w] k L ad g a dn pn en qn mz nw lo tr := by
  obtain ⟨⟨hd40, hp8, he200, hq30⟩, pD, pJ, pT, pV, pQ, pK⟩ := id hP
  obtain ⟨cO, cD, cR, cP, cV, cS, cN, cQ, cK, cF⟩ := id hX
  obtain ⟨hL0, h_0⟩ := id cO
  have hv4 : ∀ j, j < pn → nN (a 10 j) ≤ 4 := fun j hj => (pJ j hj).2.2.2.1.2.2
  obtain ⟨h_3, h_4, h_5⟩ := id cR
  rcases ix_n x 3 (by decide) with ⟨x, hx, rfl⟩ | h
  · have tx := nI_toInt (n := x) (by omega)
    rcases ix_n f 4 (by decide) with ⟨f, hf, rfl⟩ | h
    · have tf := nI_toInt (n := f) (by omega)
      by_cases h3 : 0 ≤ u.toInt ∧ u.toInt < 1000001
      · by_cases h4 : 0 ≤ w.toInt ∧ w.toInt < 1000001
        · exact sim_E 1 (va_up (va_up a 3 (upd (a 3) (x * 4 + f) u)) 4 (upd (a 4) (x * 4 + f) w)) dn pn en qn mz nw lo tr hM ⟨⟨hd40, hp8, he200, hq30⟩, pD, pJ, pT, pV, pQ, pK.next⟩ (c_X_rights_ok l D ty L ad g _ _ _ _ _ _ _ _ _ _ (hL0 0 (by decide)) (hL0 3 (by decide)) (hL0 4 (by decide)) (hL0 5 (by decide)) h_0 h_3 h_4 h_5 hx hf h3 h4) (fun x hx => ((va_up_ne _ _ (by omega)).trans (va_up_ne _ _ (by omega)))) ⟨cO.fr hL0 (fun _ _ => rfl) ((va_up_ne _ _ (by omega)).trans (va_up_ne _ _ (by omega))), cD.fr (fun _ _ => rfl) (fun x h1 h2 => ((va_up_ne _ _ (by omega)).trans (va_up_ne _ _ (by omega)))), ⟨((va_up_ne _ _ (by omega)).trans (va_up_ne _ _ (by omega))).trans h_3, (va_up_ne _ _ (by decide)).trans (va_up_self _ _ _), va_up_self _ _ _⟩, cP.fr (fun _ h => h) (fun _ _ => rfl) ((va_up_ne _ _ (by omega)).trans (va_up_ne _ _ (by omega))) (fun x _ h1 h2 => ((va_up_ne _ _ (by omega)).trans (va_up_ne _ _ (by omega)))) hp8 hv4, cV.fr (fun _ _ => rfl) (fun x h1 h2 => ((va_up_ne _ _ (by omega)).trans (va_up_ne _ _ (by omega)))), cS.fr (fun _ _ => rfl) (fun x h1 h2 => ((va_up_ne _ _ (by omega)).trans (va_up_ne _ _ (by omega)))), cN.fr (fun _ _ => rfl) (fun x h1 h2 => ((va_up_ne _ _ (by omega)).trans (va_up_ne _ _ (by omega)))), cQ.fr (fun _ h => h) (fun _ _ => rfl) ((va_up_ne _ _ (by omega)).trans (va_up_ne _ _ (by omega))) (fun x _ h1 h2 => ((va_up_ne _ _ (by omega)).trans (va_up_ne _ _ (by omega)))) hq30, cK.fr ((va_up_ne _ _ (by omega)).trans (va_up_ne _ _ (by omega))), cF⟩ (fun L1 ad1 g1 hR9 => c_M_rights_ok l D ty L1 ad1 g1 a dn pn en qn mz nw lo tr _ _ _ _ hR9 hx hf h3 h4)
        · exact sim_S (-1) hM hX hP (c_X_rights_4 l D ty L ad g _ _ _ _ _ _ _ _ (hL0 0 (by decide)) h_0 (by omega) (by omega) h3 h4) (fun L1 ad1 g1 hR9 => c_M_rights_4 l D ty L1 ad1 g1 a dn pn en qn mz nw lo tr _ _ _ _ hR9 (by omega) (by omega) h3 h4)
      · exact sim_S (-1) hM hX hP (c_X_rights_3 l D ty L ad g _ _ _ _ _ _ _ _ (hL0 0 (by decide)) h_0 (by omega) (by omega) h3) (fun L1 ad1 g1 hR9 => c_M_rights_3 l D ty L1 ad1 g1 a dn pn en qn mz nw lo tr _ _ _ _ hR9 (by omega) (by omega) h3)
    · exact sim_S (-1) hM hX hP (c_X_rights_2 l D ty L ad g _ _ _ _ _ _ _ _ (hL0 0 (by decide)) h_0 (by omega) (by omega)) (fun L1 ad1 g1 hR9 => c_M_rights_2 l D ty L1 ad1 g1 a dn pn en qn mz nw lo tr _ _ _ _ hR9 (by omega) (by omega))
  · exact sim_S (-1) hM hX hP (c_X_rights_1 l D ty L ad g _ _ _ _ _ _ _ _ (hL0 0 (by decide)) h_0 (by omega)) (fun L1 ad1 g1 hR9 => c_M_rights_1 l D ty L1 ad1 g1 a dn pn en qn mz nw lo tr _ _ _ _ hR9 (by omega))
set_option maxHeartbeats 4000000 in
theorem s_at (l : Launch) (D : va_G) (ty : Nat → ClassId) {k : Nat} {L : List Nat} {ad : Nat → Nat} {g : Nat → va_E} {a : Nat → FI} {dn pn en qn mz : Nat} {nw lo : Int32} {tr : Int64} (i j : Int32) (hk9 : k < 1000) (hP : PI a dn pn en qn nw k) (hX : RX ty L ad g a dn pn en qn nw lo tr) (hM : RM ty L ad g a dn pn en qn mz nw lo tr) : SimAt Value.int l D ty yX8_at wsX8_at 2 42 yX9_at wsX9_at 2 42 [.int i, .int j] k L ad g a dn pn en qn mz nw lo tr := by
  obtain ⟨⟨hd40, hp8, he200, hq30⟩, pD, pJ, pT, pV, pQ, pK⟩ := id hP
  obtain ⟨cO, cD, cR, cP, cV, cS, cN, cQ, cK, cF⟩ := id hX
  obtain ⟨hL0, h_0⟩ := id cO
  have hv4 : ∀ j, j < pn → nN (a 10 j) ≤ 4 := fun j hj => (pJ j hj).2.2.2.1.2.2
  obtain ⟨⟨vf, h_7, hvf⟩, xV⟩ := id cV
  rcases ix_n i 6 (by decide) with ⟨b, hb6, rfl⟩ | h
  · obtain ⟨h_r, bs, h_ra, hbs⟩ := xV b hb6
    obtain ⟨hvs, hvs8⟩ := pV b hb6
    rcases ix_n j (nN (a 14 b)) (by omega) with ⟨q, hq, rfl⟩ | h
    · exact sim_S (a 15 (80 * b + q)) hM hX hP (by rw [← hbs q hq]; exact c_X_at_t l D ty L ad g _ _ _ _ _ _ _ _ _ _ _ (hL0 0 (by decide)) (hL0 7 (by decide)) (hL0 (8 + b) (by omega)) (hL0 (14 + b) (by omega)) h_0 h_7 h_r h_ra hb6 (hvf b hb6) hvs8 hq) (fun L1 ad1 g1 hR9 => c_M_at_t l D ty L1 ad1 g1 a dn pn en qn mz nw lo tr _ _ _ hR9 hb6 hvs hvs8 hq)
    · exact sim_S (-9) hM hX hP (c_X_at_f l D ty L ad g _ _ _ _ _ _ _ _ _ _ _ (hL0 0 (by decide)) (hL0 7 (by decide)) (hL0 (8 + b) (by omega)) (hL0 (14 + b) (by omega)) h_0 h_7 h_r h_ra hb6 (hvf b hb6) hvs8 h) (fun L1 ad1 g1 hR9 => c_M_at_f l D ty L1 ad1 g1 a dn pn en qn mz nw lo tr _ _ _ hR9 hb6 hvs hvs8 h)
  · exact sim_S (-1) hM hX hP (c_X_at_bad l D ty L ad g _ _ _ _ _ _ _ (hL0 0 (by decide)) (hL0 7 (by decide)) h_0 h_7 (by omega)) (fun L1 ad1 g1 hR9 => c_M_at_bad l D ty L1 ad1 g1 a dn pn en qn mz nw lo tr _ _ hR9 (by omega))
set_option maxHeartbeats 4000000 in
theorem s_log (l : Launch) (D : va_G) (ty : Nat → ClassId) {k : Nat} {L : List Nat} {ad : Nat → Nat} {g : Nat → va_E} {a : Nat → FI} {dn pn en qn mz : Nat} {nw lo : Int32} {tr : Int64} (i w : Int32) (hk9 : k < 1000) (hP : PI a dn pn en qn nw k) (hX : RX ty L ad g a dn pn en qn nw lo tr) (hM : RM ty L ad g a dn pn en qn mz nw lo tr) : SimAt Value.int l D ty yX8_log wsX8_log 3 64 yX9_log wsX9_log 1 22 [.int i, .int w] k L ad g a dn pn en qn mz nw lo tr := by
  obtain ⟨⟨hd40, hp8, he200, hq30⟩, pD, pJ, pT, pV, pQ, pK⟩ := id hP
  obtain ⟨cO, cD, cR, cP, cV, cS, cN, cQ, cK, cF⟩ := id hX
  obtain ⟨hL0, h_0⟩ := id cO
  have hv4 : ∀ j, j < pn → nN (a 10 j) ≤ 4 := fun j hj => (pJ j hj).2.2.2.1.2.2
  obtain ⟨h_22, h_23, h_24, h_25, h_26, f4, h_27, hlk⟩ := id cN
  rcases ix_n i en (by omega) with ⟨q, hq, rfl⟩ | h
  · rcases sw w with rfl | rfl | rfl | rfl | rfl | rfl | hw
    · exact sim_S (a 18 q) hM hX hP (c_X_log_0 l D ty L ad g _ _ _ _ _ _ _ _ _ _ _ _ (hL0 0 (by decide)) (hL0 22 (by decide)) (hL0 23 (by decide)) (hL0 24 (by decide)) (hL0 25 (by decide)) (hL0 26 (by decide)) (hL0 27 (by decide)) h_0 h_22 h_23 h_24 h_25 h_26 h_27 hq he200) (fun L1 ad1 g1 hR9 => c_M_log_0 l D ty L1 ad1 g1 a dn pn en qn mz nw lo tr _ hR9 hq he200)
    · exact sim_S (a 19 q) hM hX hP (c_X_log_1 l D ty L ad g _ _ _ _ _ _ _ _ _ _ _ _ (hL0 0 (by decide)) (hL0 22 (by decide)) (hL0 23 (by decide)) (hL0 24 (by decide)) (hL0 25 (by decide)) (hL0 26 (by decide)) (hL0 27 (by decide)) h_0 h_22 h_23 h_24 h_25 h_26 h_27 hq he200) (fun L1 ad1 g1 hR9 => c_M_log_1 l D ty L1 ad1 g1 a dn pn en qn mz nw lo tr _ hR9 hq he200)
    · exact sim_S (a 20 q) hM hX hP (c_X_log_2 l D ty L ad g _ _ _ _ _ _ _ _ _ _ _ _ (hL0 0 (by decide)) (hL0 22 (by decide)) (hL0 23 (by decide)) (hL0 24 (by decide)) (hL0 25 (by decide)) (hL0 26 (by decide)) (hL0 27 (by decide)) h_0 h_22 h_23 h_24 h_25 h_26 h_27 hq he200) (fun L1 ad1 g1 hR9 => c_M_log_2 l D ty L1 ad1 g1 a dn pn en qn mz nw lo tr _ hR9 hq he200)
    · exact sim_S (a 21 q) hM hX hP (c_X_log_3 l D ty L ad g _ _ _ _ _ _ _ _ _ _ _ _ (hL0 0 (by decide)) (hL0 22 (by decide)) (hL0 23 (by decide)) (hL0 24 (by decide)) (hL0 25 (by decide)) (hL0 26 (by decide)) (hL0 27 (by decide)) h_0 h_22 h_23 h_24 h_25 h_26 h_27 hq he200) (fun L1 ad1 g1 hR9 => c_M_log_3 l D ty L1 ad1 g1 a dn pn en qn mz nw lo tr _ hR9 hq he200)
    · exact sim_S (-1) hM hX hP (c_X_log_x l D ty L ad g _ _ _ _ _ _ _ _ _ _ _ _ _ (hL0 0 (by decide)) (hL0 22 (by decide)) (hL0 23 (by decide)) (hL0 24 (by decide)) (hL0 25 (by decide)) (hL0 26 (by decide)) (hL0 27 (by decide)) h_0 h_22 h_23 h_24 h_25 h_26 h_27 hq he200 (by decide)) (fun L1 ad1 g1 hR9 => c_M_log_x l D ty L1 ad1 g1 a dn pn en qn mz nw lo tr _ _ hR9 hq he200 (by decide))
    · exact sim_S (-1) hM hX hP (c_X_log_x l D ty L ad g _ _ _ _ _ _ _ _ _ _ _ _ _ (hL0 0 (by decide)) (hL0 22 (by decide)) (hL0 23 (by decide)) (hL0 24 (by decide)) (hL0 25 (by decide)) (hL0 26 (by decide)) (hL0 27 (by decide)) h_0 h_22 h_23 h_24 h_25 h_26 h_27 hq he200 (by decide)) (fun L1 ad1 g1 hR9 => c_M_log_x l D ty L1 ad1 g1 a dn pn en qn mz nw lo tr _ _ hR9 hq he200 (by decide))
    · exact sim_S (-1) hM hX hP (c_X_log_x l D ty L ad g _ _ _ _ _ _ _ _ _ _ _ _ _ (hL0 0 (by decide)) (hL0 22 (by decide)) (hL0 23 (by decide)) (hL0 24 (by decide)) (hL0 25 (by decide)) (hL0 26 (by decide)) (hL0 27 (by decide)) h_0 h_22 h_23 h_24 h_25 h_26 h_27 hq he200 (by omega)) (fun L1 ad1 g1 hR9 => c_M_log_x l D ty L1 ad1 g1 a dn pn en qn mz nw lo tr _ _ hR9 hq he200 (by omega))
  · exact sim_S (-1) hM hX hP (c_X_log_bad l D ty L ad g _ _ _ _ _ _ _ _ (hL0 0 (by decide)) (hL0 22 (by decide)) h_0 h_22 h he200) (fun L1 ad1 g1 hR9 => c_M_log_bad l D ty L1 ad1 g1 a dn pn en qn mz nw lo tr _ _ hR9 h he200)
set_option maxHeartbeats 4000000 in
theorem s_chain (l : Launch) (D : va_G) (ty : Nat → ClassId) {k : Nat} {L : List Nat} {ad : Nat → Nat} {g : Nat → va_E} {a : Nat → FI} {dn pn en qn mz : Nat} {nw lo : Int32} {tr : Int64} (i : Int32) (hk9 : k < 1000) (hP : PI a dn pn en qn nw k) (hX : RX ty L ad g a dn pn en qn nw lo tr) (hM : RM ty L ad g a dn pn en qn mz nw lo tr) : SimAt Value.long l D ty yX8_chain wsX8_chain 3 63 yX9_chain wsX9_chain 1 22 [.int i] k L ad g a dn pn en qn mz nw lo tr := by
  obtain ⟨⟨hd40, hp8, he200, hq30⟩, pD, pJ, pT, pV, pQ, pK⟩ := id hP
  obtain ⟨cO, cD, cR, cP, cV, cS, cN, cQ, cK, cF⟩ := id hX
  obtain ⟨hL0, h_0⟩ := id cO
  have hv4 : ∀ j, j < pn → nN (a 10 j) ≤ 4 := fun j hj => (pJ j hj).2.2.2.1.2.2
  obtain ⟨h_22, h_23, h_24, h_25, h_26, f4, h_27, hlk⟩ := id cN
  rcases ix_n i en (by omega) with ⟨q, hq, rfl⟩ | h
  · exact sim_S (lkc (a 18) (a 19) (a 20) (a 21) (q + 1)) hM hX hP (by rw [← hlk q hq]; exact c_X_chain_t l D ty L ad g _ _ _ _ _ _ _ _ _ _ _ _ (hL0 0 (by decide)) (hL0 22 (by decide)) (hL0 23 (by decide)) (hL0 24 (by decide)) (hL0 25 (by decide)) (hL0 26 (by decide)) (hL0 27 (by decide)) h_0 h_22 h_23 h_24 h_25 h_26 h_27 hq he200) (fun L1 ad1 g1 hR9 => c_M_chain l D ty L1 ad1 g1 a dn pn en qn mz nw lo tr _ hR9 hq he200)
  · exact sim_S 0 hM hX hP (c_X_chain_bad l D ty L ad g _ _ _ _ _ _ _ (hL0 0 (by decide)) (hL0 22 (by decide)) h_0 h_22 h he200) (fun L1 ad1 g1 hR9 => c_M_chain_bad l D ty L1 ad1 g1 a dn pn en qn mz nw lo tr _ hR9 h he200)
set_option maxHeartbeats 4000000 in
theorem s_type (l : Launch) (D : va_G) (ty : Nat → ClassId) {k : Nat} {L : List Nat} {ad : Nat → Nat} {g : Nat → va_E} {a : Nat → FI} {dn pn en qn mz : Nat} {nw lo : Int32} {tr : Int64} (v : Int64) (i : Int32) (hk9 : k < 1000) (hP : PI a dn pn en qn nw k) (hX : RX ty L ad g a dn pn en qn nw lo tr) (hM : RM ty L ad g a dn pn en qn mz nw lo tr) : SimAt Value.int l D ty yX8_type wsX8_type 2 42 yX9_type wsX9_type 1 22 [.long v, .int i] k L ad g a dn pn en qn mz nw lo tr := by
  obtain ⟨⟨hd40, hp8, he200, hq30⟩, pD, pJ, pT, pV, pQ, pK⟩ := id hP
  obtain ⟨cO, cD, cR, cP, cV, cS, cN, cQ, cK, cF⟩ := id hX
  obtain ⟨hL0, h_0⟩ := id cO
  have hv4 : ∀ j, j < pn → nN (a 10 j) ≤ 4 := fun j hj => (pJ j hj).2.2.2.1.2.2
  obtain ⟨h_1, db, h_2, hdb⟩ := id cD
  by_cases h : 1 ≤ i.toInt ∧ i.toInt ≤ 8
  · skip
    obtain ⟨n, hn, rfl⟩ := i_nI i (by omega)
    have tn := nI_toInt (n := n) hn
    have h1 : 1 ≤ n := by omega
    have h8 : n ≤ 8 := by omega
    by_cases hok : ∀ i, i < n → okB v i
    · have hokU := (ok_xs v h8).mpr hok
      by_cases hf : dn + n ≤ 40
      · refine sim_E (nI (dn + n)) (tyA a dn n v) (dn + n) pn en qn mz nw lo tr hM ⟨⟨hf, hp8, he200, hq30⟩, ?_, pJ, pT, pV, pQ, pK.next⟩ (c_X_type_ok l D ty L ad g _ _ _ _ _ _ _ _ (hL0 0 (by decide)) (hL0 1 (by decide)) (hL0 2 (by decide)) h_0 h_1 h_2 h1 h8 hokU hd40 hf) (fun x hx => ((va_up_ne _ _ (by omega)).trans (va_up_ne _ _ (by omega)))) ⟨cO.fr hL0 (fun _ _ => rfl) ((va_up_ne _ _ (by omega)).trans (va_up_ne _ _ (by omega))), ⟨va_up_self _ _ _, _, (va_up_ne _ _ (by decide)).trans (va_up_self _ _ _), ?_⟩, cR.fr (fun _ _ => rfl) (fun x h1 h2 => ((va_up_ne _ _ (by omega)).trans (va_up_ne _ _ (by omega)))), cP.fr (fun _ h => h) (fun _ _ => rfl) ((va_up_ne _ _ (by omega)).trans (va_up_ne _ _ (by omega))) (fun x _ h1 h2 => ((va_up_ne _ _ (by omega)).trans (va_up_ne _ _ (by omega)))) hp8 hv4, cV.fr (fun _ _ => rfl) (fun x h1 h2 => ((va_up_ne _ _ (by omega)).trans (va_up_ne _ _ (by omega)))), cS.fr (fun _ _ => rfl) (fun x h1 h2 => ((va_up_ne _ _ (by omega)).trans (va_up_ne _ _ (by omega)))), cN.fr (fun _ _ => rfl) (fun x h1 h2 => ((va_up_ne _ _ (by omega)).trans (va_up_ne _ _ (by omega)))), cQ.fr (fun _ h => h) (fun _ _ => rfl) ((va_up_ne _ _ (by omega)).trans (va_up_ne _ _ (by omega))) (fun x _ h1 h2 => ((va_up_ne _ _ (by omega)).trans (va_up_ne _ _ (by omega)))) hq30, cK.fr ((va_up_ne _ _ (by omega)).trans (va_up_ne _ _ (by omega))), cF⟩ (fun L1 ad1 g1 hR9 => c_M_type_ok l D ty L1 ad1 g1 a dn pn en qn mz nw lo tr _ _ hR9 h1 h8 hok hd40 hf)
        · intro q hq
          show 32 ≤ (pb (a 1) (fun i => by8 v (n - 1 - i)) dn n q).toInt ∧ (pb (a 1) (fun i => by8 v (n - 1 - i)) dn n q).toInt ≤ 126
          by_cases h9 : q < dn
          · rw [pb_out _ _ _ _ _ (Or.inl h9)]; exact pD q h9
          · obtain ⟨z, rfl⟩ : ∃ z, q = dn + z := ⟨q - dn, by omega⟩
            rw [pb_in _ _ _ _ _ (by omega)]; exact hok (n - 1 - z) (by omega)
        · intro q hq
          show pb db (fun i => byU v (n - 1 - i)) dn n q = pb (a 1) (fun i => by8 v (n - 1 - i)) dn n q
          by_cases h9 : q < dn
          · rw [pb_out _ _ _ _ _ (Or.inl h9), pb_out _ _ _ _ _ (Or.inl h9)]; exact hdb q h9
          · obtain ⟨z, rfl⟩ : ∃ z, q = dn + z := ⟨q - dn, by omega⟩
            rw [pb_in _ _ _ _ _ (by omega), pb_in _ _ _ _ _ (by omega)]; exact by_x v (by omega)
      · exact sim_S (-3) hM hX hP (c_X_type_full l D ty L ad g _ _ _ _ _ _ _ _ (hL0 0 (by decide)) (hL0 1 (by decide)) (hL0 2 (by decide)) h_0 h_1 h_2 h1 h8 hokU hd40 (by omega)) (fun L1 ad1 g1 hR9 => c_M_type_full l D ty L1 ad1 g1 a dn pn en qn mz nw lo tr _ _ hR9 h1 h8 hok hd40 (by omega))
    · exact sim_S (-1) hM hX hP (c_X_type_bad l D ty L ad g _ _ _ _ _ _ (hL0 0 (by decide)) h_0 h1 h8 (fun h9 => hok ((ok_xs v h8).mp h9))) (fun L1 ad1 g1 hR9 => c_M_type_bad l D ty L1 ad1 g1 a dn pn en qn mz nw lo tr _ _ hR9 h1 h8 hok)
  · skip
    exact sim_S (-1) hM hX hP (c_X_type_n l D ty L ad g _ _ _ _ _ _ (hL0 0 (by decide)) h_0 h) (fun L1 ad1 g1 hR9 => c_M_type_n l D ty L1 ad1 g1 a dn pn en qn mz nw lo tr _ _ hR9 h)
