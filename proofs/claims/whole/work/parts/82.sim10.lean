theorem ask_lt {x fi ft nw : Int32} (h : x = if fi = nw then ft else 0) (h0 : 0 ≤ ft.toInt) (h1 : ft.toInt ≤ 2) (h2 : ¬ (if fi = nw then ft else 0) = 2) : 0 ≤ x.toInt ∧ x.toInt < 2 := by
  rw [← h] at h2
  have h3 : ¬ x.toInt = 2 := fun e => h2 (Int32.toInt_inj.mp (e.trans (by decide)))
  have h4 : 0 ≤ x.toInt ∧ x.toInt ≤ 2 := by
    rw [h]
    split
    · exact ⟨h0, h1⟩
    · decide
  omega
set_option maxHeartbeats 4000000 in
theorem ask_join_0 (l : Launch) (D : va_G) (ty : Nat → ClassId) {k : Nat} {L : List Nat} {ad : Nat → Nat} {g : Nat → va_E} {a : Nat → FI} {dn pn en qn mz : Nat} {nw lo : Int32} {tr : Int64} {b j q : Nat} {tp : Int32} (hk9 : k < 1000) (hP : PI a dn pn en qn nw k) (hX : RX ty L ad g a dn pn en qn nw lo tr) (hM : RM ty L ad g a dn pn en qn mz nw lo tr) (hb6 : b < 6) (hj : j < pn) (hk : a 6 j = 0) (htp : 0 ≤ tp.toInt ∧ tp.toInt < 10) (hs : seeB (a 6 j) (a 9 j) (a 8 j) (a 3) (a 4) (b % 3 * 4 + nN (a 7 j)) nw = true) (ht2 : ¬ (if a 28 b = nw then a 29 b else 0) = 2) (hq : q < qn) (hyes : (a 23 q = nI j ∧ a 24 q = tp)) (hno : ∀ i, i < q → ¬ (a 23 i = nI j ∧ a 24 i = tp)) : SimAt Value.int l D ty yX8_ask wsX8_ask 5 113 yX9_ask wsX9_ask 2 43 [.int (nI b), .int (nI j), .int tp] k L ad g a dn pn en qn mz nw lo tr := by
  obtain ⟨⟨hd40, hp8, he200, hq30⟩, pD, pJ, pT, pV, pQ, pK⟩ := id hP
  obtain ⟨cO, cD, cR, cP, cV, cS, cN, cQ, cK, cF⟩ := id hX
  obtain ⟨hL0, h_0⟩ := id cO
  have hv4 : ∀ j, j < pn → nN (a 10 j) ≤ 4 := fun j hj => (pJ j hj).2.2.2.1.2.2
  obtain ⟨⟨pf, h_6, hpf, hpf0⟩, xJ, xT⟩ := id cP
  obtain ⟨h_3, h_4, h_5⟩ := id cR
  obtain ⟨qf, qv, h_28, hq0, hq00, hq1, hq2, hqs⟩ := id cQ
  obtain ⟨ak, h_29, hak⟩ := id cK
  obtain ⟨mpp, mpt, hpp0, tf, h_pt, htf, htf0⟩ := xJ j hj
  obtain ⟨hkd, ⟨ef, hf4⟩, hwd, ⟨ev, hv1, hv4j⟩, hlg⟩ := pJ j hj
  have hc := hpp0.trans (pcell_0 hk _ _ _ _ _)
  have hs2 := (see_0 hk _ _ _ _ _ _).symm.trans hs
  have hk2 : 0 ≤ (ak b).toInt ∧ (ak b).toInt < 2 := ask_lt (hak b hb6) (pK.2 b hb6).2.1 (pK.2 b hb6).2.2 ht2
  have pK2 : PK (upd (a 28) b nw) (upd (a 29) b (ak b + 1)) nw (k + 1) := by
    refine ⟨pK.next.1, fun c hc9 => ?_⟩
    by_cases e9 : c = b
    · have h1 : (ak b + 1).toInt = (ak b).toInt + 1 := ti_add (by have := (by decide : (1 : Int32).toInt = 1); omega) (by have := (by decide : (1 : Int32).toInt = 1); omega)
      rw [e9, pk_us, pk_us, h1]; omega
    · rw [pk_un e9, pk_un e9]; exact pK.2 c hc9
  have hXK : ∀ c, c < 6 → upd ak b (ak b + 1) c = if upd (a 28) b nw c = nw then upd (a 29) b (ak b + 1) c else 0 := by
    intro c hc9
    by_cases e9 : c = b
    · rw [e9, pk_us, pk_us, pk_us, if_pos rfl]
    · rw [pk_un e9, pk_un e9, pk_un e9]; exact hak c hc9
  have pQ2 : ∀ i, i < qn → PQ pn (a 23) (upd (a 25) q (a 25 q ||| (1 <<< (nI b &&& 31)))) (a 26) i := by
    intro i hi
    obtain ⟨z1, ⟨n, hn, z2⟩, z3⟩ := pQ i hi
    refine ⟨z1, ?_, z3⟩
    by_cases e9 : i = q
    · subst e9
      rw [pk_us, z2]; exact ⟨_, (or_b n hn b hb6).2, (or_b n hn b hb6).1⟩
    · rw [pk_un e9]; exact ⟨n, hn, z2⟩
  refine sim_E (nI q) (askA a b q nw (ak b)) dn pn en qn mz nw lo tr hM ⟨⟨hd40, hp8, he200, hq30⟩, pD, pJ, pT, pV, pQ2, pK2⟩ (c_X_ask2_join l D ty L ad g _ _ _ _ _ _ _ _ _ _ _ _ qf (fun i => 700 + i) (a 23) (a 24) (a 25) (a 26) qv _ _ _ _ q (hL0 0 (by decide)) (hL0 3 (by decide)) (hL0 4 (by decide)) (hL0 5 (by decide)) (hL0 6 (by decide)) (hL0 28 (by decide)) (hL0 29 (by decide)) mpp h_0 h_3 h_4 h_5 h_6 h_28 h_29 hc (by omega) (hpf j hj) hb6 hf4 hwd (by omega) htp hs2 hk2.2 hq0 hq1 hq2 hq30 hq hyes hno (by show 30 ≤ 700 + q; omega)) (fun x hx => ?_) ⟨cO.fr hL0 (fun _ _ => rfl) ((va_up_ne _ _ (by (try show _ ≠ 700 + q); omega)).trans (va_up_ne _ _ (by (try show _ ≠ 700 + q); omega))), cD.fr (fun _ _ => rfl) (fun x h1 h2 => ((va_up_ne _ _ (by (try show _ ≠ 700 + q); omega)).trans (va_up_ne _ _ (by (try show _ ≠ 700 + q); omega)))), cR.fr (fun _ _ => rfl) (fun x h1 h2 => ((va_up_ne _ _ (by (try show _ ≠ 700 + q); omega)).trans (va_up_ne _ _ (by (try show _ ≠ 700 + q); omega)))), cP.fr (fun _ h => h) (fun _ _ => rfl) ((va_up_ne _ _ (by (try show _ ≠ 700 + q); omega)).trans (va_up_ne _ _ (by (try show _ ≠ 700 + q); omega))) (fun x _ h1 h2 => ((va_up_ne _ _ (by (try show _ ≠ 700 + q); omega)).trans (va_up_ne _ _ (by (try show _ ≠ 700 + q); omega)))) hp8 hv4, cV.fr (fun _ _ => rfl) (fun x h1 h2 => ((va_up_ne _ _ (by (try show _ ≠ 700 + q); omega)).trans (va_up_ne _ _ (by (try show _ ≠ 700 + q); omega)))), cS.fr (fun _ _ => rfl) (fun x h1 h2 => ((va_up_ne _ _ (by (try show _ ≠ 700 + q); omega)).trans (va_up_ne _ _ (by (try show _ ≠ 700 + q); omega)))), cN.fr (fun _ _ => rfl) (fun x h1 h2 => ((va_up_ne _ _ (by (try show _ ≠ 700 + q); omega)).trans (va_up_ne _ _ (by (try show _ ≠ 700 + q); omega)))), ⟨qf, qv, ((va_up_ne _ _ (by (try show _ ≠ 700 + q); omega)).trans (va_up_ne _ _ (by (try show _ ≠ 700 + q); omega))).trans h_28, hq0, hq00, hq1, fun i hi => ?_, hqs⟩, ⟨_, va_up_self _ _ _, hXK⟩, cF⟩ (fun L1 ad1 g1 hR9 => c_M_ask_join l D ty L1 ad1 g1 a dn pn en qn mz nw lo tr _ _ _ _ _ (ak b) hR9 hj hp8 htp hb6 ef hf4 hwd hs (hak b hb6) (by rw [hak b hb6]; exact ht2) hq30 hq hyes hno)
  · exact ((va_up_ne _ _ (by (try show _ ≠ 700 + q); omega)).trans (va_up_ne _ _ (by (try show _ ≠ 700 + q); omega)))
  · show va_up (va_up g (700 + q) _) 29 _ (700 + i) = .inr (3, [.int (a 23 i), .int (a 24 i), .int (upd (a 25) q (a 25 q ||| (1 <<< (nI b &&& 31))) i), .int (a 26 i), .int (qv i)])
    by_cases e9 : i = q
    · subst e9
      rw [pk_us]; exact (va_up_ne _ _ (by omega)).trans (va_up_self _ _ _)
    · rw [pk_un e9]; exact ((va_up_ne _ _ (by omega)).trans (va_up_ne _ _ (by omega))).trans (hq2 i hi)
set_option maxHeartbeats 4000000 in
theorem ask_join_1 (l : Launch) (D : va_G) (ty : Nat → ClassId) {k : Nat} {L : List Nat} {ad : Nat → Nat} {g : Nat → va_E} {a : Nat → FI} {dn pn en qn mz : Nat} {nw lo : Int32} {tr : Int64} {b j q : Nat} {tp : Int32} (hk9 : k < 1000) (hP : PI a dn pn en qn nw k) (hX : RX ty L ad g a dn pn en qn nw lo tr) (hM : RM ty L ad g a dn pn en qn mz nw lo tr) (hb6 : b < 6) (hj : j < pn) (hk : a 6 j = 1) (htp : 0 ≤ tp.toInt ∧ tp.toInt < 10) (hs : seeB (a 6 j) (a 9 j) (a 8 j) (a 3) (a 4) (b % 3 * 4 + nN (a 7 j)) nw = true) (ht2 : ¬ (if a 28 b = nw then a 29 b else 0) = 2) (hq : q < qn) (hyes : (a 23 q = nI j ∧ a 24 q = tp)) (hno : ∀ i, i < q → ¬ (a 23 i = nI j ∧ a 24 i = tp)) : SimAt Value.int l D ty yX8_ask wsX8_ask 5 113 yX9_ask wsX9_ask 2 43 [.int (nI b), .int (nI j), .int tp] k L ad g a dn pn en qn mz nw lo tr := by
  obtain ⟨⟨hd40, hp8, he200, hq30⟩, pD, pJ, pT, pV, pQ, pK⟩ := id hP
  obtain ⟨cO, cD, cR, cP, cV, cS, cN, cQ, cK, cF⟩ := id hX
  obtain ⟨hL0, h_0⟩ := id cO
  have hv4 : ∀ j, j < pn → nN (a 10 j) ≤ 4 := fun j hj => (pJ j hj).2.2.2.1.2.2
  obtain ⟨⟨pf, h_6, hpf, hpf0⟩, xJ, xT⟩ := id cP
  obtain ⟨h_3, h_4, h_5⟩ := id cR
  obtain ⟨qf, qv, h_28, hq0, hq00, hq1, hq2, hqs⟩ := id cQ
  obtain ⟨ak, h_29, hak⟩ := id cK
  obtain ⟨mpp, mpt, hpp0, tf, h_pt, htf, htf0⟩ := xJ j hj
  obtain ⟨hkd, ⟨ef, hf4⟩, hwd, ⟨ev, hv1, hv4j⟩, hlg⟩ := pJ j hj
  have hc := hpp0.trans (pcell_1 hk _ _ _ _ _)
  have hs2 := (see_1 hk _ _ _ _ _ _).symm.trans hs
  have hk2 : 0 ≤ (ak b).toInt ∧ (ak b).toInt < 2 := ask_lt (hak b hb6) (pK.2 b hb6).2.1 (pK.2 b hb6).2.2 ht2
  have pK2 : PK (upd (a 28) b nw) (upd (a 29) b (ak b + 1)) nw (k + 1) := by
    refine ⟨pK.next.1, fun c hc9 => ?_⟩
    by_cases e9 : c = b
    · have h1 : (ak b + 1).toInt = (ak b).toInt + 1 := ti_add (by have := (by decide : (1 : Int32).toInt = 1); omega) (by have := (by decide : (1 : Int32).toInt = 1); omega)
      rw [e9, pk_us, pk_us, h1]; omega
    · rw [pk_un e9, pk_un e9]; exact pK.2 c hc9
  have hXK : ∀ c, c < 6 → upd ak b (ak b + 1) c = if upd (a 28) b nw c = nw then upd (a 29) b (ak b + 1) c else 0 := by
    intro c hc9
    by_cases e9 : c = b
    · rw [e9, pk_us, pk_us, pk_us, if_pos rfl]
    · rw [pk_un e9, pk_un e9, pk_un e9]; exact hak c hc9
  have pQ2 : ∀ i, i < qn → PQ pn (a 23) (upd (a 25) q (a 25 q ||| (1 <<< (nI b &&& 31)))) (a 26) i := by
    intro i hi
    obtain ⟨z1, ⟨n, hn, z2⟩, z3⟩ := pQ i hi
    refine ⟨z1, ?_, z3⟩
    by_cases e9 : i = q
    · subst e9
      rw [pk_us, z2]; exact ⟨_, (or_b n hn b hb6).2, (or_b n hn b hb6).1⟩
    · rw [pk_un e9]; exact ⟨n, hn, z2⟩
  refine sim_E (nI q) (askA a b q nw (ak b)) dn pn en qn mz nw lo tr hM ⟨⟨hd40, hp8, he200, hq30⟩, pD, pJ, pT, pV, pQ2, pK2⟩ (c_X_ask0_join l D ty L ad g _ _ _ _ _ _ _ _ _ _ _ _ _ qf (fun i => 700 + i) (a 23) (a 24) (a 25) (a 26) qv _ _ _ _ q (hL0 0 (by decide)) (hL0 3 (by decide)) (hL0 4 (by decide)) (hL0 5 (by decide)) (hL0 6 (by decide)) (hL0 28 (by decide)) (hL0 29 (by decide)) mpp h_0 h_3 h_4 h_5 h_6 h_28 h_29 hc (by omega) (hpf j hj) hb6 hf4 hwd (by omega) htp hs2 hk2.2 hq0 hq1 hq2 hq30 hq hyes hno (by show 30 ≤ 700 + q; omega)) (fun x hx => ?_) ⟨cO.fr hL0 (fun _ _ => rfl) ((va_up_ne _ _ (by (try show _ ≠ 700 + q); omega)).trans (va_up_ne _ _ (by (try show _ ≠ 700 + q); omega))), cD.fr (fun _ _ => rfl) (fun x h1 h2 => ((va_up_ne _ _ (by (try show _ ≠ 700 + q); omega)).trans (va_up_ne _ _ (by (try show _ ≠ 700 + q); omega)))), cR.fr (fun _ _ => rfl) (fun x h1 h2 => ((va_up_ne _ _ (by (try show _ ≠ 700 + q); omega)).trans (va_up_ne _ _ (by (try show _ ≠ 700 + q); omega)))), cP.fr (fun _ h => h) (fun _ _ => rfl) ((va_up_ne _ _ (by (try show _ ≠ 700 + q); omega)).trans (va_up_ne _ _ (by (try show _ ≠ 700 + q); omega))) (fun x _ h1 h2 => ((va_up_ne _ _ (by (try show _ ≠ 700 + q); omega)).trans (va_up_ne _ _ (by (try show _ ≠ 700 + q); omega)))) hp8 hv4, cV.fr (fun _ _ => rfl) (fun x h1 h2 => ((va_up_ne _ _ (by (try show _ ≠ 700 + q); omega)).trans (va_up_ne _ _ (by (try show _ ≠ 700 + q); omega)))), cS.fr (fun _ _ => rfl) (fun x h1 h2 => ((va_up_ne _ _ (by (try show _ ≠ 700 + q); omega)).trans (va_up_ne _ _ (by (try show _ ≠ 700 + q); omega)))), cN.fr (fun _ _ => rfl) (fun x h1 h2 => ((va_up_ne _ _ (by (try show _ ≠ 700 + q); omega)).trans (va_up_ne _ _ (by (try show _ ≠ 700 + q); omega)))), ⟨qf, qv, ((va_up_ne _ _ (by (try show _ ≠ 700 + q); omega)).trans (va_up_ne _ _ (by (try show _ ≠ 700 + q); omega))).trans h_28, hq0, hq00, hq1, fun i hi => ?_, hqs⟩, ⟨_, va_up_self _ _ _, hXK⟩, cF⟩ (fun L1 ad1 g1 hR9 => c_M_ask_join l D ty L1 ad1 g1 a dn pn en qn mz nw lo tr _ _ _ _ _ (ak b) hR9 hj hp8 htp hb6 ef hf4 hwd hs (hak b hb6) (by rw [hak b hb6]; exact ht2) hq30 hq hyes hno)
  · exact ((va_up_ne _ _ (by (try show _ ≠ 700 + q); omega)).trans (va_up_ne _ _ (by (try show _ ≠ 700 + q); omega)))
  · show va_up (va_up g (700 + q) _) 29 _ (700 + i) = .inr (3, [.int (a 23 i), .int (a 24 i), .int (upd (a 25) q (a 25 q ||| (1 <<< (nI b &&& 31))) i), .int (a 26 i), .int (qv i)])
    by_cases e9 : i = q
    · subst e9
      rw [pk_us]; exact (va_up_ne _ _ (by omega)).trans (va_up_self _ _ _)
    · rw [pk_un e9]; exact ((va_up_ne _ _ (by omega)).trans (va_up_ne _ _ (by omega))).trans (hq2 i hi)
set_option maxHeartbeats 4000000 in
theorem ask_join_2 (l : Launch) (D : va_G) (ty : Nat → ClassId) {k : Nat} {L : List Nat} {ad : Nat → Nat} {g : Nat → va_E} {a : Nat → FI} {dn pn en qn mz : Nat} {nw lo : Int32} {tr : Int64} {b j q : Nat} {tp : Int32} (hk9 : k < 1000) (hP : PI a dn pn en qn nw k) (hX : RX ty L ad g a dn pn en qn nw lo tr) (hM : RM ty L ad g a dn pn en qn mz nw lo tr) (hb6 : b < 6) (hj : j < pn) (hk : a 6 j = 2) (htp : 0 ≤ tp.toInt ∧ tp.toInt < 10) (hs : seeB (a 6 j) (a 9 j) (a 8 j) (a 3) (a 4) (b % 3 * 4 + nN (a 7 j)) nw = true) (ht2 : ¬ (if a 28 b = nw then a 29 b else 0) = 2) (hq : q < qn) (hyes : (a 23 q = nI j ∧ a 24 q = tp)) (hno : ∀ i, i < q → ¬ (a 23 i = nI j ∧ a 24 i = tp)) : SimAt Value.int l D ty yX8_ask wsX8_ask 5 113 yX9_ask wsX9_ask 2 43 [.int (nI b), .int (nI j), .int tp] k L ad g a dn pn en qn mz nw lo tr := by
  obtain ⟨⟨hd40, hp8, he200, hq30⟩, pD, pJ, pT, pV, pQ, pK⟩ := id hP
  obtain ⟨cO, cD, cR, cP, cV, cS, cN, cQ, cK, cF⟩ := id hX
  obtain ⟨hL0, h_0⟩ := id cO
  have hv4 : ∀ j, j < pn → nN (a 10 j) ≤ 4 := fun j hj => (pJ j hj).2.2.2.1.2.2
  obtain ⟨⟨pf, h_6, hpf, hpf0⟩, xJ, xT⟩ := id cP
  obtain ⟨h_3, h_4, h_5⟩ := id cR
  obtain ⟨qf, qv, h_28, hq0, hq00, hq1, hq2, hqs⟩ := id cQ
  obtain ⟨ak, h_29, hak⟩ := id cK
  obtain ⟨mpp, mpt, hpp0, tf, h_pt, htf, htf0⟩ := xJ j hj
  obtain ⟨hkd, ⟨ef, hf4⟩, hwd, ⟨ev, hv1, hv4j⟩, hlg⟩ := pJ j hj
  have hc := hpp0.trans (pcell_2 hk _ _ _ _ _)
  have hs2 := (see_2 hk _ _ _ _ _ _).symm.trans hs
  have hk2 : 0 ≤ (ak b).toInt ∧ (ak b).toInt < 2 := ask_lt (hak b hb6) (pK.2 b hb6).2.1 (pK.2 b hb6).2.2 ht2
  have pK2 : PK (upd (a 28) b nw) (upd (a 29) b (ak b + 1)) nw (k + 1) := by
    refine ⟨pK.next.1, fun c hc9 => ?_⟩
    by_cases e9 : c = b
    · have h1 : (ak b + 1).toInt = (ak b).toInt + 1 := ti_add (by have := (by decide : (1 : Int32).toInt = 1); omega) (by have := (by decide : (1 : Int32).toInt = 1); omega)
      rw [e9, pk_us, pk_us, h1]; omega
    · rw [pk_un e9, pk_un e9]; exact pK.2 c hc9
  have hXK : ∀ c, c < 6 → upd ak b (ak b + 1) c = if upd (a 28) b nw c = nw then upd (a 29) b (ak b + 1) c else 0 := by
    intro c hc9
    by_cases e9 : c = b
    · rw [e9, pk_us, pk_us, pk_us, if_pos rfl]
    · rw [pk_un e9, pk_un e9, pk_un e9]; exact hak c hc9
  have pQ2 : ∀ i, i < qn → PQ pn (a 23) (upd (a 25) q (a 25 q ||| (1 <<< (nI b &&& 31)))) (a 26) i := by
    intro i hi
    obtain ⟨z1, ⟨n, hn, z2⟩, z3⟩ := pQ i hi
    refine ⟨z1, ?_, z3⟩
    by_cases e9 : i = q
    · subst e9
      rw [pk_us, z2]; exact ⟨_, (or_b n hn b hb6).2, (or_b n hn b hb6).1⟩
    · rw [pk_un e9]; exact ⟨n, hn, z2⟩
  refine sim_E (nI q) (askA a b q nw (ak b)) dn pn en qn mz nw lo tr hM ⟨⟨hd40, hp8, he200, hq30⟩, pD, pJ, pT, pV, pQ2, pK2⟩ (c_X_ask1_join l D ty L ad g _ _ _ _ _ _ _ _ _ _ _ _ qf (fun i => 700 + i) (a 23) (a 24) (a 25) (a 26) qv _ _ _ _ q (hL0 0 (by decide)) (hL0 3 (by decide)) (hL0 4 (by decide)) (hL0 5 (by decide)) (hL0 6 (by decide)) (hL0 28 (by decide)) (hL0 29 (by decide)) mpp h_0 h_3 h_4 h_5 h_6 h_28 h_29 hc (by omega) (hpf j hj) hb6 hf4 hwd (by omega) htp hs2 hk2.2 hq0 hq1 hq2 hq30 hq hyes hno (by show 30 ≤ 700 + q; omega)) (fun x hx => ?_) ⟨cO.fr hL0 (fun _ _ => rfl) ((va_up_ne _ _ (by (try show _ ≠ 700 + q); omega)).trans (va_up_ne _ _ (by (try show _ ≠ 700 + q); omega))), cD.fr (fun _ _ => rfl) (fun x h1 h2 => ((va_up_ne _ _ (by (try show _ ≠ 700 + q); omega)).trans (va_up_ne _ _ (by (try show _ ≠ 700 + q); omega)))), cR.fr (fun _ _ => rfl) (fun x h1 h2 => ((va_up_ne _ _ (by (try show _ ≠ 700 + q); omega)).trans (va_up_ne _ _ (by (try show _ ≠ 700 + q); omega)))), cP.fr (fun _ h => h) (fun _ _ => rfl) ((va_up_ne _ _ (by (try show _ ≠ 700 + q); omega)).trans (va_up_ne _ _ (by (try show _ ≠ 700 + q); omega))) (fun x _ h1 h2 => ((va_up_ne _ _ (by (try show _ ≠ 700 + q); omega)).trans (va_up_ne _ _ (by (try show _ ≠ 700 + q); omega)))) hp8 hv4, cV.fr (fun _ _ => rfl) (fun x h1 h2 => ((va_up_ne _ _ (by (try show _ ≠ 700 + q); omega)).trans (va_up_ne _ _ (by (try show _ ≠ 700 + q); omega)))), cS.fr (fun _ _ => rfl) (fun x h1 h2 => ((va_up_ne _ _ (by (try show _ ≠ 700 + q); omega)).trans (va_up_ne _ _ (by (try show _ ≠ 700 + q); omega)))), cN.fr (fun _ _ => rfl) (fun x h1 h2 => ((va_up_ne _ _ (by (try show _ ≠ 700 + q); omega)).trans (va_up_ne _ _ (by (try show _ ≠ 700 + q); omega)))), ⟨qf, qv, ((va_up_ne _ _ (by (try show _ ≠ 700 + q); omega)).trans (va_up_ne _ _ (by (try show _ ≠ 700 + q); omega))).trans h_28, hq0, hq00, hq1, fun i hi => ?_, hqs⟩, ⟨_, va_up_self _ _ _, hXK⟩, cF⟩ (fun L1 ad1 g1 hR9 => c_M_ask_join l D ty L1 ad1 g1 a dn pn en qn mz nw lo tr _ _ _ _ _ (ak b) hR9 hj hp8 htp hb6 ef hf4 hwd hs (hak b hb6) (by rw [hak b hb6]; exact ht2) hq30 hq hyes hno)
  · exact ((va_up_ne _ _ (by (try show _ ≠ 700 + q); omega)).trans (va_up_ne _ _ (by (try show _ ≠ 700 + q); omega)))
  · show va_up (va_up g (700 + q) _) 29 _ (700 + i) = .inr (3, [.int (a 23 i), .int (a 24 i), .int (upd (a 25) q (a 25 q ||| (1 <<< (nI b &&& 31))) i), .int (a 26 i), .int (qv i)])
    by_cases e9 : i = q
    · subst e9
      rw [pk_us]; exact (va_up_ne _ _ (by omega)).trans (va_up_self _ _ _)
    · rw [pk_un e9]; exact ((va_up_ne _ _ (by omega)).trans (va_up_ne _ _ (by omega))).trans (hq2 i hi)
