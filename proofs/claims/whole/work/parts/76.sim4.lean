set_option maxHeartbeats 4000000 in
theorem s_question (l : Launch) (D : va_G) (ty : Nat → ClassId) {k : Nat} {L : List Nat} {ad : Nat → Nat} {g : Nat → va_E} {a : Nat → FI} {dn pn en qn mz : Nat} {nw lo : Int32} {tr : Int64} (i w : Int32) (hk9 : k < 1000) (hP : PI a dn pn en qn nw k) (hX : RX ty L ad g a dn pn en qn nw lo tr) (hM : RM ty L ad g a dn pn en qn mz nw lo tr) : SimAt Value.int l D ty yX8_question wsX8_question 2 42 yX9_question wsX9_question 2 43 [.int i, .int w] k L ad g a dn pn en qn mz nw lo tr := by
  obtain ⟨⟨hd40, hp8, he200, hq30⟩, pD, pJ, pT, pV, pQ, pK⟩ := id hP
  obtain ⟨cO, cD, cR, cP, cV, cS, cN, cQ, cK, cF⟩ := id hX
  obtain ⟨hL0, h_0⟩ := id cO
  have hv4 : ∀ j, j < pn → nN (a 10 j) ≤ 4 := fun j hj => (pJ j hj).2.2.2.1.2.2
  obtain ⟨qf, qv, h_28, hq0, hq00, hq1, hq2, hqs⟩ := id cQ
  rcases ix_p i hq30 (by decide) with ⟨q, hq, rfl⟩ | ⟨q, h1, h2, rfl, h3⟩ | ⟨h2, h3⟩
  · skip
    rcases sw w with rfl | rfl | rfl | rfl | rfl | rfl | hw
    · exact sim_S (a 23 q) hM hX hP (c_X_question_0 l D ty L ad g _ _ _ _ _ _ _ _ _ _ _ _ (hL0 0 (by decide)) (hL0 28 (by decide)) (hq1 q hq) h_0 h_28 (hq2 q hq) (by omega) (hq0 q hq)) (fun L1 ad1 g1 hR9 => c_M_question_0 l D ty L1 ad1 g1 a dn pn en qn mz nw lo tr _ hR9 hq hq30)
    · exact sim_S (a 24 q) hM hX hP (c_X_question_1 l D ty L ad g _ _ _ _ _ _ _ _ _ _ _ _ (hL0 0 (by decide)) (hL0 28 (by decide)) (hq1 q hq) h_0 h_28 (hq2 q hq) (by omega) (hq0 q hq)) (fun L1 ad1 g1 hR9 => c_M_question_1 l D ty L1 ad1 g1 a dn pn en qn mz nw lo tr _ hR9 hq hq30)
    · exact sim_S (a 25 q) hM hX hP (c_X_question_2 l D ty L ad g _ _ _ _ _ _ _ _ _ _ _ _ (hL0 0 (by decide)) (hL0 28 (by decide)) (hq1 q hq) h_0 h_28 (hq2 q hq) (by omega) (hq0 q hq)) (fun L1 ad1 g1 hR9 => c_M_question_2 l D ty L1 ad1 g1 a dn pn en qn mz nw lo tr _ hR9 hq hq30)
    · exact sim_S (a 26 q) hM hX hP (c_X_question_3 l D ty L ad g _ _ _ _ _ _ _ _ _ _ _ _ (hL0 0 (by decide)) (hL0 28 (by decide)) (hq1 q hq) h_0 h_28 (hq2 q hq) (by omega) (hq0 q hq)) (fun L1 ad1 g1 hR9 => c_M_question_3 l D ty L1 ad1 g1 a dn pn en qn mz nw lo tr _ hR9 hq hq30)
    · exact sim_S (-1) hM hX hP (c_X_question_x l D ty L ad g _ _ _ _ _ _ _ _ _ _ _ _ _ (hL0 0 (by decide)) (hL0 28 (by decide)) (hq1 q hq) h_0 h_28 (hq2 q hq) (by omega) (hq0 q hq) (Or.inr (by decide))) (fun L1 ad1 g1 hR9 => c_M_question_x l D ty L1 ad1 g1 a dn pn en qn mz nw lo tr _ _ hR9 hq hq30 (Or.inr (by decide)))
    · exact sim_S (-1) hM hX hP (c_X_question_x l D ty L ad g _ _ _ _ _ _ _ _ _ _ _ _ _ (hL0 0 (by decide)) (hL0 28 (by decide)) (hq1 q hq) h_0 h_28 (hq2 q hq) (by omega) (hq0 q hq) (Or.inr (by decide))) (fun L1 ad1 g1 hR9 => c_M_question_x l D ty L1 ad1 g1 a dn pn en qn mz nw lo tr _ _ hR9 hq hq30 (Or.inr (by decide)))
    · exact sim_S (-1) hM hX hP (c_X_question_x l D ty L ad g _ _ _ _ _ _ _ _ _ _ _ _ _ (hL0 0 (by decide)) (hL0 28 (by decide)) (hq1 q hq) h_0 h_28 (hq2 q hq) (by omega) (hq0 q hq) (by omega)) (fun L1 ad1 g1 hR9 => c_M_question_x l D ty L1 ad1 g1 a dn pn en qn mz nw lo tr _ _ hR9 hq hq30 (by omega))
  · skip
    exact sim_S (-1) hM hX hP (c_X_question_none l D ty L ad g _ _ _ _ _ _ _ (hL0 0 (by decide)) (hL0 28 (by decide)) h_0 h_28 h2 (hq00 q h1 h2)) (fun L1 ad1 g1 hR9 => c_M_question_bad l D ty L1 ad1 g1 a dn pn en qn mz nw lo tr _ _ hR9 h3 hq30)
  · skip
    exact sim_S (-1) hM hX hP (c_X_question_bad l D ty L ad g _ _ _ _ _ _ _ (hL0 0 (by decide)) (hL0 28 (by decide)) h_0 h_28 (by omega)) (fun L1 ad1 g1 hR9 => c_M_question_bad l D ty L1 ad1 g1 a dn pn en qn mz nw lo tr _ _ hR9 h3 hq30)
set_option maxHeartbeats 4000000 in
theorem s_answer (l : Launch) (D : va_G) (ty : Nat → ClassId) {k : Nat} {L : List Nat} {ad : Nat → Nat} {g : Nat → va_E} {a : Nat → FI} {dn pn en qn mz : Nat} {nw lo : Int32} {tr : Int64} (i v z : Int32) (hz : z = 0 ∨ z = 1) (hk9 : k < 1000) (hP : PI a dn pn en qn nw k) (hX : RX ty L ad g a dn pn en qn nw lo tr) (hM : RM ty L ad g a dn pn en qn mz nw lo tr) : SimAt Value.int l D ty yX8_answer wsX8_answer 2 42 yX9_answer wsX9_answer 2 43 [.int i, .int v, .int z] k L ad g a dn pn en qn mz nw lo tr := by
  obtain ⟨⟨hd40, hp8, he200, hq30⟩, pD, pJ, pT, pV, pQ, pK⟩ := id hP
  obtain ⟨cO, cD, cR, cP, cV, cS, cN, cQ, cK, cF⟩ := id hX
  obtain ⟨hL0, h_0⟩ := id cO
  have hv4 : ∀ j, j < pn → nN (a 10 j) ≤ 4 := fun j hj => (pJ j hj).2.2.2.1.2.2
  obtain ⟨qf, qv, h_28, hq0, hq00, hq1, hq2, hqs⟩ := id cQ
  rcases ix_p i hq30 (by decide) with ⟨q, hq, rfl⟩ | ⟨q, h1, h2, rfl, h3⟩ | ⟨h2, h3⟩
  · skip
    obtain ⟨hpj, ⟨n, hn, en9⟩, hrc⟩ := pQ q hq
    by_cases h1 : 0 ≤ v.toInt ∧ v.toInt < 1000
    · skip
      rcases hrc with h26 | h26 | h26
      · skip
        rcases hz with rfl | rfl
        · have pQ2 : ∀ i, i < qn → PQ pn (a 23) (a 25) (upd (a 26) q 1) i := by
            intro i hi
            obtain ⟨z1, z2, z3⟩ := pQ i hi
            refine ⟨z1, z2, ?_⟩
            by_cases e9 : i = q
            · rw [e9, pk_us]; exact Or.inr (Or.inl rfl)
            · rw [pk_un e9]; exact z3
          exact sim_E (sbt (a 25 q) 6) (va_up (va_up a 26 (upd (a 26) q 1)) 27 (upd (a 27) q v)) dn pn en qn mz nw lo tr hM ⟨⟨hd40, hp8, he200, hq30⟩, pD, pJ, pT, pV, pQ2, pK.next⟩ (by rw [en9, ← bc_s n hn, ← en9]; exact c_X_answer_0 l D ty L ad g _ _ _ _ _ _ _ _ _ _ _ _ _ (hL0 0 (by decide)) (hL0 28 (by decide)) (hq1 q hq) h_0 h_28 (hq2 q hq) (by omega) (hq0 q hq) h1 h26 (by omega)) (fun x hx => (va_up_ne _ _ (by omega))) ⟨cO.fr hL0 (fun _ _ => rfl) (va_up_ne _ _ (by omega)), cD.fr (fun _ _ => rfl) (fun x h1 h2 => (va_up_ne _ _ (by omega))), cR.fr (fun _ _ => rfl) (fun x h1 h2 => (va_up_ne _ _ (by omega))), cP.fr (fun _ h => h) (fun _ _ => rfl) (va_up_ne _ _ (by omega)) (fun x _ h1 h2 => (va_up_ne _ _ (by omega))) hp8 hv4, cV.fr (fun _ _ => rfl) (fun x h1 h2 => (va_up_ne _ _ (by omega))), cS.fr (fun _ _ => rfl) (fun x h1 h2 => (va_up_ne _ _ (by omega))), cN.fr (fun _ _ => rfl) (fun x h1 h2 => (va_up_ne _ _ (by omega))), cQ.settle hq hq30 1 v, cK.fr (va_up_ne _ _ (by omega)), cF⟩ (fun L1 ad1 g1 hR9 => c_M_answer_0 l D ty L1 ad1 g1 a dn pn en qn mz nw lo tr _ _ hR9 hq hq30 h1 h26)
        · have pQ2 : ∀ i, i < qn → PQ pn (a 23) (a 25) (upd (a 26) q 2) i := by
            intro i hi
            obtain ⟨z1, z2, z3⟩ := pQ i hi
            refine ⟨z1, z2, ?_⟩
            by_cases e9 : i = q
            · rw [e9, pk_us]; exact Or.inr (Or.inr rfl)
            · rw [pk_un e9]; exact z3
          exact sim_E (sbt (a 25 q) 6) (va_up (va_up a 26 (upd (a 26) q 2)) 27 (upd (a 27) q v)) dn pn en qn mz nw lo tr hM ⟨⟨hd40, hp8, he200, hq30⟩, pD, pJ, pT, pV, pQ2, pK.next⟩ (by rw [en9, ← bc_s n hn, ← en9]; exact c_X_answer_1 l D ty L ad g _ _ _ _ _ _ _ _ _ _ _ _ _ (hL0 0 (by decide)) (hL0 28 (by decide)) (hq1 q hq) h_0 h_28 (hq2 q hq) (by omega) (hq0 q hq) h1 h26 (by omega)) (fun x hx => (va_up_ne _ _ (by omega))) ⟨cO.fr hL0 (fun _ _ => rfl) (va_up_ne _ _ (by omega)), cD.fr (fun _ _ => rfl) (fun x h1 h2 => (va_up_ne _ _ (by omega))), cR.fr (fun _ _ => rfl) (fun x h1 h2 => (va_up_ne _ _ (by omega))), cP.fr (fun _ h => h) (fun _ _ => rfl) (va_up_ne _ _ (by omega)) (fun x _ h1 h2 => (va_up_ne _ _ (by omega))) hp8 hv4, cV.fr (fun _ _ => rfl) (fun x h1 h2 => (va_up_ne _ _ (by omega))), cS.fr (fun _ _ => rfl) (fun x h1 h2 => (va_up_ne _ _ (by omega))), cN.fr (fun _ _ => rfl) (fun x h1 h2 => (va_up_ne _ _ (by omega))), cQ.settle hq hq30 2 v, cK.fr (va_up_ne _ _ (by omega)), cF⟩ (fun L1 ad1 g1 hR9 => c_M_answer_1 l D ty L1 ad1 g1 a dn pn en qn mz nw lo tr _ _ hR9 hq hq30 h1 h26)
      · skip
        exact sim_S (-2) hM hX hP (c_X_answer_state l D ty L ad g _ _ _ _ _ _ _ _ _ _ _ _ _ _ (hL0 0 (by decide)) (hL0 28 (by decide)) (hq1 q hq) h_0 h_28 (hq2 q hq) (by omega) (hq0 q hq) h1 (by rw [h26]; decide)) (fun L1 ad1 g1 hR9 => c_M_answer_state l D ty L1 ad1 g1 a dn pn en qn mz nw lo tr _ _ _ hR9 hq hq30 h1 (by rw [h26]; decide))
      · skip
        exact sim_S (-2) hM hX hP (c_X_answer_state l D ty L ad g _ _ _ _ _ _ _ _ _ _ _ _ _ _ (hL0 0 (by decide)) (hL0 28 (by decide)) (hq1 q hq) h_0 h_28 (hq2 q hq) (by omega) (hq0 q hq) h1 (by rw [h26]; decide)) (fun L1 ad1 g1 hR9 => c_M_answer_state l D ty L1 ad1 g1 a dn pn en qn mz nw lo tr _ _ _ hR9 hq hq30 h1 (by rw [h26]; decide))
    · skip
      exact sim_S (-1) hM hX hP (c_X_answer_b2 l D ty L ad g _ _ _ _ _ _ _ _ _ _ _ _ _ _ (hL0 0 (by decide)) (hL0 28 (by decide)) (hq1 q hq) h_0 h_28 (hq2 q hq) (by omega) (hq0 q hq) h1) (fun L1 ad1 g1 hR9 => c_M_answer_b2 l D ty L1 ad1 g1 a dn pn en qn mz nw lo tr _ _ _ hR9 hq hq30 h1)
  · skip
    exact sim_S (-1) hM hX hP (c_X_answer_none l D ty L ad g _ _ _ _ _ _ _ _ (hL0 0 (by decide)) (hL0 28 (by decide)) h_0 h_28 h2 (hq00 q h1 h2)) (fun L1 ad1 g1 hR9 => c_M_answer_b1 l D ty L1 ad1 g1 a dn pn en qn mz nw lo tr _ _ _ hR9 h3 hq30)
  · skip
    exact sim_S (-1) hM hX hP (c_X_answer_bad l D ty L ad g _ _ _ _ _ _ _ _ (hL0 0 (by decide)) (hL0 28 (by decide)) h_0 h_28 (by omega)) (fun L1 ad1 g1 hR9 => c_M_answer_b1 l D ty L1 ad1 g1 a dn pn en qn mz nw lo tr _ _ _ hR9 h3 hq30)
set_option maxHeartbeats 4000000 in
theorem s_hear (l : Launch) (D : va_G) (ty : Nat → ClassId) {k : Nat} {L : List Nat} {ad : Nat → Nat} {g : Nat → va_E} {a : Nat → FI} {dn pn en qn mz : Nat} {nw lo : Int32} {tr : Int64} (i1 i : Int32) (hk9 : k < 1000) (hP : PI a dn pn en qn nw k) (hX : RX ty L ad g a dn pn en qn nw lo tr) (hM : RM ty L ad g a dn pn en qn mz nw lo tr) : SimAt Value.int l D ty yX8_hear wsX8_hear 5 113 yX9_hear wsX9_hear 2 43 [.int i1, .int i] k L ad g a dn pn en qn mz nw lo tr := by
  obtain ⟨⟨hd40, hp8, he200, hq30⟩, pD, pJ, pT, pV, pQ, pK⟩ := id hP
  obtain ⟨cO, cD, cR, cP, cV, cS, cN, cQ, cK, cF⟩ := id hX
  obtain ⟨hL0, h_0⟩ := id cO
  have hv4 : ∀ j, j < pn → nN (a 10 j) ≤ 4 := fun j hj => (pJ j hj).2.2.2.1.2.2
  obtain ⟨⟨pf, h_6, hpf, hpf0⟩, xJ, xT⟩ := id cP
  obtain ⟨h_3, h_4, h_5⟩ := id cR
  obtain ⟨qf, qv, h_28, hq0, hq00, hq1, hq2, hqs⟩ := id cQ
  rcases ix_n i1 6 (by decide) with ⟨b, hb6, rfl⟩ | hb
  · skip
    rcases ix_p i hq30 (by decide) with ⟨q, hq, rfl⟩ | ⟨q, h1, h2, rfl, h3⟩ | ⟨h2, h3⟩
    · skip
      obtain ⟨⟨j, hj, ej⟩, -, hrc⟩ := pQ q hq
      have hqc : g (700 + q) = .inr (3, [.int (nI j), .int (a 24 q), .int (a 25 q), .int (a 26 q), .int (qv q)]) := by rw [← ej]; exact hq2 q hq
      obtain ⟨mpp, mpt, hpp0, tf, h_pt, htf, htf0⟩ := xJ j hj
      obtain ⟨hkd, ⟨ef, hf4⟩, hwd, ⟨ev, hv1, hv4j⟩, hlg⟩ := pJ j hj
      rcases hkd with hk | hk | hk
      · skip
        have hc := hpp0.trans (pcell_0 hk _ _ _ _ _)
        rcases bool2 (seeB (a 6 j) (a 9 j) (a 8 j) (a 3) (a 4) (b % 3 * 4 + nN (a 7 j)) nw) with hs | hs
        · have hs2 := (see_0 hk _ _ _ _ _ _).symm.trans hs
          rcases hrc with h26 | h26 | h26
          · exact sim_S (-2) hM hX hP (c_X_hear2_state l D ty L ad g _ _ _ _ _ _ _ _ _ _ _ _ _ _ _ _ _ _ _ _ _ (hL0 0 (by decide)) (hL0 3 (by decide)) (hL0 4 (by decide)) (hL0 5 (by decide)) (hL0 6 (by decide)) (hL0 28 (by decide)) (hq1 q hq) mpp h_0 h_3 h_4 h_5 h_6 h_28 hqc hc (by omega) (hq0 q hq) (by omega) (hpf j hj) hb6 hf4 hwd hs2 h26) (fun L1 ad1 g1 hR9 => c_M_hear_state l D ty L1 ad1 g1 a dn pn en qn mz nw lo tr _ _ _ _ hR9 hq hq30 ej hb6 (by omega) ef hf4 hwd hs h26)
          · by_cases hak : (a 25 q >>> (nI b &&& 31)) &&& 1 = 1
            · exact sim_S (a 27 q) hM hX hP (by rw [← hqs q hq (by rw [h26]; decide)]; exact c_X_hear2_yes l D ty L ad g _ _ _ _ _ _ _ _ _ _ _ _ _ _ _ _ _ _ _ _ _ (hL0 0 (by decide)) (hL0 3 (by decide)) (hL0 4 (by decide)) (hL0 5 (by decide)) (hL0 6 (by decide)) (hL0 28 (by decide)) (hq1 q hq) mpp h_0 h_3 h_4 h_5 h_6 h_28 hqc hc (by omega) (hq0 q hq) (by omega) (hpf j hj) hb6 hf4 hwd hs2 (by rw [h26]; decide) (Or.inr hak)) (fun L1 ad1 g1 hR9 => c_M_hear_asker l D ty L1 ad1 g1 a dn pn en qn mz nw lo tr _ _ _ _ hR9 hq hq30 ej hb6 (by omega) ef hf4 hwd hs h26 hak)
            · exact sim_S (-4) hM hX hP (c_X_hear2_other l D ty L ad g _ _ _ _ _ _ _ _ _ _ _ _ _ _ _ _ _ _ _ _ _ (hL0 0 (by decide)) (hL0 3 (by decide)) (hL0 4 (by decide)) (hL0 5 (by decide)) (hL0 6 (by decide)) (hL0 28 (by decide)) (hq1 q hq) mpp h_0 h_3 h_4 h_5 h_6 h_28 hqc hc (by omega) (hq0 q hq) (by omega) (hpf j hj) hb6 hf4 hwd hs2 (by rw [h26]; decide) (fun q9 => q9.elim (fun q9 => by rw [h26] at q9; exact absurd q9 (by decide)) hak)) (fun L1 ad1 g1 hR9 => c_M_hear_other l D ty L1 ad1 g1 a dn pn en qn mz nw lo tr _ _ _ _ hR9 hq hq30 ej hb6 (by omega) ef hf4 hwd hs h26 hak)
          · exact sim_S (a 27 q) hM hX hP (by rw [← hqs q hq (by rw [h26]; decide)]; exact c_X_hear2_yes l D ty L ad g _ _ _ _ _ _ _ _ _ _ _ _ _ _ _ _ _ _ _ _ _ (hL0 0 (by decide)) (hL0 3 (by decide)) (hL0 4 (by decide)) (hL0 5 (by decide)) (hL0 6 (by decide)) (hL0 28 (by decide)) (hq1 q hq) mpp h_0 h_3 h_4 h_5 h_6 h_28 hqc hc (by omega) (hq0 q hq) (by omega) (hpf j hj) hb6 hf4 hwd hs2 (by rw [h26]; decide) (Or.inl h26)) (fun L1 ad1 g1 hR9 => c_M_hear_all l D ty L1 ad1 g1 a dn pn en qn mz nw lo tr _ _ _ _ hR9 hq hq30 ej hb6 (by omega) ef hf4 hwd hs h26)
        · have hs2 := (see_0 hk _ _ _ _ _ _).symm.trans hs
          exact sim_S (-4) hM hX hP (c_X_hear2_no l D ty L ad g _ _ _ _ _ _ _ _ _ _ _ _ _ _ _ _ _ _ _ _ _ (hL0 0 (by decide)) (hL0 3 (by decide)) (hL0 4 (by decide)) (hL0 5 (by decide)) (hL0 6 (by decide)) (hL0 28 (by decide)) (hq1 q hq) mpp h_0 h_3 h_4 h_5 h_6 h_28 hqc hc (by omega) (hq0 q hq) (by omega) (hpf j hj) hb6 hf4 hwd hs2) (fun L1 ad1 g1 hR9 => c_M_hear_no l D ty L1 ad1 g1 a dn pn en qn mz nw lo tr _ _ _ _ hR9 hq hq30 ej hb6 (by omega) ef hf4 hwd hs)
      · skip
        have hc := hpp0.trans (pcell_1 hk _ _ _ _ _)
        rcases bool2 (seeB (a 6 j) (a 9 j) (a 8 j) (a 3) (a 4) (b % 3 * 4 + nN (a 7 j)) nw) with hs | hs
        · have hs2 := (see_1 hk _ _ _ _ _ _).symm.trans hs
          rcases hrc with h26 | h26 | h26
          · exact sim_S (-2) hM hX hP (c_X_hear0_state l D ty L ad g _ _ _ _ _ _ _ _ _ _ _ _ _ _ _ _ _ _ _ _ _ _ (hL0 0 (by decide)) (hL0 3 (by decide)) (hL0 4 (by decide)) (hL0 5 (by decide)) (hL0 6 (by decide)) (hL0 28 (by decide)) (hq1 q hq) mpp h_0 h_3 h_4 h_5 h_6 h_28 hqc hc (by omega) (hq0 q hq) (by omega) (hpf j hj) hb6 hf4 hwd hs2 h26) (fun L1 ad1 g1 hR9 => c_M_hear_state l D ty L1 ad1 g1 a dn pn en qn mz nw lo tr _ _ _ _ hR9 hq hq30 ej hb6 (by omega) ef hf4 hwd hs h26)
          · by_cases hak : (a 25 q >>> (nI b &&& 31)) &&& 1 = 1
            · exact sim_S (a 27 q) hM hX hP (by rw [← hqs q hq (by rw [h26]; decide)]; exact c_X_hear0_yes l D ty L ad g _ _ _ _ _ _ _ _ _ _ _ _ _ _ _ _ _ _ _ _ _ _ (hL0 0 (by decide)) (hL0 3 (by decide)) (hL0 4 (by decide)) (hL0 5 (by decide)) (hL0 6 (by decide)) (hL0 28 (by decide)) (hq1 q hq) mpp h_0 h_3 h_4 h_5 h_6 h_28 hqc hc (by omega) (hq0 q hq) (by omega) (hpf j hj) hb6 hf4 hwd hs2 (by rw [h26]; decide) (Or.inr hak)) (fun L1 ad1 g1 hR9 => c_M_hear_asker l D ty L1 ad1 g1 a dn pn en qn mz nw lo tr _ _ _ _ hR9 hq hq30 ej hb6 (by omega) ef hf4 hwd hs h26 hak)
            · exact sim_S (-4) hM hX hP (c_X_hear0_other l D ty L ad g _ _ _ _ _ _ _ _ _ _ _ _ _ _ _ _ _ _ _ _ _ _ (hL0 0 (by decide)) (hL0 3 (by decide)) (hL0 4 (by decide)) (hL0 5 (by decide)) (hL0 6 (by decide)) (hL0 28 (by decide)) (hq1 q hq) mpp h_0 h_3 h_4 h_5 h_6 h_28 hqc hc (by omega) (hq0 q hq) (by omega) (hpf j hj) hb6 hf4 hwd hs2 (by rw [h26]; decide) (fun q9 => q9.elim (fun q9 => by rw [h26] at q9; exact absurd q9 (by decide)) hak)) (fun L1 ad1 g1 hR9 => c_M_hear_other l D ty L1 ad1 g1 a dn pn en qn mz nw lo tr _ _ _ _ hR9 hq hq30 ej hb6 (by omega) ef hf4 hwd hs h26 hak)
          · exact sim_S (a 27 q) hM hX hP (by rw [← hqs q hq (by rw [h26]; decide)]; exact c_X_hear0_yes l D ty L ad g _ _ _ _ _ _ _ _ _ _ _ _ _ _ _ _ _ _ _ _ _ _ (hL0 0 (by decide)) (hL0 3 (by decide)) (hL0 4 (by decide)) (hL0 5 (by decide)) (hL0 6 (by decide)) (hL0 28 (by decide)) (hq1 q hq) mpp h_0 h_3 h_4 h_5 h_6 h_28 hqc hc (by omega) (hq0 q hq) (by omega) (hpf j hj) hb6 hf4 hwd hs2 (by rw [h26]; decide) (Or.inl h26)) (fun L1 ad1 g1 hR9 => c_M_hear_all l D ty L1 ad1 g1 a dn pn en qn mz nw lo tr _ _ _ _ hR9 hq hq30 ej hb6 (by omega) ef hf4 hwd hs h26)
        · have hs2 := (see_1 hk _ _ _ _ _ _).symm.trans hs
          exact sim_S (-4) hM hX hP (c_X_hear0_no l D ty L ad g _ _ _ _ _ _ _ _ _ _ _ _ _ _ _ _ _ _ _ _ _ _ (hL0 0 (by decide)) (hL0 3 (by decide)) (hL0 4 (by decide)) (hL0 5 (by decide)) (hL0 6 (by decide)) (hL0 28 (by decide)) (hq1 q hq) mpp h_0 h_3 h_4 h_5 h_6 h_28 hqc hc (by omega) (hq0 q hq) (by omega) (hpf j hj) hb6 hf4 hwd hs2) (fun L1 ad1 g1 hR9 => c_M_hear_no l D ty L1 ad1 g1 a dn pn en qn mz nw lo tr _ _ _ _ hR9 hq hq30 ej hb6 (by omega) ef hf4 hwd hs)
      · skip
        have hc := hpp0.trans (pcell_2 hk _ _ _ _ _)
        rcases bool2 (seeB (a 6 j) (a 9 j) (a 8 j) (a 3) (a 4) (b % 3 * 4 + nN (a 7 j)) nw) with hs | hs
        · have hs2 := (see_2 hk _ _ _ _ _ _).symm.trans hs
          rcases hrc with h26 | h26 | h26
          · exact sim_S (-2) hM hX hP (c_X_hear1_state l D ty L ad g _ _ _ _ _ _ _ _ _ _ _ _ _ _ _ _ _ _ _ _ _ (hL0 0 (by decide)) (hL0 3 (by decide)) (hL0 4 (by decide)) (hL0 5 (by decide)) (hL0 6 (by decide)) (hL0 28 (by decide)) (hq1 q hq) mpp h_0 h_3 h_4 h_5 h_6 h_28 hqc hc (by omega) (hq0 q hq) (by omega) (hpf j hj) hb6 hf4 hwd hs2 h26) (fun L1 ad1 g1 hR9 => c_M_hear_state l D ty L1 ad1 g1 a dn pn en qn mz nw lo tr _ _ _ _ hR9 hq hq30 ej hb6 (by omega) ef hf4 hwd hs h26)
          · by_cases hak : (a 25 q >>> (nI b &&& 31)) &&& 1 = 1
            · exact sim_S (a 27 q) hM hX hP (by rw [← hqs q hq (by rw [h26]; decide)]; exact c_X_hear1_yes l D ty L ad g _ _ _ _ _ _ _ _ _ _ _ _ _ _ _ _ _ _ _ _ _ (hL0 0 (by decide)) (hL0 3 (by decide)) (hL0 4 (by decide)) (hL0 5 (by decide)) (hL0 6 (by decide)) (hL0 28 (by decide)) (hq1 q hq) mpp h_0 h_3 h_4 h_5 h_6 h_28 hqc hc (by omega) (hq0 q hq) (by omega) (hpf j hj) hb6 hf4 hwd hs2 (by rw [h26]; decide) (Or.inr hak)) (fun L1 ad1 g1 hR9 => c_M_hear_asker l D ty L1 ad1 g1 a dn pn en qn mz nw lo tr _ _ _ _ hR9 hq hq30 ej hb6 (by omega) ef hf4 hwd hs h26 hak)
            · exact sim_S (-4) hM hX hP (c_X_hear1_other l D ty L ad g _ _ _ _ _ _ _ _ _ _ _ _ _ _ _ _ _ _ _ _ _ (hL0 0 (by decide)) (hL0 3 (by decide)) (hL0 4 (by decide)) (hL0 5 (by decide)) (hL0 6 (by decide)) (hL0 28 (by decide)) (hq1 q hq) mpp h_0 h_3 h_4 h_5 h_6 h_28 hqc hc (by omega) (hq0 q hq) (by omega) (hpf j hj) hb6 hf4 hwd hs2 (by rw [h26]; decide) (fun q9 => q9.elim (fun q9 => by rw [h26] at q9; exact absurd q9 (by decide)) hak)) (fun L1 ad1 g1 hR9 => c_M_hear_other l D ty L1 ad1 g1 a dn pn en qn mz nw lo tr _ _ _ _ hR9 hq hq30 ej hb6 (by omega) ef hf4 hwd hs h26 hak)
          · exact sim_S (a 27 q) hM hX hP (by rw [← hqs q hq (by rw [h26]; decide)]; exact c_X_hear1_yes l D ty L ad g _ _ _ _ _ _ _ _ _ _ _ _ _ _ _ _ _ _ _ _ _ (hL0 0 (by decide)) (hL0 3 (by decide)) (hL0 4 (by decide)) (hL0 5 (by decide)) (hL0 6 (by decide)) (hL0 28 (by decide)) (hq1 q hq) mpp h_0 h_3 h_4 h_5 h_6 h_28 hqc hc (by omega) (hq0 q hq) (by omega) (hpf j hj) hb6 hf4 hwd hs2 (by rw [h26]; decide) (Or.inl h26)) (fun L1 ad1 g1 hR9 => c_M_hear_all l D ty L1 ad1 g1 a dn pn en qn mz nw lo tr _ _ _ _ hR9 hq hq30 ej hb6 (by omega) ef hf4 hwd hs h26)
        · have hs2 := (see_2 hk _ _ _ _ _ _).symm.trans hs
          exact sim_S (-4) hM hX hP (c_X_hear1_no l D ty L ad g _ _ _ _ _ _ _ _ _ _ _ _ _ _ _ _ _ _ _ _ _ (hL0 0 (by decide)) (hL0 3 (by decide)) (hL0 4 (by decide)) (hL0 5 (by decide)) (hL0 6 (by decide)) (hL0 28 (by decide)) (hq1 q hq) mpp h_0 h_3 h_4 h_5 h_6 h_28 hqc hc (by omega) (hq0 q hq) (by omega) (hpf j hj) hb6 hf4 hwd hs2) (fun L1 ad1 g1 hR9 => c_M_hear_no l D ty L1 ad1 g1 a dn pn en qn mz nw lo tr _ _ _ _ hR9 hq hq30 ej hb6 (by omega) ef hf4 hwd hs)
    · skip
      exact sim_S (-1) hM hX hP (c_X_hear_none l D ty L ad g _ _ _ _ _ _ _ (hL0 0 (by decide)) (hL0 28 (by decide)) h_0 h_28 h2 (hq00 q h1 h2) hb6) (fun L1 ad1 g1 hR9 => c_M_hear_b2 l D ty L1 ad1 g1 a dn pn en qn mz nw lo tr _ _ hR9 hb6 h3 hq30)
    · skip
      exact sim_S (-1) hM hX hP (c_X_hear_bad l D ty L ad g _ _ _ _ _ _ _ (hL0 0 (by decide)) (hL0 28 (by decide)) h_0 h_28 (by omega) hb6) (fun L1 ad1 g1 hR9 => c_M_hear_b2 l D ty L1 ad1 g1 a dn pn en qn mz nw lo tr _ _ hR9 hb6 h3 hq30)
  · skip
    rcases ix_n i 30 (by decide) with ⟨q, hq, rfl⟩ | h
    · exact sim_S (-1) hM hX hP (c_X_hear_b2 l D ty L ad g _ _ _ _ _ _ _ (hL0 0 (by decide)) (hL0 28 (by decide)) h_0 h_28 (by omega) hq) (fun L1 ad1 g1 hR9 => c_M_hear_b1 l D ty L1 ad1 g1 a dn pn en qn mz nw lo tr _ _ hR9 (by omega))
    · exact sim_S (-1) hM hX hP (c_X_hear_b1 l D ty L ad g _ _ _ _ _ _ _ (hL0 0 (by decide)) (hL0 28 (by decide)) h_0 h_28 (by omega) (by omega)) (fun L1 ad1 g1 hR9 => c_M_hear_b1 l D ty L1 ad1 g1 a dn pn en qn mz nw lo tr _ _ hR9 (by omega))
