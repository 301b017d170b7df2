set_option maxHeartbeats 4000000 in
theorem ask_new_0 (l : Launch) (D : va_G) (ty : Nat → ClassId) {k : Nat} {L : List Nat} {ad : Nat → Nat} {g : Nat → va_E} {a : Nat → FI} {dn pn en qn mz : Nat} {nw lo : Int32} {tr : Int64} {b j : Nat} {tp : Int32} (hk9 : k < 1000) (hP : PI a dn pn en qn nw k) (hX : RX ty L ad g a dn pn en qn nw lo tr) (hM : RM ty L ad g a dn pn en qn mz nw lo tr) (hb6 : b < 6) (hj : j < pn) (hk : a 6 j = 0) (htp : 0 ≤ tp.toInt ∧ tp.toInt < 10) (hs : seeB (a 6 j) (a 9 j) (a 8 j) (a 3) (a 4) (b % 3 * 4 + nN (a 7 j)) nw = true) (ht2 : ¬ (if a 28 b = nw then a 29 b else 0) = 2) (hqn : qn < 30) (hno : ∀ i, i < qn → ¬ (a 23 i = nI j ∧ a 24 i = tp)) : SimAt Value.int l D ty yX8_ask wsX8_ask 5 113 yX9_ask wsX9_ask 2 43 [.int (nI b), .int (nI j), .int tp] k L ad g a dn pn en qn mz nw lo tr := by
  obtain ⟨⟨hd40, hp8, he200, hq30⟩, pD, pJ, pT, pV, pQ, pK⟩ := id hP
  obtain ⟨cO, cD, cR, cP, cV, cS, cN, cQ, cK, cF⟩ := id hX
  obtain ⟨hL0, h_0⟩ := id cO
  have hv4 : ∀ j, j < pn → nN (a 10 j) ≤ 4 := fun j hj => (pJ j hj).2.2.2.1.2.2
  obtain ⟨⟨pf, h_6, hpf, hpf0⟩, xJ, xT⟩ := id cP
  obtain ⟨h_3, h_4, h_5⟩ := id cR
  obtain ⟨qf, qv, h_28, hq0, hq00, hq1, hq2, hqs⟩ := id cQ
  obtain ⟨ak, h_29, hak⟩ := id cK
  obtain ⟨mpp, mpt, hpp0, tf, h_pt, htf, htf0⟩ := xJ j hj
  obtain ⟨hkd, ⟨ef, hf4⟩, hwd, ⟨ev, hv1, hv4j⟩, hlg⟩ := pJ j hj
  have hc := hpp0.trans (pcell_0 hk _ _ _ _ _)
  have hs2 := (see_0 hk _ _ _ _ _ _).symm.trans hs
  have hk2 : 0 ≤ (ak b).toInt ∧ (ak b).toInt < 2 := ask_lt (hak b hb6) (pK.2 b hb6).2.1 (pK.2 b hb6).2.2 ht2
  have pK2 : PK (upd (a 28) b nw) (upd (a 29) b (ak b + 1)) nw (k + 1) := by
    refine ⟨pK.next.1, fun c hc9 => ?_⟩
    by_cases e9 : c = b
    · have h1 : (ak b + 1).toInt = (ak b).toInt + 1 := ti_add (by have := (by decide : (1 : Int32).toInt = 1); omega) (by have := (by decide : (1 : Int32).toInt = 1); omega)
      rw [e9, pk_us, pk_us, h1]; omega
    · rw [pk_un e9, pk_un e9]; exact pK.2 c hc9
  have hXK : ∀ c, c < 6 → upd ak b (ak b + 1) c = if upd (a 28) b nw c = nw then upd (a 29) b (ak b + 1) c else 0 := by
    intro c hc9
    by_cases e9 : c = b
    · rw [e9, pk_us, pk_us, pk_us, if_pos rfl]
    · rw [pk_un e9, pk_un e9, pk_un e9]; exact hak c hc9
  have pQ2 : ∀ i, i < qn + 1 → PQ pn (upd (a 23) qn (nI j)) (upd (upd (a 25) qn 0) qn (upd (a 25) qn 0 qn ||| 1 <<< (nI b &&& 31))) (upd (a 26) qn 0) i := by
    intro i hi
    unfold PQ
    by_cases e9 : i = qn
    · rw [e9, pk_us, pk_us, pk_us, pk_us]
      exact ⟨⟨j, hj, rfl⟩, ⟨_, (or_b 0 (by decide) b hb6).2, (or_b 0 (by decide) b hb6).1⟩, Or.inl rfl⟩
    · rw [pk_un e9, pk_un e9, pk_un e9, pk_un e9]; exact pQ i (by omega)
  refine sim_C (nI qn) (askA (qsA a qn (nI j) tp) b qn nw (ak b)) dn pn en (qn + 1) mz nw lo tr (by decide) (by decide) hM (hL0 0 (by decide)) ⟨⟨hd40, hp8, he200, by omega⟩, pD, pJ, pT, pV, pQ2, pK2⟩ (c_X_ask2_new l D ty L ad g _ _ _ _ _ _ _ _ _ _ _ _ qf (fun i => 700 + i) (a 23) (a 24) (a 25) (a 26) qv _ _ _ _ (700 + qn) hL0 mpp h_0 h_3 h_4 h_5 h_6 h_28 h_29 hc (by omega) (hpf j hj) hb6 hf4 hwd (by omega) htp hs2 hk2.2 hq0 hq1 hq2 hq30 hqn hno (cF.noQ hp8 hqn hv4) (by omega)) ?_ (fun L1 ad1 g1 hR9 => c_M_ask_new l D ty L1 ad1 g1 a dn pn en qn mz nw lo tr _ _ _ _ (ak b) hR9 hj hp8 htp hb6 ef hf4 hwd hs (hak b hb6) (by rw [hak b hb6]; exact ht2) hqn hno)
  rintro v1 L1 ad1 g1 ⟨q1, rfl, hA, hfr, g_q, g_28, g_0, g_29⟩
  have hL : ∀ x ∈ L, x ∈ L ++ [700 + qn] := fun x hx => List.mem_append_left _ hx
  have hA2 : ∀ x ∈ L, ad1 x = ad x := fun x hx => (hA x hx).symm
  have hA0 : ∀ r, r < 30 → ad1 r = ad r := fun r hr => hA2 r (hL0 r hr)
  have fr : ∀ x ∈ L, x ≠ 28 → x ≠ 0 → x ≠ 29 → g1 x = g x := hfr
  have hXQ : XQ ty (L ++ [700 + qn]) ad1 g1 (qn + 1) (upd (a 23) qn (nI j)) (upd (a 24) qn tp) (upd (upd (a 25) qn 0) qn (upd (a 25) qn 0 qn ||| 1 <<< (nI b &&& 31))) (upd (a 26) qn 0) (a 27) := by
    refine ⟨_, upd qv qn 0, g_28, fun i hi => ?_, fun i h1 h2 => (va_up_ne _ _ (by omega)).trans (hq00 i (by omega) h2), fun i hi => ?_, fun i hi => ?_, fun i hi hn => ?_⟩
    · by_cases e9 : i = qn
      · rw [e9, va_up_self]
      · rw [va_up_ne _ _ e9, hA2 _ (hq1 i (by omega))]; exact hq0 i (by omega)
    · by_cases e9 : i = qn
      · rw [e9]; exact List.mem_append_right _ (List.mem_singleton.mpr rfl)
      · exact hL _ (hq1 i (by omega))
    · by_cases e9 : i = qn
      · rw [e9, pk_us, pk_us, pk_us, pk_us, pk_us, pk_us]; exact g_q
      · rw [pk_un e9, pk_un e9, pk_un e9, pk_un e9, pk_un e9, pk_un e9]; exact (fr _ (hq1 i (by omega)) (by omega) (by omega) (by omega)).trans (hq2 i (by omega))
    · by_cases e9 : i = qn
      · rw [e9, pk_us] at hn; exact absurd rfl hn
      · rw [pk_un e9] at hn; rw [pk_un e9]; exact hqs i (by omega) hn
  have hXF := cF.askd (L1 := L ++ [700 + qn]) (fun r hr => (List.mem_append.mp hr).elim Or.inl (fun h => Or.inr (List.mem_singleton.mp h)))
  exact ⟨q1, hL, hA2, fun x hx h => fr x hx (by omega) (by omega) (by omega), ⟨fun r hr => hL r (hL0 r hr), g_0⟩, cD.fr hA0 (fun x h1 h2 => (fr _ (hL0 _ (by omega)) (by omega) (by omega) (by omega))), cR.fr hA0 (fun x h1 h2 => (fr _ (hL0 _ (by omega)) (by omega) (by omega) (by omega))), cP.fr hL hA2 (fr _ (hL0 _ (by omega)) (by omega) (by omega) (by omega)) (fun x hx h1 h2 => fr x hx (by omega) (by omega) (by omega)) hp8 hv4, cV.fr hA0 (fun x h1 h2 => (fr _ (hL0 _ (by omega)) (by omega) (by omega) (by omega))), cS.fr hA0 (fun x h1 h2 => (fr _ (hL0 _ (by omega)) (by omega) (by omega) (by omega))), cN.fr hA0 (fun x h1 h2 => (fr _ (hL0 _ (by omega)) (by omega) (by omega) (by omega))), hXQ, ⟨_, g_29, hXK⟩, hXF⟩
set_option maxHeartbeats 4000000 in
theorem ask_new_1 (l : Launch) (D : va_G) (ty : Nat → ClassId) {k : Nat} {L : List Nat} {ad : Nat → Nat} {g : Nat → va_E} {a : Nat → FI} {dn pn en qn mz : Nat} {nw lo : Int32} {tr : Int64} {b j : Nat} {tp : Int32} (hk9 : k < 1000) (hP : PI a dn pn en qn nw k) (hX : RX ty L ad g a dn pn en qn nw lo tr) (hM : RM ty L ad g a dn pn en qn mz nw lo tr) (hb6 : b < 6) (hj : j < pn) (hk : a 6 j = 1) (htp : 0 ≤ tp.toInt ∧ tp.toInt < 10) (hs : seeB (a 6 j) (a 9 j) (a 8 j) (a 3) (a 4) (b % 3 * 4 + nN (a 7 j)) nw = true) (ht2 : ¬ (if a 28 b = nw then a 29 b else 0) = 2) (hqn : qn < 30) (hno : ∀ i, i < qn → ¬ (a 23 i = nI j ∧ a 24 i = tp)) : SimAt Value.int l D ty yX8_ask wsX8_ask 5 113 yX9_ask wsX9_ask 2 43 [.int (nI b), .int (nI j), .int tp] k L ad g a dn pn en qn mz nw lo tr := by
  obtain ⟨⟨hd40, hp8, he200, hq30⟩, pD, pJ, pT, pV, pQ, pK⟩ := id hP
  obtain ⟨cO, cD, cR, cP, cV, cS, cN, cQ, cK, cF⟩ := id hX
  obtain ⟨hL0, h_0⟩ := id cO
  have hv4 : ∀ j, j < pn → nN (a 10 j) ≤ 4 := fun j hj => (pJ j hj).2.2.2.1.2.2
  obtain ⟨⟨pf, h_6, hpf, hpf0⟩, xJ, xT⟩ := id cP
  obtain ⟨h_3, h_4, h_5⟩ := id cR
  obtain ⟨qf, qv, h_28, hq0, hq00, hq1, hq2, hqs⟩ := id cQ
  obtain ⟨ak, h_29, hak⟩ := id cK
  obtain ⟨mpp, mpt, hpp0, tf, h_pt, htf, htf0⟩ := xJ j hj
  obtain ⟨hkd, ⟨ef, hf4⟩, hwd, ⟨ev, hv1, hv4j⟩, hlg⟩ := pJ j hj
  have hc := hpp0.trans (pcell_1 hk _ _ _ _ _)
  have hs2 := (see_1 hk _ _ _ _ _ _).symm.trans hs
  have hk2 : 0 ≤ (ak b).toInt ∧ (ak b).toInt < 2 := ask_lt (hak b hb6) (pK.2 b hb6).2.1 (pK.2 b hb6).2.2 ht2
  have pK2 : PK (upd (a 28) b nw) (upd (a 29) b (ak b + 1)) nw (k + 1) := by
    refine ⟨pK.next.1, fun c hc9 => ?_⟩
    by_cases e9 : c = b
    · have h1 : (ak b + 1).toInt = (ak b).toInt + 1 := ti_add (by have := (by decide : (1 : Int32).toInt = 1); omega) (by have := (by decide : (1 : Int32).toInt = 1); omega)
      rw [e9, pk_us, pk_us, h1]; omega
    · rw [pk_un e9, pk_un e9]; exact pK.2 c hc9
  have hXK : ∀ c, c < 6 → upd ak b (ak b + 1) c = if upd (a 28) b nw c = nw then upd (a 29) b (ak b + 1) c else 0 := by
    intro c hc9
    by_cases e9 : c = b
    · rw [e9, pk_us, pk_us, pk_us, if_pos rfl]
    · rw [pk_un e9, pk_un e9, pk_un e9]; exact hak c hc9
  have pQ2 : ∀ i, i < qn + 1 → PQ pn (upd (a 23) qn (nI j)) (upd (upd (a 25) qn 0) qn (upd (a 25) qn 0 qn ||| 1 <<< (nI b &&& 31))) (upd (a 26) qn 0) i := by
    intro i hi
    unfold PQ
    by_cases e9 : i = qn
    · rw [e9, pk_us, pk_us, pk_us, pk_us]
      exact ⟨⟨j, hj, rfl⟩, ⟨_, (or_b 0 (by decide) b hb6).2, (or_b 0 (by decide) b hb6).1⟩, Or.inl rfl⟩
    · rw [pk_un e9, pk_un e9, pk_un e9, pk_un e9]; exact pQ i (by omega)
  refine sim_C (nI qn) (askA (qsA a qn (nI j) tp) b qn nw (ak b)) dn pn en (qn + 1) mz nw lo tr (by decide) (by decide) hM (hL0 0 (by decide)) ⟨⟨hd40, hp8, he200, by omega⟩, pD, pJ, pT, pV, pQ2, pK2⟩ (c_X_ask0_new l D ty L ad g _ _ _ _ _ _ _ _ _ _ _ _ _ qf (fun i => 700 + i) (a 23) (a 24) (a 25) (a 26) qv _ _ _ _ (700 + qn) hL0 mpp h_0 h_3 h_4 h_5 h_6 h_28 h_29 hc (by omega) (hpf j hj) hb6 hf4 hwd (by omega) htp hs2 hk2.2 hq0 hq1 hq2 hq30 hqn hno (cF.noQ hp8 hqn hv4) (by omega)) ?_ (fun L1 ad1 g1 hR9 => c_M_ask_new l D ty L1 ad1 g1 a dn pn en qn mz nw lo tr _ _ _ _ (ak b) hR9 hj hp8 htp hb6 ef hf4 hwd hs (hak b hb6) (by rw [hak b hb6]; exact ht2) hqn hno)
  rintro v1 L1 ad1 g1 ⟨q1, rfl, hA, hfr, g_q, g_28, g_0, g_29⟩
  have hL : ∀ x ∈ L, x ∈ L ++ [700 + qn] := fun x hx => List.mem_append_left _ hx
  have hA2 : ∀ x ∈ L, ad1 x = ad x := fun x hx => (hA x hx).symm
  have hA0 : ∀ r, r < 30 → ad1 r = ad r := fun r hr => hA2 r (hL0 r hr)
  have fr : ∀ x ∈ L, x ≠ 28 → x ≠ 0 → x ≠ 29 → g1 x = g x := hfr
  have hXQ : XQ ty (L ++ [700 + qn]) ad1 g1 (qn + 1) (upd (a 23) qn (nI j)) (upd (a 24) qn tp) (upd (upd (a 25) qn 0) qn (upd (a 25) qn 0 qn ||| 1 <<< (nI b &&& 31))) (upd (a 26) qn 0) (a 27) := by
    refine ⟨_, upd qv qn 0, g_28, fun i hi => ?_, fun i h1 h2 => (va_up_ne _ _ (by omega)).trans (hq00 i (by omega) h2), fun i hi => ?_, fun i hi => ?_, fun i hi hn => ?_⟩
    · by_cases e9 : i = qn
      · rw [e9, va_up_self]
      · rw [va_up_ne _ _ e9, hA2 _ (hq1 i (by omega))]; exact hq0 i (by omega)
    · by_cases e9 : i = qn
      · rw [e9]; exact List.mem_append_right _ (List.mem_singleton.mpr rfl)
      · exact hL _ (hq1 i (by omega))
    · by_cases e9 : i = qn
      · rw [e9, pk_us, pk_us, pk_us, pk_us, pk_us, pk_us]; exact g_q
      · rw [pk_un e9, pk_un e9, pk_un e9, pk_un e9, pk_un e9, pk_un e9]; exact (fr _ (hq1 i (by omega)) (by omega) (by omega) (by omega)).trans (hq2 i (by omega))
    · by_cases e9 : i = qn
      · rw [e9, pk_us] at hn; exact absurd rfl hn
      · rw [pk_un e9] at hn; rw [pk_un e9]; exact hqs i (by omega) hn
  have hXF := cF.askd (L1 := L ++ [700 + qn]) (fun r hr => (List.mem_append.mp hr).elim Or.inl (fun h => Or.inr (List.mem_singleton.mp h)))
  exact ⟨q1, hL, hA2, fun x hx h => fr x hx (by omega) (by omega) (by omega), ⟨fun r hr => hL r (hL0 r hr), g_0⟩, cD.fr hA0 (fun x h1 h2 => (fr _ (hL0 _ (by omega)) (by omega) (by omega) (by omega))), cR.fr hA0 (fun x h1 h2 => (fr _ (hL0 _ (by omega)) (by omega) (by omega) (by omega))), cP.fr hL hA2 (fr _ (hL0 _ (by omega)) (by omega) (by omega) (by omega)) (fun x hx h1 h2 => fr x hx (by omega) (by omega) (by omega)) hp8 hv4, cV.fr hA0 (fun x h1 h2 => (fr _ (hL0 _ (by omega)) (by omega) (by omega) (by omega))), cS.fr hA0 (fun x h1 h2 => (fr _ (hL0 _ (by omega)) (by omega) (by omega) (by omega))), cN.fr hA0 (fun x h1 h2 => (fr _ (hL0 _ (by omega)) (by omega) (by omega) (by omega))), hXQ, ⟨_, g_29, hXK⟩, hXF⟩
set_option maxHeartbeats 4000000 in
theorem ask_new_2 (l : Launch) (D : va_G) (ty : Nat → ClassId) {k : Nat} {L : List Nat} {ad : Nat → Nat} {g : Nat → va_E} {a : Nat → FI} {dn pn en qn mz : Nat} {nw lo : Int32} {tr : Int64} {b j : Nat} {tp : Int32} (hk9 : k < 1000) (hP : PI a dn pn en qn nw k) (hX : RX ty L ad g a dn pn en qn nw lo tr) (hM : RM ty L ad g a dn pn en qn mz nw lo tr) (hb6 : b < 6) (hj : j < pn) (hk : a 6 j = 2) (htp : 0 ≤ tp.toInt ∧ tp.toInt < 10) (hs : seeB (a 6 j) (a 9 j) (a 8 j) (a 3) (a 4) (b % 3 * 4 + nN (a 7 j)) nw = true) (ht2 : ¬ (if a 28 b = nw then a 29 b else 0) = 2) (hqn : qn < 30) (hno : ∀ i, i < qn → ¬ (a 23 i = nI j ∧ a 24 i = tp)) : SimAt Value.int l D ty yX8_ask wsX8_ask 5 113 yX9_ask wsX9_ask 2 43 [.int (nI b), .int (nI j), .int tp] k L ad g a dn pn en qn mz nw lo tr := by
  obtain ⟨⟨hd40, hp8, he200, hq30⟩, pD, pJ, pT, pV, pQ, pK⟩ := id hP
  obtain ⟨cO, cD, cR, cP, cV, cS, cN, cQ, cK, cF⟩ := id hX
  obtain ⟨hL0, h_0⟩ := id cO
  have hv4 : ∀ j, j < pn → nN (a 10 j) ≤ 4 := fun j hj => (pJ j hj).2.2.2.1.2.2
  obtain ⟨⟨pf, h_6, hpf, hpf0⟩, xJ, xT⟩ := id cP
  obtain ⟨h_3, h_4, h_5⟩ := id cR
  obtain ⟨qf, qv, h_28, hq0, hq00, hq1, hq2, hqs⟩ := id cQ
  obtain ⟨ak, h_29, hak⟩ := id cK
  obtain ⟨mpp, mpt, hpp0, tf, h_pt, htf, htf0⟩ := xJ j hj
  obtain ⟨hkd, ⟨ef, hf4⟩, hwd, ⟨ev, hv1, hv4j⟩, hlg⟩ := pJ j hj
  have hc := hpp0.trans (pcell_2 hk _ _ _ _ _)
  have hs2 := (see_2 hk _ _ _ _ _ _).symm.trans hs
  have hk2 : 0 ≤ (ak b).toInt ∧ (ak b).toInt < 2 := ask_lt (hak b hb6) (pK.2 b hb6).2.1 (pK.2 b hb6).2.2 ht2
  have pK2 : PK (upd (a 28) b nw) (upd (a 29) b (ak b + 1)) nw (k + 1) := by
    refine ⟨pK.next.1, fun c hc9 => ?_⟩
    by_cases e9 : c = b
    · have h1 : (ak b + 1).toInt = (ak b).toInt + 1 := ti_add (by have := (by decide : (1 : Int32).toInt = 1); omega) (by have := (by decide : (1 : Int32).toInt = 1); omega)
      rw [e9, pk_us, pk_us, h1]; omega
    · rw [pk_un e9, pk_un e9]; exact pK.2 c hc9
  have hXK : ∀ c, c < 6 → upd ak b (ak b + 1) c = if upd (a 28) b nw c = nw then upd (a 29) b (ak b + 1) c else 0 := by
    intro c hc9
    by_cases e9 : c = b
    · rw [e9, pk_us, pk_us, pk_us, if_pos rfl]
    · rw [pk_un e9, pk_un e9, pk_un e9]; exact hak c hc9
  have pQ2 : ∀ i, i < qn + 1 → PQ pn (upd (a 23) qn (nI j)) (upd (upd (a 25) qn 0) qn (upd (a 25) qn 0 qn ||| 1 <<< (nI b &&& 31))) (upd (a 26) qn 0) i := by
    intro i hi
    unfold PQ
    by_cases e9 : i = qn
    · rw [e9, pk_us, pk_us, pk_us, pk_us]
      exact ⟨⟨j, hj, rfl⟩, ⟨_, (or_b 0 (by decide) b hb6).2, (or_b 0 (by decide) b hb6).1⟩, Or.inl rfl⟩
    · rw [pk_un e9, pk_un e9, pk_un e9, pk_un e9]; exact pQ i (by omega)
  refine sim_C (nI qn) (askA (qsA a qn (nI j) tp) b qn nw (ak b)) dn pn en (qn + 1) mz nw lo tr (by decide) (by decide) hM (hL0 0 (by decide)) ⟨⟨hd40, hp8, he200, by omega⟩, pD, pJ, pT, pV, pQ2, pK2⟩ (c_X_ask1_new l D ty L ad g _ _ _ _ _ _ _ _ _ _ _ _ qf (fun i => 700 + i) (a 23) (a 24) (a 25) (a 26) qv _ _ _ _ (700 + qn) hL0 mpp h_0 h_3 h_4 h_5 h_6 h_28 h_29 hc (by omega) (hpf j hj) hb6 hf4 hwd (by omega) htp hs2 hk2.2 hq0 hq1 hq2 hq30 hqn hno (cF.noQ hp8 hqn hv4) (by omega)) ?_ (fun L1 ad1 g1 hR9 => c_M_ask_new l D ty L1 ad1 g1 a dn pn en qn mz nw lo tr _ _ _ _ (ak b) hR9 hj hp8 htp hb6 ef hf4 hwd hs (hak b hb6) (by rw [hak b hb6]; exact ht2) hqn hno)
  rintro v1 L1 ad1 g1 ⟨q1, rfl, hA, hfr, g_q, g_28, g_0, g_29⟩
  have hL : ∀ x ∈ L, x ∈ L ++ [700 + qn] := fun x hx => List.mem_append_left _ hx
  have hA2 : ∀ x ∈ L, ad1 x = ad x := fun x hx => (hA x hx).symm
  have hA0 : ∀ r, r < 30 → ad1 r = ad r := fun r hr => hA2 r (hL0 r hr)
  have fr : ∀ x ∈ L, x ≠ 28 → x ≠ 0 → x ≠ 29 → g1 x = g x := hfr
  have hXQ : XQ ty (L ++ [700 + qn]) ad1 g1 (qn + 1) (upd (a 23) qn (nI j)) (upd (a 24) qn tp) (upd (upd (a 25) qn 0) qn (upd (a 25) qn 0 qn ||| 1 <<< (nI b &&& 31))) (upd (a 26) qn 0) (a 27) := by
    refine ⟨_, upd qv qn 0, g_28, fun i hi => ?_, fun i h1 h2 => (va_up_ne _ _ (by omega)).trans (hq00 i (by omega) h2), fun i hi => ?_, fun i hi => ?_, fun i hi hn => ?_⟩
    · by_cases e9 : i = qn
      · rw [e9, va_up_self]
      · rw [va_up_ne _ _ e9, hA2 _ (hq1 i (by omega))]; exact hq0 i (by omega)
    · by_cases e9 : i = qn
      · rw [e9]; exact List.mem_append_right _ (List.mem_singleton.mpr rfl)
      · exact hL _ (hq1 i (by omega))
    · by_cases e9 : i = qn
      · rw [e9, pk_us, pk_us, pk_us, pk_us, pk_us, pk_us]; exact g_q
      · rw [pk_un e9, pk_un e9, pk_un e9, pk_un e9, pk_un e9, pk_un e9]; exact (fr _ (hq1 i (by omega)) (by omega) (by omega) (by omega)).trans (hq2 i (by omega))
    · by_cases e9 : i = qn
      · rw [e9, pk_us] at hn; exact absurd rfl hn
      · rw [pk_un e9] at hn; rw [pk_un e9]; exact hqs i (by omega) hn
  have hXF := cF.askd (L1 := L ++ [700 + qn]) (fun r hr => (List.mem_append.mp hr).elim Or.inl (fun h => Or.inr (List.mem_singleton.mp h)))
  exact ⟨q1, hL, hA2, fun x hx h => fr x hx (by omega) (by omega) (by omega), ⟨fun r hr => hL r (hL0 r hr), g_0⟩, cD.fr hA0 (fun x h1 h2 => (fr _ (hL0 _ (by omega)) (by omega) (by omega) (by omega))), cR.fr hA0 (fun x h1 h2 => (fr _ (hL0 _ (by omega)) (by omega) (by omega) (by omega))), cP.fr hL hA2 (fr _ (hL0 _ (by omega)) (by omega) (by omega) (by omega)) (fun x hx h1 h2 => fr x hx (by omega) (by omega) (by omega)) hp8 hv4, cV.fr hA0 (fun x h1 h2 => (fr _ (hL0 _ (by omega)) (by omega) (by omega) (by omega))), cS.fr hA0 (fun x h1 h2 => (fr _ (hL0 _ (by omega)) (by omega) (by omega) (by omega))), cN.fr hA0 (fun x h1 h2 => (fr _ (hL0 _ (by omega)) (by omega) (by omega) (by omega))), hXQ, ⟨_, g_29, hXK⟩, hXF⟩
set_option maxHeartbeats 4000000 in
theorem s_ask (l : Launch) (D : va_G) (ty : Nat → ClassId) {k : Nat} {L : List Nat} {ad : Nat → Nat} {g : Nat → va_E} {a : Nat → FI} {dn pn en qn mz : Nat} {nw lo : Int32} {tr : Int64} (i1 i tp : Int32) (hk9 : k < 1000) (hP : PI a dn pn en qn nw k) (hX : RX ty L ad g a dn pn en qn nw lo tr) (hM : RM ty L ad g a dn pn en qn mz nw lo tr) : SimAt Value.int l D ty yX8_ask wsX8_ask 5 113 yX9_ask wsX9_ask 2 43 [.int i1, .int i, .int tp] k L ad g a dn pn en qn mz nw lo tr := by
  obtain ⟨⟨hd40, hp8, he200, hq30⟩, pD, pJ, pT, pV, pQ, pK⟩ := id hP
  obtain ⟨cO, cD, cR, cP, cV, cS, cN, cQ, cK, cF⟩ := id hX
  obtain ⟨hL0, h_0⟩ := id cO
  have hv4 : ∀ j, j < pn → nN (a 10 j) ≤ 4 := fun j hj => (pJ j hj).2.2.2.1.2.2
  obtain ⟨⟨pf, h_6, hpf, hpf0⟩, xJ, xT⟩ := id cP
  obtain ⟨h_3, h_4, h_5⟩ := id cR
  obtain ⟨qf, qv, h_28, hq0, hq00, hq1, hq2, hqs⟩ := id cQ
  obtain ⟨ak, h_29, hak⟩ := id cK
  rcases ix_n i1 6 (by decide) with ⟨b, hb6, rfl⟩ | hb
  · skip
    rcases ix_p i hp8 (by decide) with ⟨j, hj, rfl⟩ | ⟨j, h1, h2, rfl, h3⟩ | ⟨h2, h3⟩
    · skip
      obtain ⟨mpp, mpt, hpp0, tf, h_pt, htf, htf0⟩ := xJ j hj
      obtain ⟨hkd, ⟨ef, hf4⟩, hwd, ⟨ev, hv1, hv4j⟩, hlg⟩ := pJ j hj
      rcases hkd with hk | hk | hk
      · skip
        have hc := hpp0.trans (pcell_0 hk _ _ _ _ _)
        by_cases htp : 0 ≤ tp.toInt ∧ tp.toInt < 10
        · rcases bool2 (seeB (a 6 j) (a 9 j) (a 8 j) (a 3) (a 4) (b % 3 * 4 + nN (a 7 j)) nw) with hs | hs
          · have hs2 := (see_0 hk _ _ _ _ _ _).symm.trans hs
            by_cases ht2 : (if a 28 b = nw then a 29 b else 0) = 2
            · exact sim_S (-2) hM hX hP (c_X_ask2_state l D ty L ad g _ _ _ _ _ _ _ _ _ _ _ _ qf (fun i => 700 + i) (a 23) (a 24) (a 25) (a 26) qv _ _ _ _ (hL0 0 (by decide)) (hL0 3 (by decide)) (hL0 4 (by decide)) (hL0 5 (by decide)) (hL0 6 (by decide)) (hL0 28 (by decide)) (hL0 29 (by decide)) mpp h_0 h_3 h_4 h_5 h_6 h_28 h_29 hc (by omega) (hpf j hj) hb6 hf4 hwd (by omega) htp hs2 (by rw [hak b hb6, ht2]; decide)) (fun L1 ad1 g1 hR9 => c_M_ask_state l D ty L1 ad1 g1 a dn pn en qn mz nw lo tr _ _ _ _ (if a 28 b = nw then a 29 b else 0) hR9 hj hp8 htp hb6 ef hf4 hwd hs rfl ht2)
            · by_cases hex : ∃ q, q < qn ∧ (a 23 q = nI j ∧ a 24 q = tp)
              · obtain ⟨q, ⟨hq, hyes⟩, hno⟩ := pk_least _ hex
                exact ask_join_0 l D ty hk9 hP hX hM hb6 hj hk htp hs ht2 hq hyes (fun i hi h => hno i hi ⟨by omega, h⟩)
              · have hno : ∀ i, i < qn → ¬ (a 23 i = nI j ∧ a 24 i = tp) := fun i hi h => hex ⟨i, hi, h⟩
                by_cases hqn : qn = 30
                · exact sim_S (-3) hM hX hP (c_X_ask2_full l D ty L ad g _ _ _ _ _ _ _ _ _ _ _ _ qf (fun i => 700 + i) (a 23) (a 24) (a 25) (a 26) qv _ _ _ _ (hL0 0 (by decide)) (hL0 3 (by decide)) (hL0 4 (by decide)) (hL0 5 (by decide)) (hL0 6 (by decide)) (hL0 28 (by decide)) (hL0 29 (by decide)) mpp h_0 h_3 h_4 h_5 h_6 h_28 h_29 hc (by omega) (hpf j hj) hb6 hf4 hwd (by omega) htp hs2 (ask_lt (hak b hb6) (pK.2 b hb6).2.1 (pK.2 b hb6).2.2 ht2).2 hq0 hq1 hq2 hq30 hqn hno) (fun L1 ad1 g1 hR9 => c_M_ask_full l D ty L1 ad1 g1 a dn pn en qn mz nw lo tr _ _ _ _ (if a 28 b = nw then a 29 b else 0) hR9 hj hp8 htp hb6 ef hf4 hwd hs rfl ht2 hqn hno)
                · exact ask_new_0 l D ty hk9 hP hX hM hb6 hj hk htp hs ht2 (by omega) hno
          · have hs2 := (see_0 hk _ _ _ _ _ _).symm.trans hs
            exact sim_S (-4) hM hX hP (c_X_ask2_no l D ty L ad g _ _ _ _ _ _ _ _ _ _ _ _ qf (fun i => 700 + i) (a 23) (a 24) (a 25) (a 26) qv _ _ _ _ (hL0 0 (by decide)) (hL0 3 (by decide)) (hL0 4 (by decide)) (hL0 5 (by decide)) (hL0 6 (by decide)) (hL0 28 (by decide)) (hL0 29 (by decide)) mpp h_0 h_3 h_4 h_5 h_6 h_28 h_29 hc (by omega) (hpf j hj) hb6 hf4 hwd (by omega) htp hs2) (fun L1 ad1 g1 hR9 => c_M_ask_no l D ty L1 ad1 g1 a dn pn en qn mz nw lo tr _ _ _ _ hR9 hj hp8 htp hb6 ef hf4 hwd hs)
        · exact sim_S (-1) hM hX hP (c_X_ask2_t l D ty L ad g _ _ _ _ _ _ _ _ _ _ _ _ qf (fun i => 700 + i) (a 23) (a 24) (a 25) (a 26) qv _ _ _ _ (hL0 0 (by decide)) (hL0 3 (by decide)) (hL0 4 (by decide)) (hL0 5 (by decide)) (hL0 6 (by decide)) (hL0 28 (by decide)) (hL0 29 (by decide)) mpp h_0 h_3 h_4 h_5 h_6 h_28 h_29 hc (by omega) (hpf j hj) hb6 hf4 hwd (by omega) htp) (fun L1 ad1 g1 hR9 => c_M_ask_b3 l D ty L1 ad1 g1 a dn pn en qn mz nw lo tr _ _ _ hR9 hb6 hj hp8 htp)
      · skip
        have hc := hpp0.trans (pcell_1 hk _ _ _ _ _)
        by_cases htp : 0 ≤ tp.toInt ∧ tp.toInt < 10
        · rcases bool2 (seeB (a 6 j) (a 9 j) (a 8 j) (a 3) (a 4) (b % 3 * 4 + nN (a 7 j)) nw) with hs | hs
          · have hs2 := (see_1 hk _ _ _ _ _ _).symm.trans hs
            by_cases ht2 : (if a 28 b = nw then a 29 b else 0) = 2
            · exact sim_S (-2) hM hX hP (c_X_ask0_state l D ty L ad g _ _ _ _ _ _ _ _ _ _ _ _ _ qf (fun i => 700 + i) (a 23) (a 24) (a 25) (a 26) qv _ _ _ _ (hL0 0 (by decide)) (hL0 3 (by decide)) (hL0 4 (by decide)) (hL0 5 (by decide)) (hL0 6 (by decide)) (hL0 28 (by decide)) (hL0 29 (by decide)) mpp h_0 h_3 h_4 h_5 h_6 h_28 h_29 hc (by omega) (hpf j hj) hb6 hf4 hwd (by omega) htp hs2 (by rw [hak b hb6, ht2]; decide)) (fun L1 ad1 g1 hR9 => c_M_ask_state l D ty L1 ad1 g1 a dn pn en qn mz nw lo tr _ _ _ _ (if a 28 b = nw then a 29 b else 0) hR9 hj hp8 htp hb6 ef hf4 hwd hs rfl ht2)
            · by_cases hex : ∃ q, q < qn ∧ (a 23 q = nI j ∧ a 24 q = tp)
              · obtain ⟨q, ⟨hq, hyes⟩, hno⟩ := pk_least _ hex
                exact ask_join_1 l D ty hk9 hP hX hM hb6 hj hk htp hs ht2 hq hyes (fun i hi h => hno i hi ⟨by omega, h⟩)
              · have hno : ∀ i, i < qn → ¬ (a 23 i = nI j ∧ a 24 i = tp) := fun i hi h => hex ⟨i, hi, h⟩
                by_cases hqn : qn = 30
                · exact sim_S (-3) hM hX hP (c_X_ask0_full l D ty L ad g _ _ _ _ _ _ _ _ _ _ _ _ _ qf (fun i => 700 + i) (a 23) (a 24) (a 25) (a 26) qv _ _ _ _ (hL0 0 (by decide)) (hL0 3 (by decide)) (hL0 4 (by decide)) (hL0 5 (by decide)) (hL0 6 (by decide)) (hL0 28 (by decide)) (hL0 29 (by decide)) mpp h_0 h_3 h_4 h_5 h_6 h_28 h_29 hc (by omega) (hpf j hj) hb6 hf4 hwd (by omega) htp hs2 (ask_lt (hak b hb6) (pK.2 b hb6).2.1 (pK.2 b hb6).2.2 ht2).2 hq0 hq1 hq2 hq30 hqn hno) (fun L1 ad1 g1 hR9 => c_M_ask_full l D ty L1 ad1 g1 a dn pn en qn mz nw lo tr _ _ _ _ (if a 28 b = nw then a 29 b else 0) hR9 hj hp8 htp hb6 ef hf4 hwd hs rfl ht2 hqn hno)
                · exact ask_new_1 l D ty hk9 hP hX hM hb6 hj hk htp hs ht2 (by omega) hno
          · have hs2 := (see_1 hk _ _ _ _ _ _).symm.trans hs
            exact sim_S (-4) hM hX hP (c_X_ask0_no l D ty L ad g _ _ _ _ _ _ _ _ _ _ _ _ _ qf (fun i => 700 + i) (a 23) (a 24) (a 25) (a 26) qv _ _ _ _ (hL0 0 (by decide)) (hL0 3 (by decide)) (hL0 4 (by decide)) (hL0 5 (by decide)) (hL0 6 (by decide)) (hL0 28 (by decide)) (hL0 29 (by decide)) mpp h_0 h_3 h_4 h_5 h_6 h_28 h_29 hc (by omega) (hpf j hj) hb6 hf4 hwd (by omega) htp hs2) (fun L1 ad1 g1 hR9 => c_M_ask_no l D ty L1 ad1 g1 a dn pn en qn mz nw lo tr _ _ _ _ hR9 hj hp8 htp hb6 ef hf4 hwd hs)
        · exact sim_S (-1) hM hX hP (c_X_ask0_t l D ty L ad g _ _ _ _ _ _ _ _ _ _ _ _ _ qf (fun i => 700 + i) (a 23) (a 24) (a 25) (a 26) qv _ _ _ _ (hL0 0 (by decide)) (hL0 3 (by decide)) (hL0 4 (by decide)) (hL0 5 (by decide)) (hL0 6 (by decide)) (hL0 28 (by decide)) (hL0 29 (by decide)) mpp h_0 h_3 h_4 h_5 h_6 h_28 h_29 hc (by omega) (hpf j hj) hb6 hf4 hwd (by omega) htp) (fun L1 ad1 g1 hR9 => c_M_ask_b3 l D ty L1 ad1 g1 a dn pn en qn mz nw lo tr _ _ _ hR9 hb6 hj hp8 htp)
      · skip
        have hc := hpp0.trans (pcell_2 hk _ _ _ _ _)
        by_cases htp : 0 ≤ tp.toInt ∧ tp.toInt < 10
        · rcases bool2 (seeB (a 6 j) (a 9 j) (a 8 j) (a 3) (a 4) (b % 3 * 4 + nN (a 7 j)) nw) with hs | hs
          · have hs2 := (see_2 hk _ _ _ _ _ _).symm.trans hs
            by_cases ht2 : (if a 28 b = nw then a 29 b else 0) = 2
            · exact sim_S (-2) hM hX hP (c_X_ask1_state l D ty L ad g _ _ _ _ _ _ _ _ _ _ _ _ qf (fun i => 700 + i) (a 23) (a 24) (a 25) (a 26) qv _ _ _ _ (hL0 0 (by decide)) (hL0 3 (by decide)) (hL0 4 (by decide)) (hL0 5 (by decide)) (hL0 6 (by decide)) (hL0 28 (by decide)) (hL0 29 (by decide)) mpp h_0 h_3 h_4 h_5 h_6 h_28 h_29 hc (by omega) (hpf j hj) hb6 hf4 hwd (by omega) htp hs2 (by rw [hak b hb6, ht2]; decide)) (fun L1 ad1 g1 hR9 => c_M_ask_state l D ty L1 ad1 g1 a dn pn en qn mz nw lo tr _ _ _ _ (if a 28 b = nw then a 29 b else 0) hR9 hj hp8 htp hb6 ef hf4 hwd hs rfl ht2)
            · by_cases hex : ∃ q, q < qn ∧ (a 23 q = nI j ∧ a 24 q = tp)
              · obtain ⟨q, ⟨hq, hyes⟩, hno⟩ := pk_least _ hex
                exact ask_join_2 l D ty hk9 hP hX hM hb6 hj hk htp hs ht2 hq hyes (fun i hi h => hno i hi ⟨by omega, h⟩)
              · have hno : ∀ i, i < qn → ¬ (a 23 i = nI j ∧ a 24 i = tp) := fun i hi h => hex ⟨i, hi, h⟩
                by_cases hqn : qn = 30
                · exact sim_S (-3) hM hX hP (c_X_ask1_full l D ty L ad g _ _ _ _ _ _ _ _ _ _ _ _ qf (fun i => 700 + i) (a 23) (a 24) (a 25) (a 26) qv _ _ _ _ (hL0 0 (by decide)) (hL0 3 (by decide)) (hL0 4 (by decide)) (hL0 5 (by decide)) (hL0 6 (by decide)) (hL0 28 (by decide)) (hL0 29 (by decide)) mpp h_0 h_3 h_4 h_5 h_6 h_28 h_29 hc (by omega) (hpf j hj) hb6 hf4 hwd (by omega) htp hs2 (ask_lt (hak b hb6) (pK.2 b hb6).2.1 (pK.2 b hb6).2.2 ht2).2 hq0 hq1 hq2 hq30 hqn hno) (fun L1 ad1 g1 hR9 => c_M_ask_full l D ty L1 ad1 g1 a dn pn en qn mz nw lo tr _ _ _ _ (if a 28 b = nw then a 29 b else 0) hR9 hj hp8 htp hb6 ef hf4 hwd hs rfl ht2 hqn hno)
                · exact ask_new_2 l D ty hk9 hP hX hM hb6 hj hk htp hs ht2 (by omega) hno
          · have hs2 := (see_2 hk _ _ _ _ _ _).symm.trans hs
            exact sim_S (-4) hM hX hP (c_X_ask1_no l D ty L ad g _ _ _ _ _ _ _ _ _ _ _ _ qf (fun i => 700 + i) (a 23) (a 24) (a 25) (a 26) qv _ _ _ _ (hL0 0 (by decide)) (hL0 3 (by decide)) (hL0 4 (by decide)) (hL0 5 (by decide)) (hL0 6 (by decide)) (hL0 28 (by decide)) (hL0 29 (by decide)) mpp h_0 h_3 h_4 h_5 h_6 h_28 h_29 hc (by omega) (hpf j hj) hb6 hf4 hwd (by omega) htp hs2) (fun L1 ad1 g1 hR9 => c_M_ask_no l D ty L1 ad1 g1 a dn pn en qn mz nw lo tr _ _ _ _ hR9 hj hp8 htp hb6 ef hf4 hwd hs)
        · exact sim_S (-1) hM hX hP (c_X_ask1_t l D ty L ad g _ _ _ _ _ _ _ _ _ _ _ _ qf (fun i => 700 + i) (a 23) (a 24) (a 25) (a 26) qv _ _ _ _ (hL0 0 (by decide)) (hL0 3 (by decide)) (hL0 4 (by decide)) (hL0 5 (by decide)) (hL0 6 (by decide)) (hL0 28 (by decide)) (hL0 29 (by decide)) mpp h_0 h_3 h_4 h_5 h_6 h_28 h_29 hc (by omega) (hpf j hj) hb6 hf4 hwd (by omega) htp) (fun L1 ad1 g1 hR9 => c_M_ask_b3 l D ty L1 ad1 g1 a dn pn en qn mz nw lo tr _ _ _ hR9 hb6 hj hp8 htp)
    · skip
      exact sim_S (-1) hM hX hP (c_X_ask_none l D ty L ad g _ _ _ _ _ _ _ _ _ (hL0 0 (by decide)) (hL0 6 (by decide)) (hL0 29 (by decide)) h_0 h_6 h_29 h2 (hpf0 j h1 h2) hb6) (fun L1 ad1 g1 hR9 => c_M_ask_b2 l D ty L1 ad1 g1 a dn pn en qn mz nw lo tr _ _ _ hR9 hb6 h3 hp8)
    · skip
      exact sim_S (-1) hM hX hP (c_X_ask_bad l D ty L ad g _ _ _ _ _ _ _ _ _ (hL0 0 (by decide)) (hL0 6 (by decide)) (hL0 29 (by decide)) h_0 h_6 h_29 (by omega) hb6) (fun L1 ad1 g1 hR9 => c_M_ask_b2 l D ty L1 ad1 g1 a dn pn en qn mz nw lo tr _ _ _ hR9 hb6 h3 hp8)
  · skip
    rcases ix_n i 8 (by decide) with ⟨j, hj, rfl⟩ | h
    · exact sim_S (-1) hM hX hP (c_X_ask_b2 l D ty L ad g _ _ _ _ _ _ _ _ _ (hL0 0 (by decide)) (hL0 6 (by decide)) (hL0 29 (by decide)) h_0 h_6 h_29 (by omega) hj) (fun L1 ad1 g1 hR9 => c_M_ask_b1 l D ty L1 ad1 g1 a dn pn en qn mz nw lo tr _ _ _ hR9 (by omega))
    · exact sim_S (-1) hM hX hP (c_X_ask_b1 l D ty L ad g _ _ _ _ _ _ _ _ _ (hL0 0 (by decide)) (hL0 6 (by decide)) (hL0 29 (by decide)) h_0 h_6 h_29 (by omega) (by omega)) (fun L1 ad1 g1 hR9 => c_M_ask_b1 l D ty L1 ad1 g1 a dn pn en qn mz nw lo tr _ _ _ hR9 (by omega))
