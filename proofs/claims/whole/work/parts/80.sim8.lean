theorem mem4 {L : List Nat} {t ro a bl r : Nat} (h : r ∈ (((L ++ [t]) ++ [ro]) ++ [a]) ++ [bl]) : r ∈ L ∨ r = t ∨ r = ro ∨ r = a ∨ r = bl := by
  rcases List.mem_append.mp h with h | h
  · rcases List.mem_append.mp h with h | h
    · rcases List.mem_append.mp h with h | h
      · rcases List.mem_append.mp h with h | h
        · exact Or.inl h
        · exact Or.inr (Or.inl (List.mem_singleton.mp h))
      · exact Or.inr (Or.inr (Or.inl (List.mem_singleton.mp h)))
    · exact Or.inr (Or.inr (Or.inr (Or.inl (List.mem_singleton.mp h))))
  · exact Or.inr (Or.inr (Or.inr (Or.inr (List.mem_singleton.mp h))))
theorem mem4_of {L : List Nat} {t ro a bl r : Nat} (h : r ∈ L ∨ r = t ∨ r = ro ∨ r = a ∨ r = bl) : r ∈ (((L ++ [t]) ++ [ro]) ++ [a]) ++ [bl] := by
  rcases h with h | h | h | h | h
  · exact List.mem_append_left _ (List.mem_append_left _ (List.mem_append_left _ (List.mem_append_left _ h)))
  · exact List.mem_append_left _ (List.mem_append_left _ (List.mem_append_left _ (List.mem_append_right _ (List.mem_singleton.mpr h))))
  · exact List.mem_append_left _ (List.mem_append_left _ (List.mem_append_right _ (List.mem_singleton.mpr h)))
  · exact List.mem_append_left _ (List.mem_append_right _ (List.mem_singleton.mpr h))
  · exact List.mem_append_right _ (List.mem_singleton.mpr h)
theorem mem2 {L : List Nat} {p q r : Nat} (h : r ∈ (L ++ [p]) ++ [q]) : r ∈ L ∨ r = p ∨ r = q := by
  rcases List.mem_append.mp h with h | h
  · rcases List.mem_append.mp h with h | h
    · exact Or.inl h
    · exact Or.inr (Or.inl (List.mem_singleton.mp h))
  · exact Or.inr (Or.inr (List.mem_singleton.mp h))
theorem mem2_of {L : List Nat} {p q r : Nat} (h : r ∈ L ∨ r = p ∨ r = q) : r ∈ (L ++ [p]) ++ [q] := by
  rcases h with h | h | h
  · exact List.mem_append_left _ (List.mem_append_left _ h)
  · exact List.mem_append_left _ (List.mem_append_right _ (List.mem_singleton.mpr h))
  · exact List.mem_append_right _ (List.mem_singleton.mpr h)
set_option maxHeartbeats 4000000 in
theorem version_ok_0 (l : Launch) (D : va_G) (ty : Nat → ClassId) {k : Nat} {L : List Nat} {ad : Nat → Nat} {g : Nat → va_E} {a : Nat → FI} {dn pn en qn mz : Nat} {nw lo : Int32} {tr : Int64} {j : Nat} (hk9 : k < 1000) (hP : PI a dn pn en qn nw k) (hX : RX ty L ad g a dn pn en qn nw lo tr) (hM : RM ty L ad g a dn pn en qn mz nw lo tr) (hj : j < pn) (hk : a 6 j = 0) (hd : 0 < dn) (hw : a 9 j = 0) (hv : nN (a 10 j) < 4) : SimAt Value.int l D ty yX8_version wsX8_version 4 85 yX9_version wsX9_version 2 43 [.int (nI j)] k L ad g a dn pn en qn mz nw lo tr := by
  obtain ⟨⟨hd40, hp8, he200, hq30⟩, pD, pJ, pT, pV, pQ, pK⟩ := id hP
  obtain ⟨cO, cD, cR, cP, cV, cS, cN, cQ, cK, cF⟩ := id hX
  obtain ⟨hL0, h_0⟩ := id cO
  have hv4 : ∀ j, j < pn → nN (a 10 j) ≤ 4 := fun j hj => (pJ j hj).2.2.2.1.2.2
  obtain ⟨⟨pf, h_6, hpf, hpf0⟩, xJ, xT⟩ := id cP
  obtain ⟨h_1, db, h_2, hdb⟩ := id cD
  obtain ⟨mpp, mpt, hpp0, tf, h_pt, htf, htf0⟩ := xJ j hj
  obtain ⟨hkd, ⟨ef, hf4⟩, hwd, ⟨ev, hv1, hv4j⟩, hlg⟩ := pJ j hj
  have hc := hpp0.trans (pcell_0 hk _ _ _ _ _)
  obtain ⟨n3, n4, n5, n6⟩ := cF.no hp8 hq30 hv4 (show j < 8 by omega) hv (fun _ => Nat.le_refl _)
  have h10 : nN ((upd (a 10) j (nI (nN (a 10 j) + 1))) j) = nN (a 10 j) + 1 := by rw [pk_us, nN_nI (by omega)]
  have he : ∀ i, i ≠ j → a 6 i = a 6 i ∧ a 7 i = a 7 i ∧ a 8 i = a 8 i ∧ a 9 i = a 9 i ∧ (upd (a 10) j (nI (nN (a 10 j) + 1))) i = a 10 i := fun i hne => ⟨rfl, rfl, rfl, rfl, pk_un hne⟩
  have hold : ∀ v, v < nN (a 10 j) → j < pn ∧ v < nN (a 10 j) := fun v h => ⟨hj, h⟩
  have e11 : ∀ t, t ≠ (4 * j + nN (a 10 j)) → (upd (a 11) (4 * j + nN (a 10 j)) (nI dn)) t = a 11 t := fun t ht => pk_un ht
  have e12 : ∀ x, (x < 40 * (4 * j + nN (a 10 j)) ∨ 40 * (4 * j + nN (a 10 j)) + 40 ≤ x) → (pb (a 12) (a 1) (40 * (4 * j + nN (a 10 j))) dn) x = a 12 x := fun x hx => pb_out _ _ _ _ _ (by omega)
  have e13 : ∀ x, (x < 40 * (4 * j + nN (a 10 j)) ∨ 40 * (4 * j + nN (a 10 j)) + 40 ≤ x) → (pb (a 13) (fun _ => 0) (40 * (4 * j + nN (a 10 j))) dn) x = a 13 x := fun x hx => pb_out _ _ _ _ _ (by omega)
  have hcov : ∀ i, i < pn → i ≠ j → i < pn := fun i hi _ => hi
  have hJ2 : PJ (a 6) (a 7) (a 8) (a 9) (upd (a 10) j (nI (nN (a 10 j) + 1))) j := ⟨hkd, ⟨ef, hf4⟩, hwd, by rw [pk_us, nN_nI (by omega)]; exact ⟨rfl, by omega, by omega⟩, hlg⟩
  have hT2 : PT (upd (a 11) (4 * j + nN (a 10 j)) (nI dn)) (pb (a 12) (a 1) (40 * (4 * j + nN (a 10 j))) dn) (pb (a 13) (fun _ => 0) (40 * (4 * j + nN (a 10 j))) dn) (4 * j + nN (a 10 j)) := by
    unfold PT
    rw [pk_us, nN_nI (by omega)]
    exact ⟨⟨rfl, by omega, by omega⟩, fun i hi => by rw [pb_in _ _ _ _ _ hi, pb_in _ _ _ _ _ hi]; exact ⟨pD i hi, Or.inl rfl⟩⟩
  obtain ⟨pJ2, pT2⟩ := PP_grow pJ pT hcov hJ2 hT2 he h10 hold e11 e12 e13 hv
  refine sim_C (nI (nN (a 10 j))) (cmA a dn j (nN (a 10 j))) 0 pn en qn mz nw lo tr (by decide) (by decide) hM (hL0 0 (by decide)) ⟨⟨by omega, hp8, he200, hq30⟩, fun i hi => absurd hi (by omega), pJ2, pT2, pV, pQ, pK.next⟩ (c_X_version2_ok l D ty L ad g _ _ _ _ _ _ _ _ _ _ _ _ _ (300 + (4 * j + nN (a 10 j))) (400 + (4 * j + nN (a 10 j))) (500 + (4 * j + nN (a 10 j))) (600 + (4 * j + nN (a 10 j))) _ hL0 mpp mpt h_0 h_1 h_2 h_6 hc h_pt (by omega) (hpf j hj) hd hd40 hw hv (by omega) (by omega) (by omega) n3 n4 n5 n6 (fun q hq => by rw [hdb q hq]; exact i_byte (by have := (pD q hq).1; omega) (by have := (pD q hq).2; omega)) (by omega) (by omega) (by omega) (by omega) (by omega) (by omega) (by omega) (by omega) (by omega) (by omega)) ?_ (fun L1 ad1 g1 hR9 => c_M_version_ok l D ty L1 ad1 g1 a dn pn en qn mz nw lo tr _ _ hR9 hj hp8 hd hd40 hw ev hv)
  rintro v1 L1 ad1 g1 ⟨q1, rfl, hA, hfr, g_1, g_t, g_ro, g_a, g_bl, g_pt, g_pp⟩
  have hL : ∀ x ∈ L, x ∈ (((L ++ [300 + (4 * j + nN (a 10 j))]) ++ [400 + (4 * j + nN (a 10 j))]) ++ [500 + (4 * j + nN (a 10 j))]) ++ [600 + (4 * j + nN (a 10 j))] := fun x hx => mem4_of (Or.inl hx)
  have hA2 : ∀ x ∈ L, ad1 x = ad x := fun x hx => (hA x hx).symm
  have hA0 : ∀ r, r < 30 → ad1 r = ad r := fun r hr => hA2 r (hL0 r hr)
  have fr : ∀ x ∈ L, x ≠ 1 → x ≠ 200 + j → x ≠ 100 + j → g1 x = g x := hfr
  have hJ : XJ ty ((((L ++ [300 + (4 * j + nN (a 10 j))]) ++ [400 + (4 * j + nN (a 10 j))]) ++ [500 + (4 * j + nN (a 10 j))]) ++ [600 + (4 * j + nN (a 10 j))]) ad1 g1 (a 6) (a 7) (a 8) (a 9) (upd (a 10) j (nI (nN (a 10 j) + 1))) j := by
    unfold XJ
    rw [pk_us, nN_nI (by omega)]
    refine ⟨hL _ mpp, hL _ mpt, g_pp.trans (pcell_0 hk _ _ _ _ _).symm, _, g_pt, fun v hv9 => ?_, fun v h1 h2 => (va_up_ne _ _ (by omega)).trans (htf0 v (by omega) h2)⟩
    by_cases e9 : v = nN (a 10 j)
    · rw [e9, va_up_self]; exact ⟨rfl, mem4_of (Or.inr (Or.inl rfl))⟩
    · obtain ⟨z1, z2⟩ := htf v (by omega)
      rw [va_up_ne _ _ e9, hA2 _ z2]; exact ⟨z1, hL _ z2⟩
  have hT : XT ty ((((L ++ [300 + (4 * j + nN (a 10 j))]) ++ [400 + (4 * j + nN (a 10 j))]) ++ [500 + (4 * j + nN (a 10 j))]) ++ [600 + (4 * j + nN (a 10 j))]) ad1 g1 (upd (a 11) (4 * j + nN (a 10 j)) (nI dn)) (pb (a 12) (a 1) (40 * (4 * j + nN (a 10 j))) dn) (pb (a 13) (fun _ => 0) (40 * (4 * j + nN (a 10 j))) dn) (4 * j + nN (a 10 j)) := by
    unfold XT
    rw [pk_us, nN_nI (by omega)]
    refine ⟨⟨mem4_of (Or.inr (Or.inl rfl)), mem4_of (Or.inr (Or.inr (Or.inl rfl))), mem4_of (Or.inr (Or.inr (Or.inr (Or.inl rfl)))), mem4_of (Or.inr (Or.inr (Or.inr (Or.inr rfl))))⟩, g_t, g_ro, _, _, g_a, g_bl, fun i hi => ⟨?_, ?_⟩⟩
    · rw [pb_in _ _ _ _ _ hi, cpf, if_pos hi]; exact hdb i hi
    · rw [pb_in _ _ _ _ _ hi]
  have hXP := cP.grow hL hA2 (fun x hx h1 h2 h3 h4 => fr x hx (by omega) h4 h3) hp8 hj hcov ⟨pf, (fr _ (hL0 _ (by omega)) (by omega) (by omega) (by omega)).trans h_6, fun i hi => by rw [hA2 _ (xJ i hi).1]; exact hpf i hi, hpf0⟩ hJ hT he h10 hold e11 e12 e13 hv4 (fun i v hi hv9 => (pT i v hi hv9).1.2.2) hv
  have hXF := cF.grow (L1 := (((L ++ [300 + (4 * j + nN (a 10 j))]) ++ [400 + (4 * j + nN (a 10 j))]) ++ [500 + (4 * j + nN (a 10 j))]) ++ [600 + (4 * j + nN (a 10 j))]) (l10 := (upd (a 10) j (nI (nN (a 10 j) + 1)))) (j := j) (vn := nN (a 10 j)) (Nat.le_refl pn) (Nat.le_refl qn) hj (fun i hi v hv9 => by by_cases e9 : i = j; (· rw [e9] at hv9 ⊢; omega); (· rw [pk_un e9]; exact hv9)) (by omega) (fun r hr => by rcases mem4 hr with h | h | h | h | h; (· exact Or.inl h); all_goals exact Or.inr (by omega))
  exact ⟨q1, hL, hA2, fun x hx h => fr x hx (by omega) (by omega) (by omega), cO.fr (fun r hr => hL r (hL0 r hr)) hA0 (fr _ (hL0 _ (by omega)) (by omega) (by omega) (by omega)), ⟨by rw [nI_0]; exact g_1, db, (fr _ (hL0 _ (by omega)) (by omega) (by omega) (by omega)).trans h_2, fun i hi => absurd hi (by omega)⟩, cR.fr hA0 (fun x h1 h2 => (fr _ (hL0 _ (by omega)) (by omega) (by omega) (by omega))), hXP, cV.fr hA0 (fun x h1 h2 => (fr _ (hL0 _ (by omega)) (by omega) (by omega) (by omega))), cS.fr hA0 (fun x h1 h2 => (fr _ (hL0 _ (by omega)) (by omega) (by omega) (by omega))), cN.fr hA0 (fun x h1 h2 => (fr _ (hL0 _ (by omega)) (by omega) (by omega) (by omega))), cQ.fr hL hA2 (fr _ (hL0 _ (by omega)) (by omega) (by omega) (by omega)) (fun x hx h1 h2 => fr x hx (by omega) (by omega) (by omega)) hq30, cK.fr (fr _ (hL0 _ (by omega)) (by omega) (by omega) (by omega)), hXF⟩
set_option maxHeartbeats 4000000 in
theorem version_ok_1 (l : Launch) (D : va_G) (ty : Nat → ClassId) {k : Nat} {L : List Nat} {ad : Nat → Nat} {g : Nat → va_E} {a : Nat → FI} {dn pn en qn mz : Nat} {nw lo : Int32} {tr : Int64} {j : Nat} (hk9 : k < 1000) (hP : PI a dn pn en qn nw k) (hX : RX ty L ad g a dn pn en qn nw lo tr) (hM : RM ty L ad g a dn pn en qn mz nw lo tr) (hj : j < pn) (hk : a 6 j = 1) (hd : 0 < dn) (hw : a 9 j = 0) (hv : nN (a 10 j) < 4) : SimAt Value.int l D ty yX8_version wsX8_version 4 85 yX9_version wsX9_version 2 43 [.int (nI j)] k L ad g a dn pn en qn mz nw lo tr := by
  obtain ⟨⟨hd40, hp8, he200, hq30⟩, pD, pJ, pT, pV, pQ, pK⟩ := id hP
  obtain ⟨cO, cD, cR, cP, cV, cS, cN, cQ, cK, cF⟩ := id hX
  obtain ⟨hL0, h_0⟩ := id cO
  have hv4 : ∀ j, j < pn → nN (a 10 j) ≤ 4 := fun j hj => (pJ j hj).2.2.2.1.2.2
  obtain ⟨⟨pf, h_6, hpf, hpf0⟩, xJ, xT⟩ := id cP
  obtain ⟨h_1, db, h_2, hdb⟩ := id cD
  obtain ⟨mpp, mpt, hpp0, tf, h_pt, htf, htf0⟩ := xJ j hj
  obtain ⟨hkd, ⟨ef, hf4⟩, hwd, ⟨ev, hv1, hv4j⟩, hlg⟩ := pJ j hj
  have hc := hpp0.trans (pcell_1 hk _ _ _ _ _)
  obtain ⟨n3, n4, n5, n6⟩ := cF.no hp8 hq30 hv4 (show j < 8 by omega) hv (fun _ => Nat.le_refl _)
  have h10 : nN ((upd (a 10) j (nI (nN (a 10 j) + 1))) j) = nN (a 10 j) + 1 := by rw [pk_us, nN_nI (by omega)]
  have he : ∀ i, i ≠ j → a 6 i = a 6 i ∧ a 7 i = a 7 i ∧ a 8 i = a 8 i ∧ a 9 i = a 9 i ∧ (upd (a 10) j (nI (nN (a 10 j) + 1))) i = a 10 i := fun i hne => ⟨rfl, rfl, rfl, rfl, pk_un hne⟩
  have hold : ∀ v, v < nN (a 10 j) → j < pn ∧ v < nN (a 10 j) := fun v h => ⟨hj, h⟩
  have e11 : ∀ t, t ≠ (4 * j + nN (a 10 j)) → (upd (a 11) (4 * j + nN (a 10 j)) (nI dn)) t = a 11 t := fun t ht => pk_un ht
  have e12 : ∀ x, (x < 40 * (4 * j + nN (a 10 j)) ∨ 40 * (4 * j + nN (a 10 j)) + 40 ≤ x) → (pb (a 12) (a 1) (40 * (4 * j + nN (a 10 j))) dn) x = a 12 x := fun x hx => pb_out _ _ _ _ _ (by omega)
  have e13 : ∀ x, (x < 40 * (4 * j + nN (a 10 j)) ∨ 40 * (4 * j + nN (a 10 j)) + 40 ≤ x) → (pb (a 13) (fun _ => 0) (40 * (4 * j + nN (a 10 j))) dn) x = a 13 x := fun x hx => pb_out _ _ _ _ _ (by omega)
  have hcov : ∀ i, i < pn → i ≠ j → i < pn := fun i hi _ => hi
  have hJ2 : PJ (a 6) (a 7) (a 8) (a 9) (upd (a 10) j (nI (nN (a 10 j) + 1))) j := ⟨hkd, ⟨ef, hf4⟩, hwd, by rw [pk_us, nN_nI (by omega)]; exact ⟨rfl, by omega, by omega⟩, hlg⟩
  have hT2 : PT (upd (a 11) (4 * j + nN (a 10 j)) (nI dn)) (pb (a 12) (a 1) (40 * (4 * j + nN (a 10 j))) dn) (pb (a 13) (fun _ => 0) (40 * (4 * j + nN (a 10 j))) dn) (4 * j + nN (a 10 j)) := by
    unfold PT
    rw [pk_us, nN_nI (by omega)]
    exact ⟨⟨rfl, by omega, by omega⟩, fun i hi => by rw [pb_in _ _ _ _ _ hi, pb_in _ _ _ _ _ hi]; exact ⟨pD i hi, Or.inl rfl⟩⟩
  obtain ⟨pJ2, pT2⟩ := PP_grow pJ pT hcov hJ2 hT2 he h10 hold e11 e12 e13 hv
  refine sim_C (nI (nN (a 10 j))) (cmA a dn j (nN (a 10 j))) 0 pn en qn mz nw lo tr (by decide) (by decide) hM (hL0 0 (by decide)) ⟨⟨by omega, hp8, he200, hq30⟩, fun i hi => absurd hi (by omega), pJ2, pT2, pV, pQ, pK.next⟩ (c_X_version0_ok l D ty L ad g _ _ _ _ _ _ _ _ _ _ _ _ _ _ (300 + (4 * j + nN (a 10 j))) (400 + (4 * j + nN (a 10 j))) (500 + (4 * j + nN (a 10 j))) (600 + (4 * j + nN (a 10 j))) _ hL0 mpp mpt h_0 h_1 h_2 h_6 hc h_pt (by omega) (hpf j hj) hd hd40 hw hv (by omega) (by omega) (by omega) n3 n4 n5 n6 (fun q hq => by rw [hdb q hq]; exact i_byte (by have := (pD q hq).1; omega) (by have := (pD q hq).2; omega)) (by omega) (by omega) (by omega) (by omega) (by omega) (by omega) (by omega) (by omega) (by omega) (by omega)) ?_ (fun L1 ad1 g1 hR9 => c_M_version_ok l D ty L1 ad1 g1 a dn pn en qn mz nw lo tr _ _ hR9 hj hp8 hd hd40 hw ev hv)
  rintro v1 L1 ad1 g1 ⟨q1, rfl, hA, hfr, g_1, g_t, g_ro, g_a, g_bl, g_pt, g_pp⟩
  have hL : ∀ x ∈ L, x ∈ (((L ++ [300 + (4 * j + nN (a 10 j))]) ++ [400 + (4 * j + nN (a 10 j))]) ++ [500 + (4 * j + nN (a 10 j))]) ++ [600 + (4 * j + nN (a 10 j))] := fun x hx => mem4_of (Or.inl hx)
  have hA2 : ∀ x ∈ L, ad1 x = ad x := fun x hx => (hA x hx).symm
  have hA0 : ∀ r, r < 30 → ad1 r = ad r := fun r hr => hA2 r (hL0 r hr)
  have fr : ∀ x ∈ L, x ≠ 1 → x ≠ 200 + j → x ≠ 100 + j → g1 x = g x := hfr
  have hJ : XJ ty ((((L ++ [300 + (4 * j + nN (a 10 j))]) ++ [400 + (4 * j + nN (a 10 j))]) ++ [500 + (4 * j + nN (a 10 j))]) ++ [600 + (4 * j + nN (a 10 j))]) ad1 g1 (a 6) (a 7) (a 8) (a 9) (upd (a 10) j (nI (nN (a 10 j) + 1))) j := by
    unfold XJ
    rw [pk_us, nN_nI (by omega)]
    refine ⟨hL _ mpp, hL _ mpt, g_pp.trans (pcell_1 hk _ _ _ _ _).symm, _, g_pt, fun v hv9 => ?_, fun v h1 h2 => (va_up_ne _ _ (by omega)).trans (htf0 v (by omega) h2)⟩
    by_cases e9 : v = nN (a 10 j)
    · rw [e9, va_up_self]; exact ⟨rfl, mem4_of (Or.inr (Or.inl rfl))⟩
    · obtain ⟨z1, z2⟩ := htf v (by omega)
      rw [va_up_ne _ _ e9, hA2 _ z2]; exact ⟨z1, hL _ z2⟩
  have hT : XT ty ((((L ++ [300 + (4 * j + nN (a 10 j))]) ++ [400 + (4 * j + nN (a 10 j))]) ++ [500 + (4 * j + nN (a 10 j))]) ++ [600 + (4 * j + nN (a 10 j))]) ad1 g1 (upd (a 11) (4 * j + nN (a 10 j)) (nI dn)) (pb (a 12) (a 1) (40 * (4 * j + nN (a 10 j))) dn) (pb (a 13) (fun _ => 0) (40 * (4 * j + nN (a 10 j))) dn) (4 * j + nN (a 10 j)) := by
    unfold XT
    rw [pk_us, nN_nI (by omega)]
    refine ⟨⟨mem4_of (Or.inr (Or.inl rfl)), mem4_of (Or.inr (Or.inr (Or.inl rfl))), mem4_of (Or.inr (Or.inr (Or.inr (Or.inl rfl)))), mem4_of (Or.inr (Or.inr (Or.inr (Or.inr rfl))))⟩, g_t, g_ro, _, _, g_a, g_bl, fun i hi => ⟨?_, ?_⟩⟩
    · rw [pb_in _ _ _ _ _ hi, cpf, if_pos hi]; exact hdb i hi
    · rw [pb_in _ _ _ _ _ hi]
  have hXP := cP.grow hL hA2 (fun x hx h1 h2 h3 h4 => fr x hx (by omega) h4 h3) hp8 hj hcov ⟨pf, (fr _ (hL0 _ (by omega)) (by omega) (by omega) (by omega)).trans h_6, fun i hi => by rw [hA2 _ (xJ i hi).1]; exact hpf i hi, hpf0⟩ hJ hT he h10 hold e11 e12 e13 hv4 (fun i v hi hv9 => (pT i v hi hv9).1.2.2) hv
  have hXF := cF.grow (L1 := (((L ++ [300 + (4 * j + nN (a 10 j))]) ++ [400 + (4 * j + nN (a 10 j))]) ++ [500 + (4 * j + nN (a 10 j))]) ++ [600 + (4 * j + nN (a 10 j))]) (l10 := (upd (a 10) j (nI (nN (a 10 j) + 1)))) (j := j) (vn := nN (a 10 j)) (Nat.le_refl pn) (Nat.le_refl qn) hj (fun i hi v hv9 => by by_cases e9 : i = j; (· rw [e9] at hv9 ⊢; omega); (· rw [pk_un e9]; exact hv9)) (by omega) (fun r hr => by rcases mem4 hr with h | h | h | h | h; (· exact Or.inl h); all_goals exact Or.inr (by omega))
  exact ⟨q1, hL, hA2, fun x hx h => fr x hx (by omega) (by omega) (by omega), cO.fr (fun r hr => hL r (hL0 r hr)) hA0 (fr _ (hL0 _ (by omega)) (by omega) (by omega) (by omega)), ⟨by rw [nI_0]; exact g_1, db, (fr _ (hL0 _ (by omega)) (by omega) (by omega) (by omega)).trans h_2, fun i hi => absurd hi (by omega)⟩, cR.fr hA0 (fun x h1 h2 => (fr _ (hL0 _ (by omega)) (by omega) (by omega) (by omega))), hXP, cV.fr hA0 (fun x h1 h2 => (fr _ (hL0 _ (by omega)) (by omega) (by omega) (by omega))), cS.fr hA0 (fun x h1 h2 => (fr _ (hL0 _ (by omega)) (by omega) (by omega) (by omega))), cN.fr hA0 (fun x h1 h2 => (fr _ (hL0 _ (by omega)) (by omega) (by omega) (by omega))), cQ.fr hL hA2 (fr _ (hL0 _ (by omega)) (by omega) (by omega) (by omega)) (fun x hx h1 h2 => fr x hx (by omega) (by omega) (by omega)) hq30, cK.fr (fr _ (hL0 _ (by omega)) (by omega) (by omega) (by omega)), hXF⟩
set_option maxHeartbeats 4000000 in
theorem version_ok_2 (l : Launch) (D : va_G) (ty : Nat → ClassId) {k : Nat} {L : List Nat} {ad : Nat → Nat} {g : Nat → va_E} {a : Nat → FI} {dn pn en qn mz : Nat} {nw lo : Int32} {tr : Int64} {j : Nat} (hk9 : k < 1000) (hP : PI a dn pn en qn nw k) (hX : RX ty L ad g a dn pn en qn nw lo tr) (hM : RM ty L ad g a dn pn en qn mz nw lo tr) (hj : j < pn) (hk : a 6 j = 2) (hd : 0 < dn) (hw : a 9 j = 0) (hv : nN (a 10 j) < 4) : SimAt Value.int l D ty yX8_version wsX8_version 4 85 yX9_version wsX9_version 2 43 [.int (nI j)] k L ad g a dn pn en qn mz nw lo tr := by
  obtain ⟨⟨hd40, hp8, he200, hq30⟩, pD, pJ, pT, pV, pQ, pK⟩ := id hP
  obtain ⟨cO, cD, cR, cP, cV, cS, cN, cQ, cK, cF⟩ := id hX
  obtain ⟨hL0, h_0⟩ := id cO
  have hv4 : ∀ j, j < pn → nN (a 10 j) ≤ 4 := fun j hj => (pJ j hj).2.2.2.1.2.2
  obtain ⟨⟨pf, h_6, hpf, hpf0⟩, xJ, xT⟩ := id cP
  obtain ⟨h_1, db, h_2, hdb⟩ := id cD
  obtain ⟨mpp, mpt, hpp0, tf, h_pt, htf, htf0⟩ := xJ j hj
  obtain ⟨hkd, ⟨ef, hf4⟩, hwd, ⟨ev, hv1, hv4j⟩, hlg⟩ := pJ j hj
  have hc := hpp0.trans (pcell_2 hk _ _ _ _ _)
  obtain ⟨n3, n4, n5, n6⟩ := cF.no hp8 hq30 hv4 (show j < 8 by omega) hv (fun _ => Nat.le_refl _)
  have h10 : nN ((upd (a 10) j (nI (nN (a 10 j) + 1))) j) = nN (a 10 j) + 1 := by rw [pk_us, nN_nI (by omega)]
  have he : ∀ i, i ≠ j → a 6 i = a 6 i ∧ a 7 i = a 7 i ∧ a 8 i = a 8 i ∧ a 9 i = a 9 i ∧ (upd (a 10) j (nI (nN (a 10 j) + 1))) i = a 10 i := fun i hne => ⟨rfl, rfl, rfl, rfl, pk_un hne⟩
  have hold : ∀ v, v < nN (a 10 j) → j < pn ∧ v < nN (a 10 j) := fun v h => ⟨hj, h⟩
  have e11 : ∀ t, t ≠ (4 * j + nN (a 10 j)) → (upd (a 11) (4 * j + nN (a 10 j)) (nI dn)) t = a 11 t := fun t ht => pk_un ht
  have e12 : ∀ x, (x < 40 * (4 * j + nN (a 10 j)) ∨ 40 * (4 * j + nN (a 10 j)) + 40 ≤ x) → (pb (a 12) (a 1) (40 * (4 * j + nN (a 10 j))) dn) x = a 12 x := fun x hx => pb_out _ _ _ _ _ (by omega)
  have e13 : ∀ x, (x < 40 * (4 * j + nN (a 10 j)) ∨ 40 * (4 * j + nN (a 10 j)) + 40 ≤ x) → (pb (a 13) (fun _ => 0) (40 * (4 * j + nN (a 10 j))) dn) x = a 13 x := fun x hx => pb_out _ _ _ _ _ (by omega)
  have hcov : ∀ i, i < pn → i ≠ j → i < pn := fun i hi _ => hi
  have hJ2 : PJ (a 6) (a 7) (a 8) (a 9) (upd (a 10) j (nI (nN (a 10 j) + 1))) j := ⟨hkd, ⟨ef, hf4⟩, hwd, by rw [pk_us, nN_nI (by omega)]; exact ⟨rfl, by omega, by omega⟩, hlg⟩
  have hT2 : PT (upd (a 11) (4 * j + nN (a 10 j)) (nI dn)) (pb (a 12) (a 1) (40 * (4 * j + nN (a 10 j))) dn) (pb (a 13) (fun _ => 0) (40 * (4 * j + nN (a 10 j))) dn) (4 * j + nN (a 10 j)) := by
    unfold PT
    rw [pk_us, nN_nI (by omega)]
    exact ⟨⟨rfl, by omega, by omega⟩, fun i hi => by rw [pb_in _ _ _ _ _ hi, pb_in _ _ _ _ _ hi]; exact ⟨pD i hi, Or.inl rfl⟩⟩
  obtain ⟨pJ2, pT2⟩ := PP_grow pJ pT hcov hJ2 hT2 he h10 hold e11 e12 e13 hv
  refine sim_C (nI (nN (a 10 j))) (cmA a dn j (nN (a 10 j))) 0 pn en qn mz nw lo tr (by decide) (by decide) hM (hL0 0 (by decide)) ⟨⟨by omega, hp8, he200, hq30⟩, fun i hi => absurd hi (by omega), pJ2, pT2, pV, pQ, pK.next⟩ (c_X_version1_ok l D ty L ad g _ _ _ _ _ _ _ _ _ _ _ _ _ (300 + (4 * j + nN (a 10 j))) (400 + (4 * j + nN (a 10 j))) (500 + (4 * j + nN (a 10 j))) (600 + (4 * j + nN (a 10 j))) _ hL0 mpp mpt h_0 h_1 h_2 h_6 hc h_pt (by omega) (hpf j hj) hd hd40 hw hv (by omega) (by omega) (by omega) n3 n4 n5 n6 (fun q hq => by rw [hdb q hq]; exact i_byte (by have := (pD q hq).1; omega) (by have := (pD q hq).2; omega)) (by omega) (by omega) (by omega) (by omega) (by omega) (by omega) (by omega) (by omega) (by omega) (by omega)) ?_ (fun L1 ad1 g1 hR9 => c_M_version_ok l D ty L1 ad1 g1 a dn pn en qn mz nw lo tr _ _ hR9 hj hp8 hd hd40 hw ev hv)
  rintro v1 L1 ad1 g1 ⟨q1, rfl, hA, hfr, g_1, g_t, g_ro, g_a, g_bl, g_pt, g_pp⟩
  have hL : ∀ x ∈ L, x ∈ (((L ++ [300 + (4 * j + nN (a 10 j))]) ++ [400 + (4 * j + nN (a 10 j))]) ++ [500 + (4 * j + nN (a 10 j))]) ++ [600 + (4 * j + nN (a 10 j))] := fun x hx => mem4_of (Or.inl hx)
  have hA2 : ∀ x ∈ L, ad1 x = ad x := fun x hx => (hA x hx).symm
  have hA0 : ∀ r, r < 30 → ad1 r = ad r := fun r hr => hA2 r (hL0 r hr)
  have fr : ∀ x ∈ L, x ≠ 1 → x ≠ 200 + j → x ≠ 100 + j → g1 x = g x := hfr
  have hJ : XJ ty ((((L ++ [300 + (4 * j + nN (a 10 j))]) ++ [400 + (4 * j + nN (a 10 j))]) ++ [500 + (4 * j + nN (a 10 j))]) ++ [600 + (4 * j + nN (a 10 j))]) ad1 g1 (a 6) (a 7) (a 8) (a 9) (upd (a 10) j (nI (nN (a 10 j) + 1))) j := by
    unfold XJ
    rw [pk_us, nN_nI (by omega)]
    refine ⟨hL _ mpp, hL _ mpt, g_pp.trans (pcell_2 hk _ _ _ _ _).symm, _, g_pt, fun v hv9 => ?_, fun v h1 h2 => (va_up_ne _ _ (by omega)).trans (htf0 v (by omega) h2)⟩
    by_cases e9 : v = nN (a 10 j)
    · rw [e9, va_up_self]; exact ⟨rfl, mem4_of (Or.inr (Or.inl rfl))⟩
    · obtain ⟨z1, z2⟩ := htf v (by omega)
      rw [va_up_ne _ _ e9, hA2 _ z2]; exact ⟨z1, hL _ z2⟩
  have hT : XT ty ((((L ++ [300 + (4 * j + nN (a 10 j))]) ++ [400 + (4 * j + nN (a 10 j))]) ++ [500 + (4 * j + nN (a 10 j))]) ++ [600 + (4 * j + nN (a 10 j))]) ad1 g1 (upd (a 11) (4 * j + nN (a 10 j)) (nI dn)) (pb (a 12) (a 1) (40 * (4 * j + nN (a 10 j))) dn) (pb (a 13) (fun _ => 0) (40 * (4 * j + nN (a 10 j))) dn) (4 * j + nN (a 10 j)) := by
    unfold XT
    rw [pk_us, nN_nI (by omega)]
    refine ⟨⟨mem4_of (Or.inr (Or.inl rfl)), mem4_of (Or.inr (Or.inr (Or.inl rfl))), mem4_of (Or.inr (Or.inr (Or.inr (Or.inl rfl)))), mem4_of (Or.inr (Or.inr (Or.inr (Or.inr rfl))))⟩, g_t, g_ro, _, _, g_a, g_bl, fun i hi => ⟨?_, ?_⟩⟩
    · rw [pb_in _ _ _ _ _ hi, cpf, if_pos hi]; exact hdb i hi
    · rw [pb_in _ _ _ _ _ hi]
  have hXP := cP.grow hL hA2 (fun x hx h1 h2 h3 h4 => fr x hx (by omega) h4 h3) hp8 hj hcov ⟨pf, (fr _ (hL0 _ (by omega)) (by omega) (by omega) (by omega)).trans h_6, fun i hi => by rw [hA2 _ (xJ i hi).1]; exact hpf i hi, hpf0⟩ hJ hT he h10 hold e11 e12 e13 hv4 (fun i v hi hv9 => (pT i v hi hv9).1.2.2) hv
  have hXF := cF.grow (L1 := (((L ++ [300 + (4 * j + nN (a 10 j))]) ++ [400 + (4 * j + nN (a 10 j))]) ++ [500 + (4 * j + nN (a 10 j))]) ++ [600 + (4 * j + nN (a 10 j))]) (l10 := (upd (a 10) j (nI (nN (a 10 j) + 1)))) (j := j) (vn := nN (a 10 j)) (Nat.le_refl pn) (Nat.le_refl qn) hj (fun i hi v hv9 => by by_cases e9 : i = j; (· rw [e9] at hv9 ⊢; omega); (· rw [pk_un e9]; exact hv9)) (by omega) (fun r hr => by rcases mem4 hr with h | h | h | h | h; (· exact Or.inl h); all_goals exact Or.inr (by omega))
  exact ⟨q1, hL, hA2, fun x hx h => fr x hx (by omega) (by omega) (by omega), cO.fr (fun r hr => hL r (hL0 r hr)) hA0 (fr _ (hL0 _ (by omega)) (by omega) (by omega) (by omega)), ⟨by rw [nI_0]; exact g_1, db, (fr _ (hL0 _ (by omega)) (by omega) (by omega) (by omega)).trans h_2, fun i hi => absurd hi (by omega)⟩, cR.fr hA0 (fun x h1 h2 => (fr _ (hL0 _ (by omega)) (by omega) (by omega) (by omega))), hXP, cV.fr hA0 (fun x h1 h2 => (fr _ (hL0 _ (by omega)) (by omega) (by omega) (by omega))), cS.fr hA0 (fun x h1 h2 => (fr _ (hL0 _ (by omega)) (by omega) (by omega) (by omega))), cN.fr hA0 (fun x h1 h2 => (fr _ (hL0 _ (by omega)) (by omega) (by omega) (by omega))), cQ.fr hL hA2 (fr _ (hL0 _ (by omega)) (by omega) (by omega) (by omega)) (fun x hx h1 h2 => fr x hx (by omega) (by omega) (by omega)) hq30, cK.fr (fr _ (hL0 _ (by omega)) (by omega) (by omega) (by omega)), hXF⟩
set_option maxHeartbeats 4000000 in
theorem s_version (l : Launch) (D : va_G) (ty : Nat → ClassId) {k : Nat} {L : List Nat} {ad : Nat → Nat} {g : Nat → va_E} {a : Nat → FI} {dn pn en qn mz : Nat} {nw lo : Int32} {tr : Int64} (i : Int32) (hk9 : k < 1000) (hP : PI a dn pn en qn nw k) (hX : RX ty L ad g a dn pn en qn nw lo tr) (hM : RM ty L ad g a dn pn en qn mz nw lo tr) : SimAt Value.int l D ty yX8_version wsX8_version 4 85 yX9_version wsX9_version 2 43 [.int i] k L ad g a dn pn en qn mz nw lo tr := by
  obtain ⟨⟨hd40, hp8, he200, hq30⟩, pD, pJ, pT, pV, pQ, pK⟩ := id hP
  obtain ⟨cO, cD, cR, cP, cV, cS, cN, cQ, cK, cF⟩ := id hX
  obtain ⟨hL0, h_0⟩ := id cO
  have hv4 : ∀ j, j < pn → nN (a 10 j) ≤ 4 := fun j hj => (pJ j hj).2.2.2.1.2.2
  obtain ⟨⟨pf, h_6, hpf, hpf0⟩, xJ, xT⟩ := id cP
  obtain ⟨h_1, db, h_2, hdb⟩ := id cD
  rcases ix_p i hp8 (by decide) with ⟨j, hj, rfl⟩ | ⟨j, h1, h2, rfl, h3⟩ | ⟨h2, h3⟩
  · skip
    obtain ⟨mpp, mpt, hpp0, tf, h_pt, htf, htf0⟩ := xJ j hj
    obtain ⟨hkd, ⟨ef, hf4⟩, hwd, ⟨ev, hv1, hv4j⟩, hlg⟩ := pJ j hj
    rcases hkd with hk | hk | hk
    · skip
      have hc := hpp0.trans (pcell_0 hk _ _ _ _ _)
      by_cases hd : dn = 0
      · exact sim_S (-2) hM hX hP (c_X_version2_s1 l D ty L ad g _ _ _ _ _ _ _ _ _ _ _ _ (hL0 0 (by decide)) (hL0 1 (by decide)) (hL0 6 (by decide)) mpp h_0 h_1 h_6 hc (by omega) (hpf j hj) hd) (fun L1 ad1 g1 hR9 => c_M_version_s1 l D ty L1 ad1 g1 a dn pn en qn mz nw lo tr _ hR9 hj hp8 hd)
      · rcases hwd with hw | hw
        · by_cases hv : nN (a 10 j) = 4
          · exact sim_S (-3) hM hX hP (c_X_version2_full l D ty L ad g _ _ _ _ _ _ _ _ _ _ _ _ _ (hL0 0 (by decide)) (hL0 1 (by decide)) (hL0 6 (by decide)) mpp mpt h_0 h_1 h_6 hc h_pt (by omega) (hpf j hj) (by omega) hd40 hw hv) (fun L1 ad1 g1 hR9 => c_M_version_full l D ty L1 ad1 g1 a dn pn en qn mz nw lo tr _ hR9 hj hp8 (by omega) hd40 hw (by rw [ev, hv]))
          · exact version_ok_0 l D ty hk9 hP hX hM hj hk (by omega) hw (by omega)
        · exact sim_S (-2) hM hX hP (c_X_version2_s2 l D ty L ad g _ _ _ _ _ _ _ _ _ _ _ _ (hL0 0 (by decide)) (hL0 1 (by decide)) (hL0 6 (by decide)) mpp h_0 h_1 h_6 hc (by omega) (hpf j hj) (by omega) hd40 hw) (fun L1 ad1 g1 hR9 => c_M_version_s2 l D ty L1 ad1 g1 a dn pn en qn mz nw lo tr _ hR9 hj hp8 (by omega) hd40 hw)
    · skip
      have hc := hpp0.trans (pcell_1 hk _ _ _ _ _)
      by_cases hd : dn = 0
      · exact sim_S (-2) hM hX hP (c_X_version0_s1 l D ty L ad g _ _ _ _ _ _ _ _ _ _ _ _ _ (hL0 0 (by decide)) (hL0 1 (by decide)) (hL0 6 (by decide)) mpp h_0 h_1 h_6 hc (by omega) (hpf j hj) hd) (fun L1 ad1 g1 hR9 => c_M_version_s1 l D ty L1 ad1 g1 a dn pn en qn mz nw lo tr _ hR9 hj hp8 hd)
      · rcases hwd with hw | hw
        · by_cases hv : nN (a 10 j) = 4
          · exact sim_S (-3) hM hX hP (c_X_version0_full l D ty L ad g _ _ _ _ _ _ _ _ _ _ _ _ _ _ (hL0 0 (by decide)) (hL0 1 (by decide)) (hL0 6 (by decide)) mpp mpt h_0 h_1 h_6 hc h_pt (by omega) (hpf j hj) (by omega) hd40 hw hv) (fun L1 ad1 g1 hR9 => c_M_version_full l D ty L1 ad1 g1 a dn pn en qn mz nw lo tr _ hR9 hj hp8 (by omega) hd40 hw (by rw [ev, hv]))
          · exact version_ok_1 l D ty hk9 hP hX hM hj hk (by omega) hw (by omega)
        · exact sim_S (-2) hM hX hP (c_X_version0_s2 l D ty L ad g _ _ _ _ _ _ _ _ _ _ _ _ _ (hL0 0 (by decide)) (hL0 1 (by decide)) (hL0 6 (by decide)) mpp h_0 h_1 h_6 hc (by omega) (hpf j hj) (by omega) hd40 hw) (fun L1 ad1 g1 hR9 => c_M_version_s2 l D ty L1 ad1 g1 a dn pn en qn mz nw lo tr _ hR9 hj hp8 (by omega) hd40 hw)
    · skip
      have hc := hpp0.trans (pcell_2 hk _ _ _ _ _)
      by_cases hd : dn = 0
      · exact sim_S (-2) hM hX hP (c_X_version1_s1 l D ty L ad g _ _ _ _ _ _ _ _ _ _ _ _ (hL0 0 (by decide)) (hL0 1 (by decide)) (hL0 6 (by decide)) mpp h_0 h_1 h_6 hc (by omega) (hpf j hj) hd) (fun L1 ad1 g1 hR9 => c_M_version_s1 l D ty L1 ad1 g1 a dn pn en qn mz nw lo tr _ hR9 hj hp8 hd)
      · rcases hwd with hw | hw
        · by_cases hv : nN (a 10 j) = 4
          · exact sim_S (-3) hM hX hP (c_X_version1_full l D ty L ad g _ _ _ _ _ _ _ _ _ _ _ _ _ (hL0 0 (by decide)) (hL0 1 (by decide)) (hL0 6 (by decide)) mpp mpt h_0 h_1 h_6 hc h_pt (by omega) (hpf j hj) (by omega) hd40 hw hv) (fun L1 ad1 g1 hR9 => c_M_version_full l D ty L1 ad1 g1 a dn pn en qn mz nw lo tr _ hR9 hj hp8 (by omega) hd40 hw (by rw [ev, hv]))
          · exact version_ok_2 l D ty hk9 hP hX hM hj hk (by omega) hw (by omega)
        · exact sim_S (-2) hM hX hP (c_X_version1_s2 l D ty L ad g _ _ _ _ _ _ _ _ _ _ _ _ (hL0 0 (by decide)) (hL0 1 (by decide)) (hL0 6 (by decide)) mpp h_0 h_1 h_6 hc (by omega) (hpf j hj) (by omega) hd40 hw) (fun L1 ad1 g1 hR9 => c_M_version_s2 l D ty L1 ad1 g1 a dn pn en qn mz nw lo tr _ hR9 hj hp8 (by omega) hd40 hw)
  · skip
    exact sim_S (-1) hM hX hP (c_X_version_none l D ty L ad g _ _ _ _ _ _ (hL0 0 (by decide)) (hL0 6 (by decide)) h_0 h_6 h2 (hpf0 j h1 h2)) (fun L1 ad1 g1 hR9 => c_M_version_bad l D ty L1 ad1 g1 a dn pn en qn mz nw lo tr _ hR9 h3 hp8)
  · skip
    exact sim_S (-1) hM hX hP (c_X_version_bad l D ty L ad g _ _ _ _ _ _ (hL0 0 (by decide)) (hL0 6 (by decide)) h_0 h_6 (by omega)) (fun L1 ad1 g1 hR9 => c_M_version_bad l D ty L1 ad1 g1 a dn pn en qn mz nw lo tr _ hR9 h3 hp8)
