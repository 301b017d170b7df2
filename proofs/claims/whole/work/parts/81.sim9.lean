set_option maxHeartbeats 4000000 in
theorem paper_ok_0 (l : Launch) (D : va_G) (ty : Nat → ClassId) {k : Nat} {L : List Nat} {ad : Nat → Nat} {g : Nat → va_E} {a : Nat → FI} {dn pn en qn mz : Nat} {nw lo : Int32} {tr : Int64} {f : Nat} {u : Int32} (hk9 : k < 1000) (hP : PI a dn pn en qn nw k) (hX : RX ty L ad g a dn pn en qn nw lo tr) (hM : RM ty L ad g a dn pn en qn mz nw lo tr) (hf : f < 4) (hd : 0 < dn) (hp : pn < 8) : SimAt Value.int l D ty yX8_paper wsX8_paper 4 85 yX9_paper wsX9_paper 1 23 [.int 0, .int (nI f), .int u] k L ad g a dn pn en qn mz nw lo tr := by
  obtain ⟨⟨hd40, hp8, he200, hq30⟩, pD, pJ, pT, pV, pQ, pK⟩ := id hP
  obtain ⟨cO, cD, cR, cP, cV, cS, cN, cQ, cK, cF⟩ := id hX
  obtain ⟨hL0, h_0⟩ := id cO
  have hv4 : ∀ j, j < pn → nN (a 10 j) ≤ 4 := fun j hj => (pJ j hj).2.2.2.1.2.2
  obtain ⟨⟨pf, h_6, hpf, hpf0⟩, xJ, xT⟩ := id cP
  obtain ⟨h_1, db, h_2, hdb⟩ := id cD
  have tf := nI_toInt (n := f) (by omega)
  obtain ⟨n3, n4, n5, n6⟩ := cF.no hp8 hq30 hv4 hp (show 0 < 4 by decide) (fun h => absurd h (by omega))
  obtain ⟨n1, n2⟩ := cF.noP hp hq30 hv4
  have h10 : nN ((upd (upd (a 10) pn 0) pn (nI (0 + 1))) pn) = 0 + 1 := by rw [pk_us, nN_nI (by omega)]
  have he : ∀ i, i ≠ pn → (upd (a 6) pn 0) i = a 6 i ∧ (upd (a 7) pn (nI f)) i = a 7 i ∧ (upd (a 8) pn (if (0 : Int32) = 1 then u else 0)) i = a 8 i ∧ (upd (a 9) pn 0) i = a 9 i ∧ (upd (upd (a 10) pn 0) pn (nI (0 + 1))) i = a 10 i := fun i hne => ⟨pk_un hne, pk_un hne, pk_un hne, pk_un hne, (pk_un hne).trans (pk_un hne)⟩
  have hold : ∀ v, v < 0 → pn < pn ∧ v < nN (a 10 pn) := fun v h => absurd h (by omega)
  have e11 : ∀ t, t ≠ (4 * pn + 0) → (upd (a 11) (4 * pn + 0) (nI dn)) t = a 11 t := fun t ht => pk_un ht
  have e12 : ∀ x, (x < 40 * (4 * pn + 0) ∨ 40 * (4 * pn + 0) + 40 ≤ x) → (pb (a 12) (a 1) (40 * (4 * pn + 0)) dn) x = a 12 x := fun x hx => pb_out _ _ _ _ _ (by omega)
  have e13 : ∀ x, (x < 40 * (4 * pn + 0) ∨ 40 * (4 * pn + 0) + 40 ≤ x) → (pb (a 13) (fun _ => 0) (40 * (4 * pn + 0)) dn) x = a 13 x := fun x hx => pb_out _ _ _ _ _ (by omega)
  have hcov : ∀ i, i < pn + 1 → i ≠ pn → i < pn := fun i hi _ => by omega
  have hJ2 : PJ (upd (a 6) pn 0) (upd (a 7) pn (nI f)) (upd (a 8) pn (if (0 : Int32) = 1 then u else 0)) (upd (a 9) pn 0) (upd (upd (a 10) pn 0) pn (nI (0 + 1))) pn := by
    unfold PJ
    simp only [pk_us]
    rw [nN_nI (n := f) (by omega), nN_nI (n := 0 + 1) (by omega)]
    exact ⟨Or.inl trivial, ⟨rfl, hf⟩, Or.inl trivial, ⟨rfl, by omega, by omega⟩, fun h => if_neg h⟩
  have hT2 : PT (upd (a 11) (4 * pn + 0) (nI dn)) (pb (a 12) (a 1) (40 * (4 * pn + 0)) dn) (pb (a 13) (fun _ => 0) (40 * (4 * pn + 0)) dn) (4 * pn + 0) := by
    unfold PT
    rw [pk_us, nN_nI (by omega)]
    exact ⟨⟨rfl, by omega, by omega⟩, fun i hi => by rw [pb_in _ _ _ _ _ hi, pb_in _ _ _ _ _ hi]; exact ⟨pD i hi, Or.inl rfl⟩⟩
  obtain ⟨pJ2, pT2⟩ := PP_grow pJ pT hcov hJ2 hT2 he h10 hold e11 e12 e13 (by decide)
  refine sim_C (nI pn) (cmA (ppA a pn 0 (nI f) (if (0 : Int32) = 1 then u else 0)) dn pn 0) 0 (pn + 1) en qn mz nw lo tr (by decide) (by decide) hM (hL0 0 (by decide)) ⟨⟨by omega, by omega, he200, hq30⟩, fun i hi => absurd hi (by omega), pJ2, pT2, pV, fun q hq => by obtain ⟨⟨j, z1, z2⟩, z3⟩ := pQ q hq; exact ⟨⟨j, by omega, z2⟩, z3⟩, pK.next⟩ (c_X_paper_ok0 l D ty L ad g _ _ _ _ _ _ _ _ (100 + pn) (200 + pn) (300 + (4 * pn + 0)) (400 + (4 * pn + 0)) (500 + (4 * pn + 0)) (600 + (4 * pn + 0)) _ hL0 h_0 h_1 h_2 h_6 hf hd hd40 hp n1 n2 n3 n4 n5 n6 (fun q hq => by rw [hdb q hq]; exact i_byte (by have := (pD q hq).1; omega) (by have := (pD q hq).2; omega)) (by omega) (by omega) (by omega) (by omega) (by omega) (by omega) (by omega) (by omega) (by omega) (by omega) (by omega) (by omega) (by omega) (by omega) (by omega) (by omega) (by omega) (by omega) (by omega) (by omega) (by omega)) ?_ (fun L1 ad1 g1 hR9 => c_M_paper_ok l D ty L1 ad1 g1 a dn pn en qn mz nw lo tr _ _ _ hR9 (by decide) (by omega) (fun h => absurd h (by decide)) hd hd40 hp)
  rintro v1 L1 ad1 g1 ⟨q1, rfl, hA, hfr, g_1, g_t, g_ro, g_a, g_bl, g_pt, g_pp, g_6, g_0⟩
  have hL : ∀ x ∈ L, x ∈ ((((((L ++ [100 + pn]) ++ [200 + pn]) ++ [300 + (4 * pn + 0)]) ++ [400 + (4 * pn + 0)]) ++ [500 + (4 * pn + 0)]) ++ [600 + (4 * pn + 0)]) := fun x hx => mem4_of (Or.inl (mem2_of (Or.inl hx)))
  have hA2 : ∀ x ∈ L, ad1 x = ad x := fun x hx => (hA x hx).symm
  have hA0 : ∀ r, r < 30 → ad1 r = ad r := fun r hr => hA2 r (hL0 r hr)
  have fr : ∀ x ∈ L, x ≠ 1 → x ≠ 6 → x ≠ 0 → g1 x = g x := hfr
  have hJ : XJ ty ((((((L ++ [100 + pn]) ++ [200 + pn]) ++ [300 + (4 * pn + 0)]) ++ [400 + (4 * pn + 0)]) ++ [500 + (4 * pn + 0)]) ++ [600 + (4 * pn + 0)]) ad1 g1 (upd (a 6) pn 0) (upd (a 7) pn (nI f)) (upd (a 8) pn (if (0 : Int32) = 1 then u else 0)) (upd (a 9) pn 0) (upd (upd (a 10) pn 0) pn (nI (0 + 1))) pn := by
    unfold XJ
    simp only [pk_us]
    rw [nN_nI (n := f) (by omega), nN_nI (n := 0 + 1) (by omega)]
    refine ⟨mem4_of (Or.inl (mem2_of (Or.inr (Or.inl rfl)))), mem4_of (Or.inl (mem2_of (Or.inr (Or.inr rfl)))), g_pp.trans ?_, _, g_pt, fun v hv9 => ?_, fun v h1 h2 => va_up_ne _ _ (by omega)⟩
    · exact (pcell_0 rfl _ _ _ _ _).symm
    · have e9 : v = 0 := by omega
      rw [e9, va_up_self]; exact ⟨rfl, mem4_of (Or.inr (Or.inl rfl))⟩
  have hT : XT ty ((((((L ++ [100 + pn]) ++ [200 + pn]) ++ [300 + (4 * pn + 0)]) ++ [400 + (4 * pn + 0)]) ++ [500 + (4 * pn + 0)]) ++ [600 + (4 * pn + 0)]) ad1 g1 (upd (a 11) (4 * pn + 0) (nI dn)) (pb (a 12) (a 1) (40 * (4 * pn + 0)) dn) (pb (a 13) (fun _ => 0) (40 * (4 * pn + 0)) dn) (4 * pn + 0) := by
    unfold XT
    rw [pk_us, nN_nI (by omega)]
    refine ⟨⟨mem4_of (Or.inr (Or.inl rfl)), mem4_of (Or.inr (Or.inr (Or.inl rfl))), mem4_of (Or.inr (Or.inr (Or.inr (Or.inl rfl)))), mem4_of (Or.inr (Or.inr (Or.inr (Or.inr rfl))))⟩, g_t, g_ro, _, _, g_a, g_bl, fun i hi => ⟨?_, ?_⟩⟩
    · rw [pb_in _ _ _ _ _ hi, cpf, if_pos hi]; exact hdb i hi
    · rw [pb_in _ _ _ _ _ hi]
  have hXP := cP.grow hL hA2 (fun x hx h1 h2 h3 h4 => fr x hx (by omega) (by omega) (by omega)) (show pn + 1 ≤ 8 by omega) (show pn < pn + 1 by omega) hcov ⟨_, g_6, fun i hi => by by_cases e9 : i = pn; (· rw [e9, va_up_self]); (· rw [va_up_ne _ _ e9, hA2 _ (xJ i (by omega)).1]; exact hpf i (by omega)), fun i h1 h2 => (va_up_ne _ _ (by omega)).trans (hpf0 i (by omega) h2)⟩ hJ hT he h10 hold e11 e12 e13 hv4 (fun i v hi hv9 => (pT i v hi hv9).1.2.2) (by decide)
  have hXF := cF.grow (L1 := ((((((L ++ [100 + pn]) ++ [200 + pn]) ++ [300 + (4 * pn + 0)]) ++ [400 + (4 * pn + 0)]) ++ [500 + (4 * pn + 0)]) ++ [600 + (4 * pn + 0)])) (l10 := (upd (upd (a 10) pn 0) pn (nI (0 + 1)))) (j := pn) (vn := 0) (show pn ≤ pn + 1 by omega) (Nat.le_refl qn) (show pn < pn + 1 by omega) (fun i hi v hv9 => by rw [pk_un (by omega), pk_un (by omega)]; exact hv9) (by omega) (fun r hr => by rcases mem4 hr with h | h | h | h | h; (· rcases mem2 h with h | h | h; (· exact Or.inl h); all_goals exact Or.inr (by omega)); all_goals exact Or.inr (by omega))
  exact ⟨q1, hL, hA2, fun x hx h => fr x hx (by omega) (by omega) (by omega), ⟨fun r hr => hL r (hL0 r hr), g_0⟩, ⟨by rw [nI_0]; exact g_1, db, (fr _ (hL0 _ (by omega)) (by omega) (by omega) (by omega)).trans h_2, fun i hi => absurd hi (by omega)⟩, cR.fr hA0 (fun x h1 h2 => (fr _ (hL0 _ (by omega)) (by omega) (by omega) (by omega))), hXP, cV.fr hA0 (fun x h1 h2 => (fr _ (hL0 _ (by omega)) (by omega) (by omega) (by omega))), cS.fr hA0 (fun x h1 h2 => (fr _ (hL0 _ (by omega)) (by omega) (by omega) (by omega))), cN.fr hA0 (fun x h1 h2 => (fr _ (hL0 _ (by omega)) (by omega) (by omega) (by omega))), cQ.fr hL hA2 (fr _ (hL0 _ (by omega)) (by omega) (by omega) (by omega)) (fun x hx h1 h2 => fr x hx (by omega) (by omega) (by omega)) hq30, cK.fr (fr _ (hL0 _ (by omega)) (by omega) (by omega) (by omega)), hXF⟩
set_option maxHeartbeats 4000000 in
theorem paper_ok_1 (l : Launch) (D : va_G) (ty : Nat → ClassId) {k : Nat} {L : List Nat} {ad : Nat → Nat} {g : Nat → va_E} {a : Nat → FI} {dn pn en qn mz : Nat} {nw lo : Int32} {tr : Int64} {f : Nat} {u : Int32} (hk9 : k < 1000) (hP : PI a dn pn en qn nw k) (hX : RX ty L ad g a dn pn en qn nw lo tr) (hM : RM ty L ad g a dn pn en qn mz nw lo tr) (hf : f < 4) (hu : 0 ≤ u.toInt) (hd : 0 < dn) (hp : pn < 8) : SimAt Value.int l D ty yX8_paper wsX8_paper 4 85 yX9_paper wsX9_paper 1 23 [.int 1, .int (nI f), .int u] k L ad g a dn pn en qn mz nw lo tr := by
  obtain ⟨⟨hd40, hp8, he200, hq30⟩, pD, pJ, pT, pV, pQ, pK⟩ := id hP
  obtain ⟨cO, cD, cR, cP, cV, cS, cN, cQ, cK, cF⟩ := id hX
  obtain ⟨hL0, h_0⟩ := id cO
  have hv4 : ∀ j, j < pn → nN (a 10 j) ≤ 4 := fun j hj => (pJ j hj).2.2.2.1.2.2
  obtain ⟨⟨pf, h_6, hpf, hpf0⟩, xJ, xT⟩ := id cP
  obtain ⟨h_1, db, h_2, hdb⟩ := id cD
  have tf := nI_toInt (n := f) (by omega)
  obtain ⟨n3, n4, n5, n6⟩ := cF.no hp8 hq30 hv4 hp (show 0 < 4 by decide) (fun h => absurd h (by omega))
  obtain ⟨n1, n2⟩ := cF.noP hp hq30 hv4
  have h10 : nN ((upd (upd (a 10) pn 0) pn (nI (0 + 1))) pn) = 0 + 1 := by rw [pk_us, nN_nI (by omega)]
  have he : ∀ i, i ≠ pn → (upd (a 6) pn 1) i = a 6 i ∧ (upd (a 7) pn (nI f)) i = a 7 i ∧ (upd (a 8) pn (if (1 : Int32) = 1 then u else 0)) i = a 8 i ∧ (upd (a 9) pn 0) i = a 9 i ∧ (upd (upd (a 10) pn 0) pn (nI (0 + 1))) i = a 10 i := fun i hne => ⟨pk_un hne, pk_un hne, pk_un hne, pk_un hne, (pk_un hne).trans (pk_un hne)⟩
  have hold : ∀ v, v < 0 → pn < pn ∧ v < nN (a 10 pn) := fun v h => absurd h (by omega)
  have e11 : ∀ t, t ≠ (4 * pn + 0) → (upd (a 11) (4 * pn + 0) (nI dn)) t = a 11 t := fun t ht => pk_un ht
  have e12 : ∀ x, (x < 40 * (4 * pn + 0) ∨ 40 * (4 * pn + 0) + 40 ≤ x) → (pb (a 12) (a 1) (40 * (4 * pn + 0)) dn) x = a 12 x := fun x hx => pb_out _ _ _ _ _ (by omega)
  have e13 : ∀ x, (x < 40 * (4 * pn + 0) ∨ 40 * (4 * pn + 0) + 40 ≤ x) → (pb (a 13) (fun _ => 0) (40 * (4 * pn + 0)) dn) x = a 13 x := fun x hx => pb_out _ _ _ _ _ (by omega)
  have hcov : ∀ i, i < pn + 1 → i ≠ pn → i < pn := fun i hi _ => by omega
  have hJ2 : PJ (upd (a 6) pn 1) (upd (a 7) pn (nI f)) (upd (a 8) pn (if (1 : Int32) = 1 then u else 0)) (upd (a 9) pn 0) (upd (upd (a 10) pn 0) pn (nI (0 + 1))) pn := by
    unfold PJ
    simp only [pk_us]
    rw [nN_nI (n := f) (by omega), nN_nI (n := 0 + 1) (by omega)]
    exact ⟨Or.inr (Or.inl trivial), ⟨rfl, hf⟩, Or.inl trivial, ⟨rfl, by omega, by omega⟩, fun h => absurd trivial h⟩
  have hT2 : PT (upd (a 11) (4 * pn + 0) (nI dn)) (pb (a 12) (a 1) (40 * (4 * pn + 0)) dn) (pb (a 13) (fun _ => 0) (40 * (4 * pn + 0)) dn) (4 * pn + 0) := by
    unfold PT
    rw [pk_us, nN_nI (by omega)]
    exact ⟨⟨rfl, by omega, by omega⟩, fun i hi => by rw [pb_in _ _ _ _ _ hi, pb_in _ _ _ _ _ hi]; exact ⟨pD i hi, Or.inl rfl⟩⟩
  obtain ⟨pJ2, pT2⟩ := PP_grow pJ pT hcov hJ2 hT2 he h10 hold e11 e12 e13 (by decide)
  refine sim_C (nI pn) (cmA (ppA a pn 1 (nI f) (if (1 : Int32) = 1 then u else 0)) dn pn 0) 0 (pn + 1) en qn mz nw lo tr (by decide) (by decide) hM (hL0 0 (by decide)) ⟨⟨by omega, by omega, he200, hq30⟩, fun i hi => absurd hi (by omega), pJ2, pT2, pV, fun q hq => by obtain ⟨⟨j, z1, z2⟩, z3⟩ := pQ q hq; exact ⟨⟨j, by omega, z2⟩, z3⟩, pK.next⟩ (c_X_paper_ok1 l D ty L ad g _ _ _ _ _ _ _ _ (100 + pn) (200 + pn) (300 + (4 * pn + 0)) (400 + (4 * pn + 0)) (500 + (4 * pn + 0)) (600 + (4 * pn + 0)) _ hL0 h_0 h_1 h_2 h_6 hf hu hd hd40 hp n1 n2 n3 n4 n5 n6 (fun q hq => by rw [hdb q hq]; exact i_byte (by have := (pD q hq).1; omega) (by have := (pD q hq).2; omega)) (by omega) (by omega) (by omega) (by omega) (by omega) (by omega) (by omega) (by omega) (by omega) (by omega) (by omega) (by omega) (by omega) (by omega) (by omega) (by omega) (by omega) (by omega) (by omega) (by omega) (by omega)) ?_ (fun L1 ad1 g1 hR9 => c_M_paper_ok l D ty L1 ad1 g1 a dn pn en qn mz nw lo tr _ _ _ hR9 (by decide) (by omega) (fun _ => hu) hd hd40 hp)
  rintro v1 L1 ad1 g1 ⟨q1, rfl, hA, hfr, g_1, g_t, g_ro, g_a, g_bl, g_pt, g_pp, g_6, g_0⟩
  have hL : ∀ x ∈ L, x ∈ ((((((L ++ [100 + pn]) ++ [200 + pn]) ++ [300 + (4 * pn + 0)]) ++ [400 + (4 * pn + 0)]) ++ [500 + (4 * pn + 0)]) ++ [600 + (4 * pn + 0)]) := fun x hx => mem4_of (Or.inl (mem2_of (Or.inl hx)))
  have hA2 : ∀ x ∈ L, ad1 x = ad x := fun x hx => (hA x hx).symm
  have hA0 : ∀ r, r < 30 → ad1 r = ad r := fun r hr => hA2 r (hL0 r hr)
  have fr : ∀ x ∈ L, x ≠ 1 → x ≠ 6 → x ≠ 0 → g1 x = g x := hfr
  have hJ : XJ ty ((((((L ++ [100 + pn]) ++ [200 + pn]) ++ [300 + (4 * pn + 0)]) ++ [400 + (4 * pn + 0)]) ++ [500 + (4 * pn + 0)]) ++ [600 + (4 * pn + 0)]) ad1 g1 (upd (a 6) pn 1) (upd (a 7) pn (nI f)) (upd (a 8) pn (if (1 : Int32) = 1 then u else 0)) (upd (a 9) pn 0) (upd (upd (a 10) pn 0) pn (nI (0 + 1))) pn := by
    unfold XJ
    simp only [pk_us]
    rw [nN_nI (n := f) (by omega), nN_nI (n := 0 + 1) (by omega)]
    refine ⟨mem4_of (Or.inl (mem2_of (Or.inr (Or.inl rfl)))), mem4_of (Or.inl (mem2_of (Or.inr (Or.inr rfl)))), g_pp.trans ?_, _, g_pt, fun v hv9 => ?_, fun v h1 h2 => va_up_ne _ _ (by omega)⟩
    · exact (pcell_1 rfl _ _ _ _ _).symm
    · have e9 : v = 0 := by omega
      rw [e9, va_up_self]; exact ⟨rfl, mem4_of (Or.inr (Or.inl rfl))⟩
  have hT : XT ty ((((((L ++ [100 + pn]) ++ [200 + pn]) ++ [300 + (4 * pn + 0)]) ++ [400 + (4 * pn + 0)]) ++ [500 + (4 * pn + 0)]) ++ [600 + (4 * pn + 0)]) ad1 g1 (upd (a 11) (4 * pn + 0) (nI dn)) (pb (a 12) (a 1) (40 * (4 * pn + 0)) dn) (pb (a 13) (fun _ => 0) (40 * (4 * pn + 0)) dn) (4 * pn + 0) := by
    unfold XT
    rw [pk_us, nN_nI (by omega)]
    refine ⟨⟨mem4_of (Or.inr (Or.inl rfl)), mem4_of (Or.inr (Or.inr (Or.inl rfl))), mem4_of (Or.inr (Or.inr (Or.inr (Or.inl rfl)))), mem4_of (Or.inr (Or.inr (Or.inr (Or.inr rfl))))⟩, g_t, g_ro, _, _, g_a, g_bl, fun i hi => ⟨?_, ?_⟩⟩
    · rw [pb_in _ _ _ _ _ hi, cpf, if_pos hi]; exact hdb i hi
    · rw [pb_in _ _ _ _ _ hi]
  have hXP := cP.grow hL hA2 (fun x hx h1 h2 h3 h4 => fr x hx (by omega) (by omega) (by omega)) (show pn + 1 ≤ 8 by omega) (show pn < pn + 1 by omega) hcov ⟨_, g_6, fun i hi => by by_cases e9 : i = pn; (· rw [e9, va_up_self]); (· rw [va_up_ne _ _ e9, hA2 _ (xJ i (by omega)).1]; exact hpf i (by omega)), fun i h1 h2 => (va_up_ne _ _ (by omega)).trans (hpf0 i (by omega) h2)⟩ hJ hT he h10 hold e11 e12 e13 hv4 (fun i v hi hv9 => (pT i v hi hv9).1.2.2) (by decide)
  have hXF := cF.grow (L1 := ((((((L ++ [100 + pn]) ++ [200 + pn]) ++ [300 + (4 * pn + 0)]) ++ [400 + (4 * pn + 0)]) ++ [500 + (4 * pn + 0)]) ++ [600 + (4 * pn + 0)])) (l10 := (upd (upd (a 10) pn 0) pn (nI (0 + 1)))) (j := pn) (vn := 0) (show pn ≤ pn + 1 by omega) (Nat.le_refl qn) (show pn < pn + 1 by omega) (fun i hi v hv9 => by rw [pk_un (by omega), pk_un (by omega)]; exact hv9) (by omega) (fun r hr => by rcases mem4 hr with h | h | h | h | h; (· rcases mem2 h with h | h | h; (· exact Or.inl h); all_goals exact Or.inr (by omega)); all_goals exact Or.inr (by omega))
  exact ⟨q1, hL, hA2, fun x hx h => fr x hx (by omega) (by omega) (by omega), ⟨fun r hr => hL r (hL0 r hr), g_0⟩, ⟨by rw [nI_0]; exact g_1, db, (fr _ (hL0 _ (by omega)) (by omega) (by omega) (by omega)).trans h_2, fun i hi => absurd hi (by omega)⟩, cR.fr hA0 (fun x h1 h2 => (fr _ (hL0 _ (by omega)) (by omega) (by omega) (by omega))), hXP, cV.fr hA0 (fun x h1 h2 => (fr _ (hL0 _ (by omega)) (by omega) (by omega) (by omega))), cS.fr hA0 (fun x h1 h2 => (fr _ (hL0 _ (by omega)) (by omega) (by omega) (by omega))), cN.fr hA0 (fun x h1 h2 => (fr _ (hL0 _ (by omega)) (by omega) (by omega) (by omega))), cQ.fr hL hA2 (fr _ (hL0 _ (by omega)) (by omega) (by omega) (by omega)) (fun x hx h1 h2 => fr x hx (by omega) (by omega) (by omega)) hq30, cK.fr (fr _ (hL0 _ (by omega)) (by omega) (by omega) (by omega)), hXF⟩
set_option maxHeartbeats 4000000 in
theorem paper_ok_2 (l : Launch) (D : va_G) (ty : Nat → ClassId) {k : Nat} {L : List Nat} {ad : Nat → Nat} {g : Nat → va_E} {a : Nat → FI} {dn pn en qn mz : Nat} {nw lo : Int32} {tr : Int64} {f : Nat} {u : Int32} (hk9 : k < 1000) (hP : PI a dn pn en qn nw k) (hX : RX ty L ad g a dn pn en qn nw lo tr) (hM : RM ty L ad g a dn pn en qn mz nw lo tr) (hf : f < 4) (hd : 0 < dn) (hp : pn < 8) : SimAt Value.int l D ty yX8_paper wsX8_paper 4 85 yX9_paper wsX9_paper 1 23 [.int 2, .int (nI f), .int u] k L ad g a dn pn en qn mz nw lo tr := by
  obtain ⟨⟨hd40, hp8, he200, hq30⟩, pD, pJ, pT, pV, pQ, pK⟩ := id hP
  obtain ⟨cO, cD, cR, cP, cV, cS, cN, cQ, cK, cF⟩ := id hX
  obtain ⟨hL0, h_0⟩ := id cO
  have hv4 : ∀ j, j < pn → nN (a 10 j) ≤ 4 := fun j hj => (pJ j hj).2.2.2.1.2.2
  obtain ⟨⟨pf, h_6, hpf, hpf0⟩, xJ, xT⟩ := id cP
  obtain ⟨h_1, db, h_2, hdb⟩ := id cD
  have tf := nI_toInt (n := f) (by omega)
  obtain ⟨n3, n4, n5, n6⟩ := cF.no hp8 hq30 hv4 hp (show 0 < 4 by decide) (fun h => absurd h (by omega))
  obtain ⟨n1, n2⟩ := cF.noP hp hq30 hv4
  have h10 : nN ((upd (upd (a 10) pn 0) pn (nI (0 + 1))) pn) = 0 + 1 := by rw [pk_us, nN_nI (by omega)]
  have he : ∀ i, i ≠ pn → (upd (a 6) pn 2) i = a 6 i ∧ (upd (a 7) pn (nI f)) i = a 7 i ∧ (upd (a 8) pn (if (2 : Int32) = 1 then u else 0)) i = a 8 i ∧ (upd (a 9) pn 0) i = a 9 i ∧ (upd (upd (a 10) pn 0) pn (nI (0 + 1))) i = a 10 i := fun i hne => ⟨pk_un hne, pk_un hne, pk_un hne, pk_un hne, (pk_un hne).trans (pk_un hne)⟩
  have hold : ∀ v, v < 0 → pn < pn ∧ v < nN (a 10 pn) := fun v h => absurd h (by omega)
  have e11 : ∀ t, t ≠ (4 * pn + 0) → (upd (a 11) (4 * pn + 0) (nI dn)) t = a 11 t := fun t ht => pk_un ht
  have e12 : ∀ x, (x < 40 * (4 * pn + 0) ∨ 40 * (4 * pn + 0) + 40 ≤ x) → (pb (a 12) (a 1) (40 * (4 * pn + 0)) dn) x = a 12 x := fun x hx => pb_out _ _ _ _ _ (by omega)
  have e13 : ∀ x, (x < 40 * (4 * pn + 0) ∨ 40 * (4 * pn + 0) + 40 ≤ x) → (pb (a 13) (fun _ => 0) (40 * (4 * pn + 0)) dn) x = a 13 x := fun x hx => pb_out _ _ _ _ _ (by omega)
  have hcov : ∀ i, i < pn + 1 → i ≠ pn → i < pn := fun i hi _ => by omega
  have hJ2 : PJ (upd (a 6) pn 2) (upd (a 7) pn (nI f)) (upd (a 8) pn (if (2 : Int32) = 1 then u else 0)) (upd (a 9) pn 0) (upd (upd (a 10) pn 0) pn (nI (0 + 1))) pn := by
    unfold PJ
    simp only [pk_us]
    rw [nN_nI (n := f) (by omega), nN_nI (n := 0 + 1) (by omega)]
    exact ⟨Or.inr (Or.inr trivial), ⟨rfl, hf⟩, Or.inl trivial, ⟨rfl, by omega, by omega⟩, fun h => if_neg h⟩
  have hT2 : PT (upd (a 11) (4 * pn + 0) (nI dn)) (pb (a 12) (a 1) (40 * (4 * pn + 0)) dn) (pb (a 13) (fun _ => 0) (40 * (4 * pn + 0)) dn) (4 * pn + 0) := by
    unfold PT
    rw [pk_us, nN_nI (by omega)]
    exact ⟨⟨rfl, by omega, by omega⟩, fun i hi => by rw [pb_in _ _ _ _ _ hi, pb_in _ _ _ _ _ hi]; exact ⟨pD i hi, Or.inl rfl⟩⟩
  obtain ⟨pJ2, pT2⟩ := PP_grow pJ pT hcov hJ2 hT2 he h10 hold e11 e12 e13 (by decide)
  refine sim_C (nI pn) (cmA (ppA a pn 2 (nI f) (if (2 : Int32) = 1 then u else 0)) dn pn 0) 0 (pn + 1) en qn mz nw lo tr (by decide) (by decide) hM (hL0 0 (by decide)) ⟨⟨by omega, by omega, he200, hq30⟩, fun i hi => absurd hi (by omega), pJ2, pT2, pV, fun q hq => by obtain ⟨⟨j, z1, z2⟩, z3⟩ := pQ q hq; exact ⟨⟨j, by omega, z2⟩, z3⟩, pK.next⟩ (c_X_paper_ok2 l D ty L ad g _ _ _ _ _ _ _ _ (100 + pn) (200 + pn) (300 + (4 * pn + 0)) (400 + (4 * pn + 0)) (500 + (4 * pn + 0)) (600 + (4 * pn + 0)) _ hL0 h_0 h_1 h_2 h_6 hf hd hd40 hp n1 n2 n3 n4 n5 n6 (fun q hq => by rw [hdb q hq]; exact i_byte (by have := (pD q hq).1; omega) (by have := (pD q hq).2; omega)) (by omega) (by omega) (by omega) (by omega) (by omega) (by omega) (by omega) (by omega) (by omega) (by omega) (by omega) (by omega) (by omega) (by omega) (by omega) (by omega) (by omega) (by omega) (by omega) (by omega) (by omega)) ?_ (fun L1 ad1 g1 hR9 => c_M_paper_ok l D ty L1 ad1 g1 a dn pn en qn mz nw lo tr _ _ _ hR9 (by decide) (by omega) (fun h => absurd h (by decide)) hd hd40 hp)
  rintro v1 L1 ad1 g1 ⟨q1, rfl, hA, hfr, g_1, g_t, g_ro, g_a, g_bl, g_pt, g_pp, g_6, g_0⟩
  have hL : ∀ x ∈ L, x ∈ ((((((L ++ [100 + pn]) ++ [200 + pn]) ++ [300 + (4 * pn + 0)]) ++ [400 + (4 * pn + 0)]) ++ [500 + (4 * pn + 0)]) ++ [600 + (4 * pn + 0)]) := fun x hx => mem4_of (Or.inl (mem2_of (Or.inl hx)))
  have hA2 : ∀ x ∈ L, ad1 x = ad x := fun x hx => (hA x hx).symm
  have hA0 : ∀ r, r < 30 → ad1 r = ad r := fun r hr => hA2 r (hL0 r hr)
  have fr : ∀ x ∈ L, x ≠ 1 → x ≠ 6 → x ≠ 0 → g1 x = g x := hfr
  have hJ : XJ ty ((((((L ++ [100 + pn]) ++ [200 + pn]) ++ [300 + (4 * pn + 0)]) ++ [400 + (4 * pn + 0)]) ++ [500 + (4 * pn + 0)]) ++ [600 + (4 * pn + 0)]) ad1 g1 (upd (a 6) pn 2) (upd (a 7) pn (nI f)) (upd (a 8) pn (if (2 : Int32) = 1 then u else 0)) (upd (a 9) pn 0) (upd (upd (a 10) pn 0) pn (nI (0 + 1))) pn := by
    unfold XJ
    simp only [pk_us]
    rw [nN_nI (n := f) (by omega), nN_nI (n := 0 + 1) (by omega)]
    refine ⟨mem4_of (Or.inl (mem2_of (Or.inr (Or.inl rfl)))), mem4_of (Or.inl (mem2_of (Or.inr (Or.inr rfl)))), g_pp.trans ?_, _, g_pt, fun v hv9 => ?_, fun v h1 h2 => va_up_ne _ _ (by omega)⟩
    · exact (pcell_2 rfl _ _ _ _ _).symm
    · have e9 : v = 0 := by omega
      rw [e9, va_up_self]; exact ⟨rfl, mem4_of (Or.inr (Or.inl rfl))⟩
  have hT : XT ty ((((((L ++ [100 + pn]) ++ [200 + pn]) ++ [300 + (4 * pn + 0)]) ++ [400 + (4 * pn + 0)]) ++ [500 + (4 * pn + 0)]) ++ [600 + (4 * pn + 0)]) ad1 g1 (upd (a 11) (4 * pn + 0) (nI dn)) (pb (a 12) (a 1) (40 * (4 * pn + 0)) dn) (pb (a 13) (fun _ => 0) (40 * (4 * pn + 0)) dn) (4 * pn + 0) := by
    unfold XT
    rw [pk_us, nN_nI (by omega)]
    refine ⟨⟨mem4_of (Or.inr (Or.inl rfl)), mem4_of (Or.inr (Or.inr (Or.inl rfl))), mem4_of (Or.inr (Or.inr (Or.inr (Or.inl rfl)))), mem4_of (Or.inr (Or.inr (Or.inr (Or.inr rfl))))⟩, g_t, g_ro, _, _, g_a, g_bl, fun i hi => ⟨?_, ?_⟩⟩
    · rw [pb_in _ _ _ _ _ hi, cpf, if_pos hi]; exact hdb i hi
    · rw [pb_in _ _ _ _ _ hi]
  have hXP := cP.grow hL hA2 (fun x hx h1 h2 h3 h4 => fr x hx (by omega) (by omega) (by omega)) (show pn + 1 ≤ 8 by omega) (show pn < pn + 1 by omega) hcov ⟨_, g_6, fun i hi => by by_cases e9 : i = pn; (· rw [e9, va_up_self]); (· rw [va_up_ne _ _ e9, hA2 _ (xJ i (by omega)).1]; exact hpf i (by omega)), fun i h1 h2 => (va_up_ne _ _ (by omega)).trans (hpf0 i (by omega) h2)⟩ hJ hT he h10 hold e11 e12 e13 hv4 (fun i v hi hv9 => (pT i v hi hv9).1.2.2) (by decide)
  have hXF := cF.grow (L1 := ((((((L ++ [100 + pn]) ++ [200 + pn]) ++ [300 + (4 * pn + 0)]) ++ [400 + (4 * pn + 0)]) ++ [500 + (4 * pn + 0)]) ++ [600 + (4 * pn + 0)])) (l10 := (upd (upd (a 10) pn 0) pn (nI (0 + 1)))) (j := pn) (vn := 0) (show pn ≤ pn + 1 by omega) (Nat.le_refl qn) (show pn < pn + 1 by omega) (fun i hi v hv9 => by rw [pk_un (by omega), pk_un (by omega)]; exact hv9) (by omega) (fun r hr => by rcases mem4 hr with h | h | h | h | h; (· rcases mem2 h with h | h | h; (· exact Or.inl h); all_goals exact Or.inr (by omega)); all_goals exact Or.inr (by omega))
  exact ⟨q1, hL, hA2, fun x hx h => fr x hx (by omega) (by omega) (by omega), ⟨fun r hr => hL r (hL0 r hr), g_0⟩, ⟨by rw [nI_0]; exact g_1, db, (fr _ (hL0 _ (by omega)) (by omega) (by omega) (by omega)).trans h_2, fun i hi => absurd hi (by omega)⟩, cR.fr hA0 (fun x h1 h2 => (fr _ (hL0 _ (by omega)) (by omega) (by omega) (by omega))), hXP, cV.fr hA0 (fun x h1 h2 => (fr _ (hL0 _ (by omega)) (by omega) (by omega) (by omega))), cS.fr hA0 (fun x h1 h2 => (fr _ (hL0 _ (by omega)) (by omega) (by omega) (by omega))), cN.fr hA0 (fun x h1 h2 => (fr _ (hL0 _ (by omega)) (by omega) (by omega) (by omega))), cQ.fr hL hA2 (fr _ (hL0 _ (by omega)) (by omega) (by omega) (by omega)) (fun x hx h1 h2 => fr x hx (by omega) (by omega) (by omega)) hq30, cK.fr (fr _ (hL0 _ (by omega)) (by omega) (by omega) (by omega)), hXF⟩
set_option maxHeartbeats 4000000 in
theorem s_paper (l : Launch) (D : va_G) (ty : Nat → ClassId) {k : Nat} {L : List Nat} {ad : Nat → Nat} {g : Nat → va_E} {a : Nat → FI} {dn pn en qn mz : Nat} {nw lo : Int32} {tr : Int64} (k9 f u : Int32) (hk9 : k < 1000) (hP : PI a dn pn en qn nw k) (hX : RX ty L ad g a dn pn en qn nw lo tr) (hM : RM ty L ad g a dn pn en qn mz nw lo tr) : SimAt Value.int l D ty yX8_paper wsX8_paper 4 85 yX9_paper wsX9_paper 1 23 [.int k9, .int f, .int u] k L ad g a dn pn en qn mz nw lo tr := by
  obtain ⟨⟨hd40, hp8, he200, hq30⟩, pD, pJ, pT, pV, pQ, pK⟩ := id hP
  obtain ⟨cO, cD, cR, cP, cV, cS, cN, cQ, cK, cF⟩ := id hX
  obtain ⟨hL0, h_0⟩ := id cO
  have hv4 : ∀ j, j < pn → nN (a 10 j) ≤ 4 := fun j hj => (pJ j hj).2.2.2.1.2.2
  obtain ⟨⟨pf, h_6, hpf, hpf0⟩, xJ, xT⟩ := id cP
  obtain ⟨h_1, db, h_2, hdb⟩ := id cD
  rcases sw k9 with rfl | rfl | rfl | rfl | rfl | rfl | h
  · skip
    rcases ix_n f 4 (by decide) with ⟨f, hf, rfl⟩ | h
    · have tf := nI_toInt (n := f) (by omega)
      by_cases hd : dn = 0
      · exact sim_S (-2) hM hX hP (c_X_paper_state l D ty L ad g _ _ _ _ _ _ _ _ (hL0 0 (by decide)) (hL0 1 (by decide)) h_0 h_1 (by decide) (by omega) (fun h => absurd h (by decide)) hd) (fun L1 ad1 g1 hR9 => c_M_paper_state l D ty L1 ad1 g1 a dn pn en qn mz nw lo tr _ _ _ hR9 (by decide) (by omega) (fun h => absurd h (by decide)) hd)
      · by_cases hp : pn = 8
        · exact sim_S (-3) hM hX hP (c_X_paper_full l D ty L ad g _ _ _ _ _ _ _ _ _ (hL0 0 (by decide)) (hL0 1 (by decide)) (hL0 6 (by decide)) h_0 h_1 h_6 (by decide) (by omega) (fun h => absurd h (by decide)) (by omega) hd40 hp) (fun L1 ad1 g1 hR9 => c_M_paper_full l D ty L1 ad1 g1 a dn pn en qn mz nw lo tr _ _ _ hR9 (by decide) (by omega) (fun h => absurd h (by decide)) (by omega) hd40 hp)
        · exact paper_ok_0 l D ty hk9 hP hX hM hf (by omega) (by omega)
    · exact sim_S (-1) hM hX hP (c_X_paper_2 l D ty L ad g _ _ _ _ _ _ _ (hL0 0 (by decide)) h_0 (by decide) (by omega)) (fun L1 ad1 g1 hR9 => c_M_paper_2 l D ty L1 ad1 g1 a dn pn en qn mz nw lo tr _ _ _ hR9 (by decide) (by omega))
  · skip
    rcases ix_n f 4 (by decide) with ⟨f, hf, rfl⟩ | h
    · have tf := nI_toInt (n := f) (by omega)
      by_cases hu : u.toInt < 0
      · exact sim_S (-1) hM hX hP (c_X_paper_3 l D ty L ad g _ _ _ _ _ _ _ (hL0 0 (by decide)) h_0 (by decide) (by omega) rfl hu) (fun L1 ad1 g1 hR9 => c_M_paper_3 l D ty L1 ad1 g1 a dn pn en qn mz nw lo tr _ _ _ hR9 (by decide) (by omega) rfl hu)
      · skip
        by_cases hd : dn = 0
        · exact sim_S (-2) hM hX hP (c_X_paper_state l D ty L ad g _ _ _ _ _ _ _ _ (hL0 0 (by decide)) (hL0 1 (by decide)) h_0 h_1 (by decide) (by omega) (fun _ => by omega) hd) (fun L1 ad1 g1 hR9 => c_M_paper_state l D ty L1 ad1 g1 a dn pn en qn mz nw lo tr _ _ _ hR9 (by decide) (by omega) (fun _ => by omega) hd)
        · by_cases hp : pn = 8
          · exact sim_S (-3) hM hX hP (c_X_paper_full l D ty L ad g _ _ _ _ _ _ _ _ _ (hL0 0 (by decide)) (hL0 1 (by decide)) (hL0 6 (by decide)) h_0 h_1 h_6 (by decide) (by omega) (fun _ => by omega) (by omega) hd40 hp) (fun L1 ad1 g1 hR9 => c_M_paper_full l D ty L1 ad1 g1 a dn pn en qn mz nw lo tr _ _ _ hR9 (by decide) (by omega) (fun _ => by omega) (by omega) hd40 hp)
          · exact paper_ok_1 l D ty hk9 hP hX hM hf (by omega) (by omega) (by omega)
    · exact sim_S (-1) hM hX hP (c_X_paper_2 l D ty L ad g _ _ _ _ _ _ _ (hL0 0 (by decide)) h_0 (by decide) (by omega)) (fun L1 ad1 g1 hR9 => c_M_paper_2 l D ty L1 ad1 g1 a dn pn en qn mz nw lo tr _ _ _ hR9 (by decide) (by omega))
  · skip
    rcases ix_n f 4 (by decide) with ⟨f, hf, rfl⟩ | h
    · have tf := nI_toInt (n := f) (by omega)
      by_cases hd : dn = 0
      · exact sim_S (-2) hM hX hP (c_X_paper_state l D ty L ad g _ _ _ _ _ _ _ _ (hL0 0 (by decide)) (hL0 1 (by decide)) h_0 h_1 (by decide) (by omega) (fun h => absurd h (by decide)) hd) (fun L1 ad1 g1 hR9 => c_M_paper_state l D ty L1 ad1 g1 a dn pn en qn mz nw lo tr _ _ _ hR9 (by decide) (by omega) (fun h => absurd h (by decide)) hd)
      · by_cases hp : pn = 8
        · exact sim_S (-3) hM hX hP (c_X_paper_full l D ty L ad g _ _ _ _ _ _ _ _ _ (hL0 0 (by decide)) (hL0 1 (by decide)) (hL0 6 (by decide)) h_0 h_1 h_6 (by decide) (by omega) (fun h => absurd h (by decide)) (by omega) hd40 hp) (fun L1 ad1 g1 hR9 => c_M_paper_full l D ty L1 ad1 g1 a dn pn en qn mz nw lo tr _ _ _ hR9 (by decide) (by omega) (fun h => absurd h (by decide)) (by omega) hd40 hp)
        · exact paper_ok_2 l D ty hk9 hP hX hM hf (by omega) (by omega)
    · exact sim_S (-1) hM hX hP (c_X_paper_2 l D ty L ad g _ _ _ _ _ _ _ (hL0 0 (by decide)) h_0 (by decide) (by omega)) (fun L1 ad1 g1 hR9 => c_M_paper_2 l D ty L1 ad1 g1 a dn pn en qn mz nw lo tr _ _ _ hR9 (by decide) (by omega))
  · skip
    exact sim_S (-1) hM hX hP (c_X_paper_1 l D ty L ad g _ _ _ _ _ _ _ (hL0 0 (by decide)) h_0 (by decide)) (fun L1 ad1 g1 hR9 => c_M_paper_1 l D ty L1 ad1 g1 a dn pn en qn mz nw lo tr _ _ _ hR9 (by decide))
  · skip
    exact sim_S (-1) hM hX hP (c_X_paper_1 l D ty L ad g _ _ _ _ _ _ _ (hL0 0 (by decide)) h_0 (by decide)) (fun L1 ad1 g1 hR9 => c_M_paper_1 l D ty L1 ad1 g1 a dn pn en qn mz nw lo tr _ _ _ hR9 (by decide))
  · skip
    exact sim_S (-1) hM hX hP (c_X_paper_1 l D ty L ad g _ _ _ _ _ _ _ (hL0 0 (by decide)) h_0 (by decide)) (fun L1 ad1 g1 hR9 => c_M_paper_1 l D ty L1 ad1 g1 a dn pn en qn mz nw lo tr _ _ _ hR9 (by decide))
  · skip
    exact sim_S (-1) hM hX hP (c_X_paper_1 l D ty L ad g _ _ _ _ _ _ _ (hL0 0 (by decide)) h_0 (by omega)) (fun L1 ad1 g1 hR9 => c_M_paper_1 l D ty L1 ad1 g1 a dn pn en qn mz nw lo tr _ _ _ hR9 (by omega))
