abbrev mzF (bs bk bs2 : Nat → Int32) (n2 k : Nat) : Bool := mz bs bk bs2 n2 k
set_option maxHeartbeats 4000000 in
theorem s_search (l : Launch) (D : va_G) (ty : Nat → ClassId) {k : Nat} {L : List Nat} {ad : Nat → Nat} {g : Nat → va_E} {a : Nat → FI} {dn pn en qn mz : Nat} {nw lo : Int32} {tr : Int64} (i : Int32) (hk9 : k < 1000) (hP : PI a dn pn en qn nw k) (hX : RX ty L ad g a dn pn en qn nw lo tr) (hM : RM ty L ad g a dn pn en qn mz nw lo tr) : SimAt Value.int l D ty yX8_search wsX8_search 6 136 yX9_search wsX9_search 2 42 [.int i] k L ad g a dn pn en qn mz nw lo tr := by
  obtain ⟨⟨hd40, hp8, he200, hq30⟩, pD, pJ, pT, pV, pQ, pK⟩ := id hP
  obtain ⟨cO, cD, cR, cP, cV, cS, cN, cQ, cK, cF⟩ := id hX
  obtain ⟨hL0, h_0⟩ := id cO
  have hv4 : ∀ j, j < pn → nN (a 10 j) ≤ 4 := fun j hj => (pJ j hj).2.2.2.1.2.2
  obtain ⟨⟨pf, h_6, hpf, hpf0⟩, xJ, xT⟩ := id cP
  obtain ⟨h_3, h_4, h_5⟩ := id cR
  obtain ⟨h_1, db, h_2, hdb⟩ := id cD
  rcases ix_n i 6 (by decide) with ⟨b, hb6, rfl⟩ | hb
  · skip
    by_cases hd : 1 ≤ dn ∧ dn ≤ 20
    · have hsz9 : ∀ j, j < pn → a 11 (4 * j + nN (a 10 j) - 1) = nI (nN (a 11 (4 * j + nN (a 10 j) - 1))) ∧ nN (a 11 (4 * j + nN (a 10 j) - 1)) ≤ 40 := by
        intro j hj
        have h1 := (pJ j hj).2.2.2.1.2.1
        rw [show 4 * j + nN (a 10 j) - 1 = 4 * j + (nN (a 10 j) - 1) by omega]
        have h2 := (pT j (nN (a 10 j) - 1) hj (by omega)).1
        exact ⟨h2.1, h2.2.2⟩
      refine sim_S (nI (cnt (fndB a dn nw (fun j => nN (a 10 j)) (fun t => nN (a 11 t)) (fun j => nN (a 7 j)) b) pn)) hM hX hP (c_X_search_ok l D ty L ad g _ _ _ _ _ _ _ (fndB a dn nw (fun j => nN (a 10 j)) (fun t => nN (a 11 t)) (fun j => nN (a 7 j)) b) (hL0 0 (by decide)) (hL0 1 (by decide)) (hL0 6 (by decide)) h_0 h_1 h_6 hb6 hp8 hd.1 hd.2 ?_) (fun L1 ad1 g1 hR9 => c_M_search_ok l D ty L1 ad1 g1 a dn pn en qn mz nw lo tr _ (fun j => nN (a 10 j)) (fun t => nN (a 11 t)) (fun j => nN (a 7 j)) hR9 hb6 hp8 hd.1 hd.2 (fun j hj => (pJ j hj).2.2.2.1) (fun j hj => hsz9 j hj) (fun j hj => ⟨(pJ j hj).2.1.1, (pJ j hj).2.1.2, (pJ j hj).2.2.1⟩))
      intro j hj
      obtain ⟨mpp, mpt, hpp0, tf, h_pt, htf, htf0⟩ := xJ j hj
      obtain ⟨hkd, ⟨ef, hf4⟩, hwd, ⟨ev, hv1, hv4j⟩, hlg⟩ := pJ j hj
      have hu : nN (a 10 j) - 1 < nN (a 10 j) := by omega
      obtain ⟨⟨m_t, m_ro, m_a, m_bl⟩, h_t, h_ro, bs, bk, h_a, h_bl, hbb⟩ := xT j (nN (a 10 j) - 1) hj hu
      obtain ⟨⟨es, hs1, hs40⟩, hby⟩ := pT j (nN (a 10 j) - 1) hj hu
      have e9 : 4 * j + nN (a 10 j) - 1 = 4 * j + (nN (a 10 j) - 1) := by omega
      have hF : fndB a dn nw (fun j => nN (a 10 j)) (fun t => nN (a 11 t)) (fun j => nN (a 7 j)) b j = (seeB (a 6 j) (a 9 j) (a 8 j) (a 3) (a 4) (b % 3 * 4 + nN (a 7 j)) nw && mzF bs bk db dn (nN (a 11 (4 * j + (nN (a 10 j) - 1))) + 1 - dn)) := by
        unfold fndB hasB
        dsimp only
        rw [e9, mw_mz _ _ _ _ _ hd.1, Bool.and_comm]
        congr 1
        exact (mz_cg (n := nN (a 11 (4 * j + (nN (a 10 j) - 1)))) (fun i hi => ⟨(hbb i hi).1, (hbb i hi).2⟩) hdb (nN (a 11 (4 * j + (nN (a 10 j) - 1))) + 1 - dn) (by omega)).symm
      refine ⟨_, hpf j hj, ?_⟩
      rcases hkd with hk | hk | hk
      · skip
        have hc := hpp0.trans (pcell_0 hk _ _ _ _ _)
        rw [hF, see_0 hk]
        exact c_X_found2 l D ty L ad g _ _ _ _ _ _ _ _ _ _ _ _ _ _ _ _ _ _ _ _ _ _ (hL0 0 (by decide)) (hL0 1 (by decide)) (hL0 2 (by decide)) (hL0 3 (by decide)) (hL0 4 (by decide)) (hL0 5 (by decide)) mpp mpt m_t m_ro m_a m_bl h_0 h_1 h_2 h_3 h_4 h_5 hc h_pt h_t h_ro h_a h_bl hb6 hf4 hwd hv1 hv4j (htf _ hu).1 hs40 hd.1 hd40 (fun i hi => by rw [(hbb i hi).2]; exact (hby i hi).2)
      · skip
        have hc := hpp0.trans (pcell_1 hk _ _ _ _ _)
        rw [hF, see_1 hk]
        exact c_X_found0 l D ty L ad g _ _ _ _ _ _ _ _ _ _ _ _ _ _ _ _ _ _ _ _ _ _ _ (hL0 0 (by decide)) (hL0 1 (by decide)) (hL0 2 (by decide)) (hL0 3 (by decide)) (hL0 4 (by decide)) (hL0 5 (by decide)) mpp mpt m_t m_ro m_a m_bl h_0 h_1 h_2 h_3 h_4 h_5 hc h_pt h_t h_ro h_a h_bl hb6 hf4 hwd hv1 hv4j (htf _ hu).1 hs40 hd.1 hd40 (fun i hi => by rw [(hbb i hi).2]; exact (hby i hi).2)
      · skip
        have hc := hpp0.trans (pcell_2 hk _ _ _ _ _)
        rw [hF, see_2 hk]
        exact c_X_found1 l D ty L ad g _ _ _ _ _ _ _ _ _ _ _ _ _ _ _ _ _ _ _ _ _ _ (hL0 0 (by decide)) (hL0 1 (by decide)) (hL0 2 (by decide)) (hL0 3 (by decide)) (hL0 4 (by decide)) (hL0 5 (by decide)) mpp mpt m_t m_ro m_a m_bl h_0 h_1 h_2 h_3 h_4 h_5 hc h_pt h_t h_ro h_a h_bl hb6 hf4 hwd hv1 hv4j (htf _ hu).1 hs40 hd.1 hd40 (fun i hi => by rw [(hbb i hi).2]; exact (hby i hi).2)
    · by_cases hd0 : dn = 0
      · exact sim_S (-2) hM hX hP (c_X_search_s1 l D ty L ad g _ _ _ _ _ _ (hL0 0 (by decide)) (hL0 1 (by decide)) h_0 h_1 hb6 hd0) (fun L1 ad1 g1 hR9 => c_M_search_state l D ty L1 ad1 g1 a dn pn en qn mz nw lo tr _ hR9 hb6 hd hd40)
      · exact sim_S (-2) hM hX hP (c_X_search_s2 l D ty L ad g _ _ _ _ _ _ (hL0 0 (by decide)) (hL0 1 (by decide)) h_0 h_1 hb6 (by omega) hd40) (fun L1 ad1 g1 hR9 => c_M_search_state l D ty L1 ad1 g1 a dn pn en qn mz nw lo tr _ hR9 hb6 hd hd40)
  · skip
    exact sim_S (-1) hM hX hP (c_X_search_bad l D ty L ad g _ _ _ _ _ (hL0 0 (by decide)) h_0 (by omega)) (fun L1 ad1 g1 hR9 => c_M_search_bad l D ty L1 ad1 g1 a dn pn en qn mz nw lo tr _ hR9 (by omega))
set_option maxHeartbeats 4000000 in
theorem s_named (l : Launch) (D : va_G) (ty : Nat → ClassId) {k : Nat} {L : List Nat} {ad : Nat → Nat} {g : Nat → va_E} {a : Nat → FI} {dn pn en qn mz : Nat} {nw lo : Int32} {tr : Int64} (i v : Int32) (hk9 : k < 1000) (hP : PI a dn pn en qn nw k) (hX : RX ty L ad g a dn pn en qn nw lo tr) (hM : RM ty L ad g a dn pn en qn mz nw lo tr) : SimAt Value.int l D ty yX8_named wsX8_named 4 89 yX9_named wsX9_named 3 65 [.int i, .int v] k L ad g a dn pn en qn mz nw lo tr := by
  obtain ⟨⟨hd40, hp8, he200, hq30⟩, pD, pJ, pT, pV, pQ, pK⟩ := id hP
  obtain ⟨cO, cD, cR, cP, cV, cS, cN, cQ, cK, cF⟩ := id hX
  obtain ⟨hL0, h_0⟩ := id cO
  have hv4 : ∀ j, j < pn → nN (a 10 j) ≤ 4 := fun j hj => (pJ j hj).2.2.2.1.2.2
  obtain ⟨⟨pf, h_6, hpf, hpf0⟩, xJ, xT⟩ := id cP
  obtain ⟨h_1, db, h_2, hdb⟩ := id cD
  obtain ⟨sl, sb, h_20, h_21⟩ := id cS
  rcases ix_p i hp8 (by decide) with ⟨j, hj, rfl⟩ | ⟨j, h1, h2, rfl, h3⟩ | ⟨h2, h3⟩
  · skip
    obtain ⟨mpp, mpt, hpp0, tf, h_pt, htf, htf0⟩ := xJ j hj
    obtain ⟨hkd, ⟨ef, hf4⟩, hwd, ⟨ev, hv1, hv4j⟩, hlg⟩ := pJ j hj
    rcases hkd with hk | hk | hk
    · skip
      have hc := hpp0.trans (pcell_0 hk _ _ _ _ _)
      rcases ix_p v hv4j (by decide) with ⟨u, hu, rfl⟩ | ⟨u, h4, h5, rfl, h6⟩ | ⟨h5, h6⟩
      · skip
        exact sim_S (-1) hM hX hP (c_X_named2_k l D ty L ad g _ _ _ _ _ _ _ _ _ _ _ _ _ _ (hL0 0 (by decide)) (hL0 6 (by decide)) mpp mpt h_0 h_6 hc h_pt (by omega) (hpf j hj) (by omega) (htf u hu).1) (fun L1 ad1 g1 hR9 => c_M_named_k l D ty L1 ad1 g1 a dn pn en qn mz nw lo tr _ _ _ hR9 hj hp8 ev hv4j hu (by rw [hk]; decide))
      · skip
        exact sim_S (-1) hM hX hP (c_X_named2_n l D ty L ad g _ _ _ _ _ _ _ _ _ _ _ _ _ (hL0 0 (by decide)) (hL0 6 (by decide)) mpp mpt h_0 h_6 hc h_pt (by omega) (hpf j hj) h5 (htf0 u h4 h5)) (fun L1 ad1 g1 hR9 => c_M_named_v l D ty L1 ad1 g1 a dn pn en qn mz nw lo tr _ _ _ hR9 hj hp8 ev hv4j h6)
      · skip
        exact sim_S (-1) hM hX hP (c_X_named2_b l D ty L ad g _ _ _ _ _ _ _ _ _ _ _ _ _ (hL0 0 (by decide)) (hL0 6 (by decide)) mpp mpt h_0 h_6 hc h_pt (by omega) (hpf j hj) (by omega)) (fun L1 ad1 g1 hR9 => c_M_named_v l D ty L1 ad1 g1 a dn pn en qn mz nw lo tr _ _ _ hR9 hj hp8 ev hv4j h6)
    · skip
      have hc := hpp0.trans (pcell_1 hk _ _ _ _ _)
      rcases ix_p v hv4j (by decide) with ⟨u, hu, rfl⟩ | ⟨u, h4, h5, rfl, h6⟩ | ⟨h5, h6⟩
      · skip
        exact sim_S (-1) hM hX hP (c_X_named0_k l D ty L ad g _ _ _ _ _ _ _ _ _ _ _ _ _ _ _ (hL0 0 (by decide)) (hL0 6 (by decide)) mpp mpt h_0 h_6 hc h_pt (by omega) (hpf j hj) (by omega) (htf u hu).1) (fun L1 ad1 g1 hR9 => c_M_named_k l D ty L1 ad1 g1 a dn pn en qn mz nw lo tr _ _ _ hR9 hj hp8 ev hv4j hu (by rw [hk]; decide))
      · skip
        exact sim_S (-1) hM hX hP (c_X_named0_n l D ty L ad g _ _ _ _ _ _ _ _ _ _ _ _ _ _ (hL0 0 (by decide)) (hL0 6 (by decide)) mpp mpt h_0 h_6 hc h_pt (by omega) (hpf j hj) h5 (htf0 u h4 h5)) (fun L1 ad1 g1 hR9 => c_M_named_v l D ty L1 ad1 g1 a dn pn en qn mz nw lo tr _ _ _ hR9 hj hp8 ev hv4j h6)
      · skip
        exact sim_S (-1) hM hX hP (c_X_named0_b l D ty L ad g _ _ _ _ _ _ _ _ _ _ _ _ _ _ (hL0 0 (by decide)) (hL0 6 (by decide)) mpp mpt h_0 h_6 hc h_pt (by omega) (hpf j hj) (by omega)) (fun L1 ad1 g1 hR9 => c_M_named_v l D ty L1 ad1 g1 a dn pn en qn mz nw lo tr _ _ _ hR9 hj hp8 ev hv4j h6)
    · skip
      have hc := hpp0.trans (pcell_2 hk _ _ _ _ _)
      rcases ix_p v hv4j (by decide) with ⟨u, hu, rfl⟩ | ⟨u, h4, h5, rfl, h6⟩ | ⟨h5, h6⟩
      · skip
        obtain ⟨⟨m_t, m_ro, m_a, m_bl⟩, h_t, h_ro, bs, bk, h_a, h_bl, hbb⟩ := xT j u hj hu
        obtain ⟨⟨es, hs1, hs40⟩, hby⟩ := pT j u hj hu
        by_cases hd : dn = 0
        · exact sim_S (-2) hM hX hP (c_X_named1_state l D ty L ad g _ _ _ _ _ _ _ _ _ _ _ _ _ _ _ (hL0 0 (by decide)) (hL0 6 (by decide)) mpp mpt (hL0 1 (by decide)) h_0 h_6 hc h_pt h_1 (by omega) (hpf j hj) (by omega) (htf u hu).1 hd) (fun L1 ad1 g1 hR9 => c_M_named_state l D ty L1 ad1 g1 a dn pn en qn mz nw lo tr _ _ _ hR9 hj hp8 ev hv4j hu hk hd)
        · refine ⟨nmR (fun i => pl (a 12 (40 * (4 * j + u) + i)) (a 13 (40 * (4 * j + u) + i))) (a 1) (nN (a 11 (4 * j + u))) dn 6, a, dn, pn, en, qn, nw, lo, tr, 0, 0, by decide, by decide, hP.next, m_C.weak (c_X_named_ok l D ty L ad g _ _ _ _ _ _ _ _ _ _ _ _ _ _ _ _ _ _ _ _ _ _ _ _ (fun i => pl (a 12 (40 * (4 * j + u) + i)) (a 13 (40 * (4 * j + u) + i))) (hL0 0 (by decide)) (hL0 1 (by decide)) (hL0 2 (by decide)) (hL0 6 (by decide)) (hL0 20 (by decide)) (hL0 21 (by decide)) mpp mpt m_t m_ro m_a m_bl h_0 h_1 h_2 h_6 h_20 h_21 hc h_pt h_t h_ro h_a h_bl (by omega) (hpf j hj) (by omega) (htf u hu).1 (by omega) hd40 hs40 (fun i hi => by rw [(hbb i hi).2]; exact (hby i hi).2) (fun i hi => by rw [(hbb i hi).1, (hbb i hi).2]) (fun i hi => pl_8 (hby i hi).1.1 (hby i hi).1.2) (by omega) (by omega) (by omega) (by omega) (by omega) (by omega)) ?_, fun L1 ad1 g1 hX1 hR9 => m_C.weak (c_M_named_ok l D ty L1 ad1 g1 a dn pn en qn mz nw lo tr _ _ _ _ (fun i => pl (a 12 (40 * (4 * j + u) + i)) (a 13 (40 * (4 * j + u) + i))) hR9 hj hp8 ev hv4j hu hk (by omega) hd40 es hs40 (fun _ _ => rfl)) ?_⟩
          · rintro v1 L1 ad1 g1 ⟨q1, rfl, rfl, q4, hh, mk, q5, q6⟩
            refine ⟨by rw [q1, nmR_cg hdb 6], rfl, rfl, ?_, RM_fr hM (fun _ h => h) (fun _ _ => rfl) (fun x _ h => q4 x (by omega) (by omega))⟩
            have hq : ∀ x, x ≠ 20 → x ≠ 21 → g1 x = g x := q4
            exact ⟨cO.fr hL0 (fun _ _ => rfl) (hq _ (by omega) (by omega)), cD.fr (fun _ _ => rfl) (fun x h1 h2 => (hq _ (by omega) (by omega))), cR.fr (fun _ _ => rfl) (fun x h1 h2 => (hq _ (by omega) (by omega))), cP.fr (fun _ h => h) (fun _ _ => rfl) (hq _ (by omega) (by omega)) (fun x _ h1 h2 => (hq _ (by omega) (by omega))) hp8 hv4, cV.fr (fun _ _ => rfl) (fun x h1 h2 => (hq _ (by omega) (by omega))), ⟨mk, hh, q5, q6⟩, cN.fr (fun _ _ => rfl) (fun x h1 h2 => (hq _ (by omega) (by omega))), cQ.fr (fun _ h => h) (fun _ _ => rfl) (hq _ (by omega) (by omega)) (fun x _ h1 h2 => (hq _ (by omega) (by omega))) hq30, cK.fr (hq _ (by omega) (by omega)), cF⟩
          · rintro v1 L2 ad2 g2 ⟨q1, rfl, rfl, q4, hh, mk, q5⟩
            exact ⟨q1, rfl, rfl, hh, mk, hX1.hi hP q4, q5⟩
      · skip
        exact sim_S (-1) hM hX hP (c_X_named1_n l D ty L ad g _ _ _ _ _ _ _ _ _ _ _ _ _ (hL0 0 (by decide)) (hL0 6 (by decide)) mpp mpt h_0 h_6 hc h_pt (by omega) (hpf j hj) h5 (htf0 u h4 h5)) (fun L1 ad1 g1 hR9 => c_M_named_v l D ty L1 ad1 g1 a dn pn en qn mz nw lo tr _ _ _ hR9 hj hp8 ev hv4j h6)
      · skip
        exact sim_S (-1) hM hX hP (c_X_named1_b l D ty L ad g _ _ _ _ _ _ _ _ _ _ _ _ _ (hL0 0 (by decide)) (hL0 6 (by decide)) mpp mpt h_0 h_6 hc h_pt (by omega) (hpf j hj) (by omega)) (fun L1 ad1 g1 hR9 => c_M_named_v l D ty L1 ad1 g1 a dn pn en qn mz nw lo tr _ _ _ hR9 hj hp8 ev hv4j h6)
  · skip
    exact sim_S (-1) hM hX hP (c_X_named_none l D ty L ad g _ _ _ _ _ _ _ (hL0 0 (by decide)) (hL0 6 (by decide)) h_0 h_6 h2 (hpf0 j h1 h2)) (fun L1 ad1 g1 hR9 => c_M_named_p l D ty L1 ad1 g1 a dn pn en qn mz nw lo tr _ _ hR9 h3 hp8)
  · skip
    exact sim_S (-1) hM hX hP (c_X_named_bad l D ty L ad g _ _ _ _ _ _ _ (hL0 0 (by decide)) (hL0 6 (by decide)) h_0 h_6 (by omega)) (fun L1 ad1 g1 hR9 => c_M_named_p l D ty L1 ad1 g1 a dn pn en qn mz nw lo tr _ _ hR9 h3 hp8)
