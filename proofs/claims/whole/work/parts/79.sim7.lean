set_option maxHeartbeats 4000000 in
theorem s_read (l : Launch) (D : va_G) (ty : Nat → ClassId) {k : Nat} {L : List Nat} {ad : Nat → Nat} {g : Nat → va_E} {a : Nat → FI} {dn pn en qn mz : Nat} {nw lo : Int32} {tr : Int64} (i1 i v : Int32) (hk9 : k < 1000) (hP : PI a dn pn en qn nw k) (hX : RX ty L ad g a dn pn en qn nw lo tr) (hM : RM ty L ad g a dn pn en qn mz nw lo tr) : SimAt Value.int l D ty yX8_read wsX8_read 5 113 yX9_read wsX9_read 3 65 [.int i1, .int i, .int v] k L ad g a dn pn en qn mz nw lo tr := by
  obtain ⟨⟨hd40, hp8, he200, hq30⟩, pD, pJ, pT, pV, pQ, pK⟩ := id hP
  obtain ⟨cO, cD, cR, cP, cV, cS, cN, cQ, cK, cF⟩ := id hX
  obtain ⟨hL0, h_0⟩ := id cO
  have hv4 : ∀ j, j < pn → nN (a 10 j) ≤ 4 := fun j hj => (pJ j hj).2.2.2.1.2.2
  obtain ⟨⟨pf, h_6, hpf, hpf0⟩, xJ, xT⟩ := id cP
  obtain ⟨h_3, h_4, h_5⟩ := id cR
  obtain ⟨⟨vf, h_7, hvf⟩, xV⟩ := id cV
  rcases ix_n i1 6 (by decide) with ⟨b, hb6, rfl⟩ | hb
  · skip
    obtain ⟨h_r, bs0, h_ra, hbs0⟩ := xV b hb6
    rcases ix_p i hp8 (by decide) with ⟨j, hj, rfl⟩ | ⟨j, h1, h2, rfl, h3⟩ | ⟨h2, h3⟩
    · skip
      obtain ⟨mpp, mpt, hpp0, tf, h_pt, htf, htf0⟩ := xJ j hj
      obtain ⟨hkd, ⟨ef, hf4⟩, hwd, ⟨ev, hv1, hv4j⟩, hlg⟩ := pJ j hj
      rcases hkd with hk | hk | hk
      · skip
        have hc := hpp0.trans (pcell_0 hk _ _ _ _ _)
        rcases ix_p v hv4j (by decide) with ⟨u, hu, rfl⟩ | ⟨u, h4, h5, rfl, h6⟩ | ⟨h5, h6⟩
        · skip
          obtain ⟨⟨m_t, m_ro, m_a, m_bl⟩, h_t, h_ro, bs, bk, h_a, h_bl, hbb⟩ := xT j u hj hu
          obtain ⟨⟨es, hs1, hs40⟩, hby⟩ := pT j u hj hu
          rcases bool2 (seeB (a 6 j) (a 9 j) (a 8 j) (a 3) (a 4) (b % 3 * 4 + nN (a 7 j)) nw) with hs | hs
          · by_cases hen : en = 200
            · exact read_full_0 l D ty hk9 hP hX hM hb6 hj hk hu hs hen
            · by_cases he0 : en = 0
              · exact read_ok0_0 l D ty hk9 hP hX hM hb6 hj hk hu hs he0 (by omega)
              · exact read_ok1_0 l D ty hk9 hP hX hM hb6 hj hk hu hs (by omega) (by omega)
          · have hs2 := (see_0 hk _ _ _ _ _ _).symm.trans hs
            exact sim_S (-4) hM hX hP (c_X_read2_no l D ty L ad g _ _ _ _ _ _ _ _ _ _ _ _ _ _ _ _ _ _ _ _ _ _ _ _ _ _ _ _ (hL0 0 (by decide)) (hL0 3 (by decide)) (hL0 4 (by decide)) (hL0 5 (by decide)) (hL0 6 (by decide)) (hL0 7 (by decide)) (hL0 (8 + b) (by omega)) (hL0 (14 + b) (by omega)) mpp mpt m_t m_ro m_a m_bl h_0 h_3 h_4 h_5 h_6 h_7 h_r h_ra hc h_pt h_t h_ro h_a h_bl hb6 (hvf b hb6) (by omega) (hpf j hj) (by omega) (htf u hu).1 hf4 hwd hs2) (fun L1 ad1 g1 hR9 => c_M_read_no l D ty L1 ad1 g1 a dn pn en qn mz nw lo tr _ _ _ _ _ hR9 hj hp8 ev hv4j hu hb6 ef hf4 hwd hs)
        · skip
          exact sim_S (-1) hM hX hP (c_X_read2_n l D ty L ad g _ _ _ _ _ _ _ _ _ _ _ _ _ _ _ _ _ _ _ (hL0 0 (by decide)) (hL0 6 (by decide)) (hL0 7 (by decide)) (hL0 (8 + b) (by omega)) (hL0 (14 + b) (by omega)) mpp mpt h_0 h_6 h_7 h_r h_ra hc h_pt hb6 (hvf b hb6) (by omega) (hpf j hj) h5 (htf0 u h4 h5)) (fun L1 ad1 g1 hR9 => c_M_read_b3 l D ty L1 ad1 g1 a dn pn en qn mz nw lo tr _ _ _ _ hR9 hb6 hj hp8 ev hv4j h6)
        · skip
          exact sim_S (-1) hM hX hP (c_X_read2_b l D ty L ad g _ _ _ _ _ _ _ _ _ _ _ _ _ _ _ _ _ _ _ (hL0 0 (by decide)) (hL0 6 (by decide)) (hL0 7 (by decide)) (hL0 (8 + b) (by omega)) (hL0 (14 + b) (by omega)) mpp mpt h_0 h_6 h_7 h_r h_ra hc h_pt hb6 (hvf b hb6) (by omega) (hpf j hj) (by omega)) (fun L1 ad1 g1 hR9 => c_M_read_b3 l D ty L1 ad1 g1 a dn pn en qn mz nw lo tr _ _ _ _ hR9 hb6 hj hp8 ev hv4j h6)
      · skip
        have hc := hpp0.trans (pcell_1 hk _ _ _ _ _)
        rcases ix_p v hv4j (by decide) with ⟨u, hu, rfl⟩ | ⟨u, h4, h5, rfl, h6⟩ | ⟨h5, h6⟩
        · skip
          obtain ⟨⟨m_t, m_ro, m_a, m_bl⟩, h_t, h_ro, bs, bk, h_a, h_bl, hbb⟩ := xT j u hj hu
          obtain ⟨⟨es, hs1, hs40⟩, hby⟩ := pT j u hj hu
          rcases bool2 (seeB (a 6 j) (a 9 j) (a 8 j) (a 3) (a 4) (b % 3 * 4 + nN (a 7 j)) nw) with hs | hs
          · by_cases hen : en = 200
            · exact read_full_1 l D ty hk9 hP hX hM hb6 hj hk hu hs hen
            · by_cases he0 : en = 0
              · exact read_ok0_1 l D ty hk9 hP hX hM hb6 hj hk hu hs he0 (by omega)
              · exact read_ok1_1 l D ty hk9 hP hX hM hb6 hj hk hu hs (by omega) (by omega)
          · have hs2 := (see_1 hk _ _ _ _ _ _).symm.trans hs
            exact sim_S (-4) hM hX hP (c_X_read0_no l D ty L ad g _ _ _ _ _ _ _ _ _ _ _ _ _ _ _ _ _ _ _ _ _ _ _ _ _ _ _ _ _ (hL0 0 (by decide)) (hL0 3 (by decide)) (hL0 4 (by decide)) (hL0 5 (by decide)) (hL0 6 (by decide)) (hL0 7 (by decide)) (hL0 (8 + b) (by omega)) (hL0 (14 + b) (by omega)) mpp mpt m_t m_ro m_a m_bl h_0 h_3 h_4 h_5 h_6 h_7 h_r h_ra hc h_pt h_t h_ro h_a h_bl hb6 (hvf b hb6) (by omega) (hpf j hj) (by omega) (htf u hu).1 hf4 hwd hs2) (fun L1 ad1 g1 hR9 => c_M_read_no l D ty L1 ad1 g1 a dn pn en qn mz nw lo tr _ _ _ _ _ hR9 hj hp8 ev hv4j hu hb6 ef hf4 hwd hs)
        · skip
          exact sim_S (-1) hM hX hP (c_X_read0_n l D ty L ad g _ _ _ _ _ _ _ _ _ _ _ _ _ _ _ _ _ _ _ _ (hL0 0 (by decide)) (hL0 6 (by decide)) (hL0 7 (by decide)) (hL0 (8 + b) (by omega)) (hL0 (14 + b) (by omega)) mpp mpt h_0 h_6 h_7 h_r h_ra hc h_pt hb6 (hvf b hb6) (by omega) (hpf j hj) h5 (htf0 u h4 h5)) (fun L1 ad1 g1 hR9 => c_M_read_b3 l D ty L1 ad1 g1 a dn pn en qn mz nw lo tr _ _ _ _ hR9 hb6 hj hp8 ev hv4j h6)
        · skip
          exact sim_S (-1) hM hX hP (c_X_read0_b l D ty L ad g _ _ _ _ _ _ _ _ _ _ _ _ _ _ _ _ _ _ _ _ (hL0 0 (by decide)) (hL0 6 (by decide)) (hL0 7 (by decide)) (hL0 (8 + b) (by omega)) (hL0 (14 + b) (by omega)) mpp mpt h_0 h_6 h_7 h_r h_ra hc h_pt hb6 (hvf b hb6) (by omega) (hpf j hj) (by omega)) (fun L1 ad1 g1 hR9 => c_M_read_b3 l D ty L1 ad1 g1 a dn pn en qn mz nw lo tr _ _ _ _ hR9 hb6 hj hp8 ev hv4j h6)
      · skip
        have hc := hpp0.trans (pcell_2 hk _ _ _ _ _)
        rcases ix_p v hv4j (by decide) with ⟨u, hu, rfl⟩ | ⟨u, h4, h5, rfl, h6⟩ | ⟨h5, h6⟩
        · skip
          obtain ⟨⟨m_t, m_ro, m_a, m_bl⟩, h_t, h_ro, bs, bk, h_a, h_bl, hbb⟩ := xT j u hj hu
          obtain ⟨⟨es, hs1, hs40⟩, hby⟩ := pT j u hj hu
          rcases bool2 (seeB (a 6 j) (a 9 j) (a 8 j) (a 3) (a 4) (b % 3 * 4 + nN (a 7 j)) nw) with hs | hs
          · by_cases hen : en = 200
            · exact read_full_2 l D ty hk9 hP hX hM hb6 hj hk hu hs hen
            · by_cases he0 : en = 0
              · exact read_ok0_2 l D ty hk9 hP hX hM hb6 hj hk hu hs he0 (by omega)
              · exact read_ok1_2 l D ty hk9 hP hX hM hb6 hj hk hu hs (by omega) (by omega)
          · have hs2 := (see_2 hk _ _ _ _ _ _).symm.trans hs
            exact sim_S (-4) hM hX hP (c_X_read1_no l D ty L ad g _ _ _ _ _ _ _ _ _ _ _ _ _ _ _ _ _ _ _ _ _ _ _ _ _ _ _ _ (hL0 0 (by decide)) (hL0 3 (by decide)) (hL0 4 (by decide)) (hL0 5 (by decide)) (hL0 6 (by decide)) (hL0 7 (by decide)) (hL0 (8 + b) (by omega)) (hL0 (14 + b) (by omega)) mpp mpt m_t m_ro m_a m_bl h_0 h_3 h_4 h_5 h_6 h_7 h_r h_ra hc h_pt h_t h_ro h_a h_bl hb6 (hvf b hb6) (by omega) (hpf j hj) (by omega) (htf u hu).1 hf4 hwd hs2) (fun L1 ad1 g1 hR9 => c_M_read_no l D ty L1 ad1 g1 a dn pn en qn mz nw lo tr _ _ _ _ _ hR9 hj hp8 ev hv4j hu hb6 ef hf4 hwd hs)
        · skip
          exact sim_S (-1) hM hX hP (c_X_read1_n l D ty L ad g _ _ _ _ _ _ _ _ _ _ _ _ _ _ _ _ _ _ _ (hL0 0 (by decide)) (hL0 6 (by decide)) (hL0 7 (by decide)) (hL0 (8 + b) (by omega)) (hL0 (14 + b) (by omega)) mpp mpt h_0 h_6 h_7 h_r h_ra hc h_pt hb6 (hvf b hb6) (by omega) (hpf j hj) h5 (htf0 u h4 h5)) (fun L1 ad1 g1 hR9 => c_M_read_b3 l D ty L1 ad1 g1 a dn pn en qn mz nw lo tr _ _ _ _ hR9 hb6 hj hp8 ev hv4j h6)
        · skip
          exact sim_S (-1) hM hX hP (c_X_read1_b l D ty L ad g _ _ _ _ _ _ _ _ _ _ _ _ _ _ _ _ _ _ _ (hL0 0 (by decide)) (hL0 6 (by decide)) (hL0 7 (by decide)) (hL0 (8 + b) (by omega)) (hL0 (14 + b) (by omega)) mpp mpt h_0 h_6 h_7 h_r h_ra hc h_pt hb6 (hvf b hb6) (by omega) (hpf j hj) (by omega)) (fun L1 ad1 g1 hR9 => c_M_read_b3 l D ty L1 ad1 g1 a dn pn en qn mz nw lo tr _ _ _ _ hR9 hb6 hj hp8 ev hv4j h6)
    · skip
      exact sim_S (-1) hM hX hP (c_X_read_none l D ty L ad g _ _ _ _ _ _ _ _ _ _ _ _ _ (hL0 0 (by decide)) (hL0 6 (by decide)) (hL0 7 (by decide)) (hL0 (8 + b) (by omega)) (hL0 (14 + b) (by omega)) h_0 h_6 h_7 h_r h_ra hb6 (hvf b hb6) h2 (hpf0 j h1 h2)) (fun L1 ad1 g1 hR9 => c_M_read_b2 l D ty L1 ad1 g1 a dn pn en qn mz nw lo tr _ _ _ hR9 hb6 h3 hp8)
    · skip
      exact sim_S (-1) hM hX hP (c_X_read_bad l D ty L ad g _ _ _ _ _ _ _ _ _ _ _ _ _ (hL0 0 (by decide)) (hL0 6 (by decide)) (hL0 7 (by decide)) (hL0 (8 + b) (by omega)) (hL0 (14 + b) (by omega)) h_0 h_6 h_7 h_r h_ra hb6 (hvf b hb6) (by omega)) (fun L1 ad1 g1 hR9 => c_M_read_b2 l D ty L1 ad1 g1 a dn pn en qn mz nw lo tr _ _ _ hR9 hb6 h3 hp8)
  · skip
    rcases ix_p i hp8 (by decide) with ⟨j, hj, rfl⟩ | ⟨j, h1, h2, rfl, h3⟩ | ⟨h2, h3⟩
    · skip
      obtain ⟨mpp, mpt, hpp0, tf, h_pt, htf, htf0⟩ := xJ j hj
      obtain ⟨hkd, ⟨ef, hf4⟩, hwd, ⟨ev, hv1, hv4j⟩, hlg⟩ := pJ j hj
      rcases hkd with hk | hk | hk
      · skip
        have hc := hpp0.trans (pcell_0 hk _ _ _ _ _)
        rcases ix_n v 4 (by decide) with ⟨u, hu, rfl⟩ | h
        · exact sim_S (-1) hM hX hP (c_X_read2_b_w l D ty L ad g _ _ _ _ _ _ _ _ _ _ _ _ _ _ _ (hL0 0 (by decide)) (hL0 6 (by decide)) (hL0 7 (by decide)) mpp mpt h_0 h_6 h_7 hc h_pt (by omega) (by omega) (hpf j hj) hu) (fun L1 ad1 g1 hR9 => c_M_read_b1 l D ty L1 ad1 g1 a dn pn en qn mz nw lo tr _ _ _ hR9 (by omega))
        · exact sim_S (-1) hM hX hP (c_X_read2_b_b l D ty L ad g _ _ _ _ _ _ _ _ _ _ _ _ _ _ _ (hL0 0 (by decide)) (hL0 6 (by decide)) (hL0 7 (by decide)) mpp mpt h_0 h_6 h_7 hc h_pt (by omega) (by omega) (hpf j hj) (by omega)) (fun L1 ad1 g1 hR9 => c_M_read_b1 l D ty L1 ad1 g1 a dn pn en qn mz nw lo tr _ _ _ hR9 (by omega))
      · skip
        have hc := hpp0.trans (pcell_1 hk _ _ _ _ _)
        rcases ix_n v 4 (by decide) with ⟨u, hu, rfl⟩ | h
        · exact sim_S (-1) hM hX hP (c_X_read0_b_w l D ty L ad g _ _ _ _ _ _ _ _ _ _ _ _ _ _ _ _ (hL0 0 (by decide)) (hL0 6 (by decide)) (hL0 7 (by decide)) mpp mpt h_0 h_6 h_7 hc h_pt (by omega) (by omega) (hpf j hj) hu) (fun L1 ad1 g1 hR9 => c_M_read_b1 l D ty L1 ad1 g1 a dn pn en qn mz nw lo tr _ _ _ hR9 (by omega))
        · exact sim_S (-1) hM hX hP (c_X_read0_b_b l D ty L ad g _ _ _ _ _ _ _ _ _ _ _ _ _ _ _ _ (hL0 0 (by decide)) (hL0 6 (by decide)) (hL0 7 (by decide)) mpp mpt h_0 h_6 h_7 hc h_pt (by omega) (by omega) (hpf j hj) (by omega)) (fun L1 ad1 g1 hR9 => c_M_read_b1 l D ty L1 ad1 g1 a dn pn en qn mz nw lo tr _ _ _ hR9 (by omega))
      · skip
        have hc := hpp0.trans (pcell_2 hk _ _ _ _ _)
        rcases ix_n v 4 (by decide) with ⟨u, hu, rfl⟩ | h
        · exact sim_S (-1) hM hX hP (c_X_read1_b_w l D ty L ad g _ _ _ _ _ _ _ _ _ _ _ _ _ _ _ (hL0 0 (by decide)) (hL0 6 (by decide)) (hL0 7 (by decide)) mpp mpt h_0 h_6 h_7 hc h_pt (by omega) (by omega) (hpf j hj) hu) (fun L1 ad1 g1 hR9 => c_M_read_b1 l D ty L1 ad1 g1 a dn pn en qn mz nw lo tr _ _ _ hR9 (by omega))
        · exact sim_S (-1) hM hX hP (c_X_read1_b_b l D ty L ad g _ _ _ _ _ _ _ _ _ _ _ _ _ _ _ (hL0 0 (by decide)) (hL0 6 (by decide)) (hL0 7 (by decide)) mpp mpt h_0 h_6 h_7 hc h_pt (by omega) (by omega) (hpf j hj) (by omega)) (fun L1 ad1 g1 hR9 => c_M_read_b1 l D ty L1 ad1 g1 a dn pn en qn mz nw lo tr _ _ _ hR9 (by omega))
    · skip
      exact sim_S (-1) hM hX hP (c_X_read_b_none l D ty L ad g _ _ _ _ _ _ _ _ _ (hL0 0 (by decide)) (hL0 6 (by decide)) (hL0 7 (by decide)) h_0 h_6 h_7 (by omega) h2 (hpf0 j h1 h2)) (fun L1 ad1 g1 hR9 => c_M_read_b1 l D ty L1 ad1 g1 a dn pn en qn mz nw lo tr _ _ _ hR9 (by omega))
    · skip
      exact sim_S (-1) hM hX hP (c_X_read_b_bad l D ty L ad g _ _ _ _ _ _ _ _ _ (hL0 0 (by decide)) (hL0 6 (by decide)) (hL0 7 (by decide)) h_0 h_6 h_7 (by omega) (by omega)) (fun L1 ad1 g1 hR9 => c_M_read_b1 l D ty L1 ad1 g1 a dn pn en qn mz nw lo tr _ _ _ hR9 (by omega))
