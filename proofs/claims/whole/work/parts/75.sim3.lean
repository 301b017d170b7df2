set_option maxHeartbeats 4000000 in
theorem blk_ok0 (l : Launch) (D : va_G) (ty : Nat → ClassId) {k : Nat} {L : List Nat} {ad : Nat → Nat} {g : Nat → va_E} {a : Nat → FI} {dn pn en qn mz : Nat} {nw lo : Int32} {tr : Int64} {j u : Nat} {x y : Int32} (hk9 : k < 1000) (hP : PI a dn pn en qn nw k) (hX : RX ty L ad g a dn pn en qn nw lo tr) (hM : RM ty L ad g a dn pn en qn mz nw lo tr) (hj : j < pn) (hk : a 6 j = 0) (hu : u < nN (a 10 j)) (hx1 : 0 ≤ x.toInt) (hxy : x.toInt < y.toInt) (hyn : y.toInt ≤ nN (a 11 (4 * j + u))) : SimAt Value.int l D ty yX8_blacken wsX8_blacken 3 63 yX9_blacken wsX9_blacken 3 65 [.int (nI j), .int (nI u), .int x, .int y] k L ad g a dn pn en qn mz nw lo tr := by
  obtain ⟨⟨hd40, hp8, he200, hq30⟩, pD, pJ, pT, pV, pQ, pK⟩ := id hP
  obtain ⟨cO, cD, cR, cP, cV, cS, cN, cQ, cK, cF⟩ := id hX
  obtain ⟨hL0, h_0⟩ := id cO
  have hv4 : ∀ j, j < pn → nN (a 10 j) ≤ 4 := fun j hj => (pJ j hj).2.2.2.1.2.2
  obtain ⟨⟨pf, h_6, hpf, hpf0⟩, xJ, xT⟩ := id cP
  obtain ⟨mpp, mpt, hpp0, tf, h_pt, htf, htf0⟩ := xJ j hj
  obtain ⟨hkd, ⟨ef, hf4⟩, hwd, ⟨ev, hv1, hv4j⟩, hlg⟩ := pJ j hj
  have hc := hpp0.trans (pcell_0 hk _ _ _ _ _)
  obtain ⟨⟨m_t, m_ro, m_a, m_bl⟩, h_t, h_ro, bs, bk, h_a, h_bl, hbb⟩ := xT j u hj hu
  obtain ⟨⟨es, hs1, hs40⟩, hby⟩ := pT j u hj hu
  obtain ⟨x, hx, rfl⟩ := i_nI x hx1
  obtain ⟨y, hy, rfl⟩ := i_nI y (by omega)
  have tx := nI_toInt (n := x) hx
  have ty2 := nI_toInt (n := y) hy
  have h2 : x < y := by omega
  have h3 : y ≤ nN (a 11 (4 * j + u)) := by omega
  have hb := bl_c_cg (k1 := bk) (k2 := fun i => a 13 (40 * (4 * j + u) + i)) (x := x) (y := y) (nN (a 11 (4 * j + u))) (fun i hi => (hbb i hi).2)
  have pT2 : ∀ i v, i < pn → v < nN (a 10 i) → PT (a 11) (a 12) (pb (a 13) (blH a (40 * (4 * j + u)) x y) (40 * (4 * j + u)) (nN (a 11 (4 * j + u)))) (4 * i + v) := by
    intro i v hi hv
    obtain ⟨z1, z2⟩ := pT i v hi hv
    refine ⟨z1, fun q hq => ⟨(z2 q hq).1, ?_⟩⟩
    by_cases e9 : 4 * i + v = 4 * j + u
    · rw [e9] at hq ⊢
      rw [pb_in _ _ _ _ _ hq]
      unfold blH
      split
      · exact Or.inr rfl
      · exact Or.inl rfl
    · have h40 := z1.2.2
      rw [pb_out _ _ _ _ _ (by omega)]; exact (z2 q hq).2
  refine sim_E (nI (bl_c (fun i => a 13 (40 * (4 * j + u) + i)) x y (nN (a 11 (4 * j + u))))) (va_up a 13 (pb (a 13) (blH a (40 * (4 * j + u)) x y) (40 * (4 * j + u)) (nN (a 11 (4 * j + u))))) dn pn en qn mz nw lo tr hM ⟨⟨hd40, hp8, he200, hq30⟩, pD, pJ, pT2, pV, pQ, pK.next⟩ (by rw [← hb]; exact c_X_blacken2_ok l D ty L ad g _ _ _ _ _ _ _ _ _ _ _ _ _ _ _ _ _ _ _ _ _ _ (hL0 0 (by decide)) (hL0 6 (by decide)) mpp mpt m_t m_ro m_a m_bl h_0 h_6 hc h_pt h_t h_ro h_a h_bl (by omega) (hpf j hj) (by omega) (htf u hu).1 hs40 h2 h3 (by omega) (fun i hi => by rw [(hbb i hi).2]; exact (hby i hi).2)) (fun x hx => (va_up_ne _ _ (by omega))) ⟨cO.fr hL0 (fun _ _ => rfl) (va_up_ne _ _ (by omega)), cD.fr (fun _ _ => rfl) (fun x h1 h2 => (va_up_ne _ _ (by omega))), cR.fr (fun _ _ => rfl) (fun x h1 h2 => (va_up_ne _ _ (by omega))), ?_, cV.fr (fun _ _ => rfl) (fun x h1 h2 => (va_up_ne _ _ (by omega))), cS.fr (fun _ _ => rfl) (fun x h1 h2 => (va_up_ne _ _ (by omega))), cN.fr (fun _ _ => rfl) (fun x h1 h2 => (va_up_ne _ _ (by omega))), cQ.fr (fun _ h => h) (fun _ _ => rfl) (va_up_ne _ _ (by omega)) (fun x _ h1 h2 => (va_up_ne _ _ (by omega))) hq30, cK.fr (va_up_ne _ _ (by omega)), cF⟩ (fun L1 ad1 g1 hR9 => c_M_blacken_ok l D ty L1 ad1 g1 a dn pn en qn mz nw lo tr _ _ _ _ _ _ hR9 hj hp8 ev hv4j hu es hs40 h3 h2)
  refine cP.set13 hj hu hp8 hv4 (fun i v hi hv => (pT i v hi hv).1.2.2) _ (fun i hi => ?_) (fun q hq => pb_out _ _ _ _ _ (by omega))
  show bl_f bk x y (nN (a 11 (4 * j + u))) i = pb (a 13) (blH a (40 * (4 * j + u)) x y) (40 * (4 * j + u)) (nN (a 11 (4 * j + u))) (40 * (4 * j + u) + i)
  rw [pb_in _ _ _ _ _ hi]
  unfold bl_f blH
  by_cases h : x ≤ i ∧ i < y
  · rw [if_pos ⟨hi, h⟩, if_pos (Or.inr h)]
  · rw [if_neg (fun q => h q.2), (hbb i hi).2]
    rcases (hby i hi).2 with z | z
    · rw [z, if_neg (fun q => q.elim (fun q => q rfl) h)]
    · rw [z, if_pos (Or.inl (by decide))]
set_option maxHeartbeats 4000000 in
theorem blk_ok1 (l : Launch) (D : va_G) (ty : Nat → ClassId) {k : Nat} {L : List Nat} {ad : Nat → Nat} {g : Nat → va_E} {a : Nat → FI} {dn pn en qn mz : Nat} {nw lo : Int32} {tr : Int64} {j u : Nat} {x y : Int32} (hk9 : k < 1000) (hP : PI a dn pn en qn nw k) (hX : RX ty L ad g a dn pn en qn nw lo tr) (hM : RM ty L ad g a dn pn en qn mz nw lo tr) (hj : j < pn) (hk : a 6 j = 1) (hu : u < nN (a 10 j)) (hx1 : 0 ≤ x.toInt) (hxy : x.toInt < y.toInt) (hyn : y.toInt ≤ nN (a 11 (4 * j + u))) : SimAt Value.int l D ty yX8_blacken wsX8_blacken 3 63 yX9_blacken wsX9_blacken 3 65 [.int (nI j), .int (nI u), .int x, .int y] k L ad g a dn pn en qn mz nw lo tr := by
  obtain ⟨⟨hd40, hp8, he200, hq30⟩, pD, pJ, pT, pV, pQ, pK⟩ := id hP
  obtain ⟨cO, cD, cR, cP, cV, cS, cN, cQ, cK, cF⟩ := id hX
  obtain ⟨hL0, h_0⟩ := id cO
  have hv4 : ∀ j, j < pn → nN (a 10 j) ≤ 4 := fun j hj => (pJ j hj).2.2.2.1.2.2
  obtain ⟨⟨pf, h_6, hpf, hpf0⟩, xJ, xT⟩ := id cP
  obtain ⟨mpp, mpt, hpp0, tf, h_pt, htf, htf0⟩ := xJ j hj
  obtain ⟨hkd, ⟨ef, hf4⟩, hwd, ⟨ev, hv1, hv4j⟩, hlg⟩ := pJ j hj
  have hc := hpp0.trans (pcell_1 hk _ _ _ _ _)
  obtain ⟨⟨m_t, m_ro, m_a, m_bl⟩, h_t, h_ro, bs, bk, h_a, h_bl, hbb⟩ := xT j u hj hu
  obtain ⟨⟨es, hs1, hs40⟩, hby⟩ := pT j u hj hu
  obtain ⟨x, hx, rfl⟩ := i_nI x hx1
  obtain ⟨y, hy, rfl⟩ := i_nI y (by omega)
  have tx := nI_toInt (n := x) hx
  have ty2 := nI_toInt (n := y) hy
  have h2 : x < y := by omega
  have h3 : y ≤ nN (a 11 (4 * j + u)) := by omega
  have hb := bl_c_cg (k1 := bk) (k2 := fun i => a 13 (40 * (4 * j + u) + i)) (x := x) (y := y) (nN (a 11 (4 * j + u))) (fun i hi => (hbb i hi).2)
  have pT2 : ∀ i v, i < pn → v < nN (a 10 i) → PT (a 11) (a 12) (pb (a 13) (blH a (40 * (4 * j + u)) x y) (40 * (4 * j + u)) (nN (a 11 (4 * j + u)))) (4 * i + v) := by
    intro i v hi hv
    obtain ⟨z1, z2⟩ := pT i v hi hv
    refine ⟨z1, fun q hq => ⟨(z2 q hq).1, ?_⟩⟩
    by_cases e9 : 4 * i + v = 4 * j + u
    · rw [e9] at hq ⊢
      rw [pb_in _ _ _ _ _ hq]
      unfold blH
      split
      · exact Or.inr rfl
      · exact Or.inl rfl
    · have h40 := z1.2.2
      rw [pb_out _ _ _ _ _ (by omega)]; exact (z2 q hq).2
  refine sim_E (nI (bl_c (fun i => a 13 (40 * (4 * j + u) + i)) x y (nN (a 11 (4 * j + u))))) (va_up a 13 (pb (a 13) (blH a (40 * (4 * j + u)) x y) (40 * (4 * j + u)) (nN (a 11 (4 * j + u))))) dn pn en qn mz nw lo tr hM ⟨⟨hd40, hp8, he200, hq30⟩, pD, pJ, pT2, pV, pQ, pK.next⟩ (by rw [← hb]; exact c_X_blacken0_ok l D ty L ad g _ _ _ _ _ _ _ _ _ _ _ _ _ _ _ _ _ _ _ _ _ _ _ (hL0 0 (by decide)) (hL0 6 (by decide)) mpp mpt m_t m_ro m_a m_bl h_0 h_6 hc h_pt h_t h_ro h_a h_bl (by omega) (hpf j hj) (by omega) (htf u hu).1 hs40 h2 h3 (by omega) (fun i hi => by rw [(hbb i hi).2]; exact (hby i hi).2)) (fun x hx => (va_up_ne _ _ (by omega))) ⟨cO.fr hL0 (fun _ _ => rfl) (va_up_ne _ _ (by omega)), cD.fr (fun _ _ => rfl) (fun x h1 h2 => (va_up_ne _ _ (by omega))), cR.fr (fun _ _ => rfl) (fun x h1 h2 => (va_up_ne _ _ (by omega))), ?_, cV.fr (fun _ _ => rfl) (fun x h1 h2 => (va_up_ne _ _ (by omega))), cS.fr (fun _ _ => rfl) (fun x h1 h2 => (va_up_ne _ _ (by omega))), cN.fr (fun _ _ => rfl) (fun x h1 h2 => (va_up_ne _ _ (by omega))), cQ.fr (fun _ h => h) (fun _ _ => rfl) (va_up_ne _ _ (by omega)) (fun x _ h1 h2 => (va_up_ne _ _ (by omega))) hq30, cK.fr (va_up_ne _ _ (by omega)), cF⟩ (fun L1 ad1 g1 hR9 => c_M_blacken_ok l D ty L1 ad1 g1 a dn pn en qn mz nw lo tr _ _ _ _ _ _ hR9 hj hp8 ev hv4j hu es hs40 h3 h2)
  refine cP.set13 hj hu hp8 hv4 (fun i v hi hv => (pT i v hi hv).1.2.2) _ (fun i hi => ?_) (fun q hq => pb_out _ _ _ _ _ (by omega))
  show bl_f bk x y (nN (a 11 (4 * j + u))) i = pb (a 13) (blH a (40 * (4 * j + u)) x y) (40 * (4 * j + u)) (nN (a 11 (4 * j + u))) (40 * (4 * j + u) + i)
  rw [pb_in _ _ _ _ _ hi]
  unfold bl_f blH
  by_cases h : x ≤ i ∧ i < y
  · rw [if_pos ⟨hi, h⟩, if_pos (Or.inr h)]
  · rw [if_neg (fun q => h q.2), (hbb i hi).2]
    rcases (hby i hi).2 with z | z
    · rw [z, if_neg (fun q => q.elim (fun q => q rfl) h)]
    · rw [z, if_pos (Or.inl (by decide))]
set_option maxHeartbeats 4000000 in
theorem blk_ok2 (l : Launch) (D : va_G) (ty : Nat → ClassId) {k : Nat} {L : List Nat} {ad : Nat → Nat} {g : Nat → va_E} {a : Nat → FI} {dn pn en qn mz : Nat} {nw lo : Int32} {tr : Int64} {j u : Nat} {x y : Int32} (hk9 : k < 1000) (hP : PI a dn pn en qn nw k) (hX : RX ty L ad g a dn pn en qn nw lo tr) (hM : RM ty L ad g a dn pn en qn mz nw lo tr) (hj : j < pn) (hk : a 6 j = 2) (hu : u < nN (a 10 j)) (hx1 : 0 ≤ x.toInt) (hxy : x.toInt < y.toInt) (hyn : y.toInt ≤ nN (a 11 (4 * j + u))) : SimAt Value.int l D ty yX8_blacken wsX8_blacken 3 63 yX9_blacken wsX9_blacken 3 65 [.int (nI j), .int (nI u), .int x, .int y] k L ad g a dn pn en qn mz nw lo tr := by
  obtain ⟨⟨hd40, hp8, he200, hq30⟩, pD, pJ, pT, pV, pQ, pK⟩ := id hP
  obtain ⟨cO, cD, cR, cP, cV, cS, cN, cQ, cK, cF⟩ := id hX
  obtain ⟨hL0, h_0⟩ := id cO
  have hv4 : ∀ j, j < pn → nN (a 10 j) ≤ 4 := fun j hj => (pJ j hj).2.2.2.1.2.2
  obtain ⟨⟨pf, h_6, hpf, hpf0⟩, xJ, xT⟩ := id cP
  obtain ⟨mpp, mpt, hpp0, tf, h_pt, htf, htf0⟩ := xJ j hj
  obtain ⟨hkd, ⟨ef, hf4⟩, hwd, ⟨ev, hv1, hv4j⟩, hlg⟩ := pJ j hj
  have hc := hpp0.trans (pcell_2 hk _ _ _ _ _)
  obtain ⟨⟨m_t, m_ro, m_a, m_bl⟩, h_t, h_ro, bs, bk, h_a, h_bl, hbb⟩ := xT j u hj hu
  obtain ⟨⟨es, hs1, hs40⟩, hby⟩ := pT j u hj hu
  obtain ⟨x, hx, rfl⟩ := i_nI x hx1
  obtain ⟨y, hy, rfl⟩ := i_nI y (by omega)
  have tx := nI_toInt (n := x) hx
  have ty2 := nI_toInt (n := y) hy
  have h2 : x < y := by omega
  have h3 : y ≤ nN (a 11 (4 * j + u)) := by omega
  have hb := bl_c_cg (k1 := bk) (k2 := fun i => a 13 (40 * (4 * j + u) + i)) (x := x) (y := y) (nN (a 11 (4 * j + u))) (fun i hi => (hbb i hi).2)
  have pT2 : ∀ i v, i < pn → v < nN (a 10 i) → PT (a 11) (a 12) (pb (a 13) (blH a (40 * (4 * j + u)) x y) (40 * (4 * j + u)) (nN (a 11 (4 * j + u)))) (4 * i + v) := by
    intro i v hi hv
    obtain ⟨z1, z2⟩ := pT i v hi hv
    refine ⟨z1, fun q hq => ⟨(z2 q hq).1, ?_⟩⟩
    by_cases e9 : 4 * i + v = 4 * j + u
    · rw [e9] at hq ⊢
      rw [pb_in _ _ _ _ _ hq]
      unfold blH
      split
      · exact Or.inr rfl
      · exact Or.inl rfl
    · have h40 := z1.2.2
      rw [pb_out _ _ _ _ _ (by omega)]; exact (z2 q hq).2
  refine sim_E (nI (bl_c (fun i => a 13 (40 * (4 * j + u) + i)) x y (nN (a 11 (4 * j + u))))) (va_up a 13 (pb (a 13) (blH a (40 * (4 * j + u)) x y) (40 * (4 * j + u)) (nN (a 11 (4 * j + u))))) dn pn en qn mz nw lo tr hM ⟨⟨hd40, hp8, he200, hq30⟩, pD, pJ, pT2, pV, pQ, pK.next⟩ (by rw [← hb]; exact c_X_blacken1_ok l D ty L ad g _ _ _ _ _ _ _ _ _ _ _ _ _ _ _ _ _ _ _ _ _ _ (hL0 0 (by decide)) (hL0 6 (by decide)) mpp mpt m_t m_ro m_a m_bl h_0 h_6 hc h_pt h_t h_ro h_a h_bl (by omega) (hpf j hj) (by omega) (htf u hu).1 hs40 h2 h3 (by omega) (fun i hi => by rw [(hbb i hi).2]; exact (hby i hi).2)) (fun x hx => (va_up_ne _ _ (by omega))) ⟨cO.fr hL0 (fun _ _ => rfl) (va_up_ne _ _ (by omega)), cD.fr (fun _ _ => rfl) (fun x h1 h2 => (va_up_ne _ _ (by omega))), cR.fr (fun _ _ => rfl) (fun x h1 h2 => (va_up_ne _ _ (by omega))), ?_, cV.fr (fun _ _ => rfl) (fun x h1 h2 => (va_up_ne _ _ (by omega))), cS.fr (fun _ _ => rfl) (fun x h1 h2 => (va_up_ne _ _ (by omega))), cN.fr (fun _ _ => rfl) (fun x h1 h2 => (va_up_ne _ _ (by omega))), cQ.fr (fun _ h => h) (fun _ _ => rfl) (va_up_ne _ _ (by omega)) (fun x _ h1 h2 => (va_up_ne _ _ (by omega))) hq30, cK.fr (va_up_ne _ _ (by omega)), cF⟩ (fun L1 ad1 g1 hR9 => c_M_blacken_ok l D ty L1 ad1 g1 a dn pn en qn mz nw lo tr _ _ _ _ _ _ hR9 hj hp8 ev hv4j hu es hs40 h3 h2)
  refine cP.set13 hj hu hp8 hv4 (fun i v hi hv => (pT i v hi hv).1.2.2) _ (fun i hi => ?_) (fun q hq => pb_out _ _ _ _ _ (by omega))
  show bl_f bk x y (nN (a 11 (4 * j + u))) i = pb (a 13) (blH a (40 * (4 * j + u)) x y) (40 * (4 * j + u)) (nN (a 11 (4 * j + u))) (40 * (4 * j + u) + i)
  rw [pb_in _ _ _ _ _ hi]
  unfold bl_f blH
  by_cases h : x ≤ i ∧ i < y
  · rw [if_pos ⟨hi, h⟩, if_pos (Or.inr h)]
  · rw [if_neg (fun q => h q.2), (hbb i hi).2]
    rcases (hby i hi).2 with z | z
    · rw [z, if_neg (fun q => q.elim (fun q => q rfl) h)]
    · rw [z, if_pos (Or.inl (by decide))]
set_option maxHeartbeats 4000000 in
theorem s_blacken (l : Launch) (D : va_G) (ty : Nat → ClassId) {k : Nat} {L : List Nat} {ad : Nat → Nat} {g : Nat → va_E} {a : Nat → FI} {dn pn en qn mz : Nat} {nw lo : Int32} {tr : Int64} (i v x y : Int32) (hk9 : k < 1000) (hP : PI a dn pn en qn nw k) (hX : RX ty L ad g a dn pn en qn nw lo tr) (hM : RM ty L ad g a dn pn en qn mz nw lo tr) : SimAt Value.int l D ty yX8_blacken wsX8_blacken 3 63 yX9_blacken wsX9_blacken 3 65 [.int i, .int v, .int x, .int y] k L ad g a dn pn en qn mz nw lo tr := by
  obtain ⟨⟨hd40, hp8, he200, hq30⟩, pD, pJ, pT, pV, pQ, pK⟩ := id hP
  obtain ⟨cO, cD, cR, cP, cV, cS, cN, cQ, cK, cF⟩ := id hX
  obtain ⟨hL0, h_0⟩ := id cO
  have hv4 : ∀ j, j < pn → nN (a 10 j) ≤ 4 := fun j hj => (pJ j hj).2.2.2.1.2.2
  obtain ⟨⟨pf, h_6, hpf, hpf0⟩, xJ, xT⟩ := id cP
  rcases ix_p i hp8 (by decide) with ⟨j, hj, rfl⟩ | ⟨j, h1, h2, rfl, h3⟩ | ⟨h2, h3⟩
  · skip
    obtain ⟨mpp, mpt, hpp0, tf, h_pt, htf, htf0⟩ := xJ j hj
    obtain ⟨hkd, ⟨ef, hf4⟩, hwd, ⟨ev, hv1, hv4j⟩, hlg⟩ := pJ j hj
    rcases hkd with hk | hk | hk
    · skip
      have hc := hpp0.trans (pcell_0 hk _ _ _ _ _)
      rcases ix_p v hv4j (by decide) with ⟨u, hu, rfl⟩ | ⟨u, h4, h5, rfl, h6⟩ | ⟨h5, h6⟩
      · skip
        obtain ⟨⟨m_t, m_ro, m_a, m_bl⟩, h_t, h_ro, bs, bk, h_a, h_bl, hbb⟩ := xT j u hj hu
        obtain ⟨⟨es, hs1, hs40⟩, hby⟩ := pT j u hj hu
        by_cases hx0 : x.toInt < 0
        · exact sim_S (-1) hM hX hP (c_X_blacken2_1 l D ty L ad g _ _ _ _ _ _ _ _ _ _ _ _ _ _ _ _ _ _ _ _ _ _ (hL0 0 (by decide)) (hL0 6 (by decide)) mpp mpt m_t m_ro m_a m_bl h_0 h_6 hc h_pt h_t h_ro h_a h_bl (by omega) (hpf j hj) (by omega) (htf u hu).1 hx0) (fun L1 ad1 g1 hR9 => c_M_blacken_1 l D ty L1 ad1 g1 a dn pn en qn mz nw lo tr _ _ _ _ _ _ hR9 hj hp8 ev hv4j hu es hs40 hx0)
        · have hx1 : 0 ≤ x.toInt := by omega
          by_cases hyn : (nN (a 11 (4 * j + u)) : Int) < y.toInt
          · by_cases hyx : y.toInt ≤ x.toInt
            · exact sim_S (-1) hM hX hP (c_X_blacken2_2 l D ty L ad g _ _ _ _ _ _ _ _ _ _ _ _ _ _ _ _ _ _ _ _ _ _ (hL0 0 (by decide)) (hL0 6 (by decide)) mpp mpt m_t m_ro m_a m_bl h_0 h_6 hc h_pt h_t h_ro h_a h_bl (by omega) (hpf j hj) (by omega) (htf u hu).1 hx1 hyx) (fun L1 ad1 g1 hR9 => c_M_blacken_2 l D ty L1 ad1 g1 a dn pn en qn mz nw lo tr _ _ _ _ _ _ hR9 hj hp8 ev hv4j hu es hs40 hx1 hyn)
            · exact sim_S (-1) hM hX hP (c_X_blacken2_3 l D ty L ad g _ _ _ _ _ _ _ _ _ _ _ _ _ _ _ _ _ _ _ _ _ _ (hL0 0 (by decide)) (hL0 6 (by decide)) mpp mpt m_t m_ro m_a m_bl h_0 h_6 hc h_pt h_t h_ro h_a h_bl (by omega) (hpf j hj) (by omega) (htf u hu).1 hs40 hx1 (by omega) hyn) (fun L1 ad1 g1 hR9 => c_M_blacken_2 l D ty L1 ad1 g1 a dn pn en qn mz nw lo tr _ _ _ _ _ _ hR9 hj hp8 ev hv4j hu es hs40 hx1 hyn)
          · by_cases hyx : y.toInt ≤ x.toInt
            · exact sim_S (-1) hM hX hP (c_X_blacken2_2 l D ty L ad g _ _ _ _ _ _ _ _ _ _ _ _ _ _ _ _ _ _ _ _ _ _ (hL0 0 (by decide)) (hL0 6 (by decide)) mpp mpt m_t m_ro m_a m_bl h_0 h_6 hc h_pt h_t h_ro h_a h_bl (by omega) (hpf j hj) (by omega) (htf u hu).1 hx1 hyx) (fun L1 ad1 g1 hR9 => c_M_blacken_3 l D ty L1 ad1 g1 a dn pn en qn mz nw lo tr _ _ _ _ _ _ hR9 hj hp8 ev hv4j hu es hs40 hx1 (by omega) hyx)
            · exact blk_ok0 l D ty hk9 hP hX hM hj hk hu hx1 (by omega) (by omega)
      · skip
        exact sim_S (-1) hM hX hP (c_X_blacken2_n l D ty L ad g _ _ _ _ _ _ _ _ _ _ _ _ _ _ _ (hL0 0 (by decide)) (hL0 6 (by decide)) mpp mpt h_0 h_6 hc h_pt (by omega) (hpf j hj) h5 (htf0 u h4 h5)) (fun L1 ad1 g1 hR9 => c_M_blacken_v l D ty L1 ad1 g1 a dn pn en qn mz nw lo tr _ _ _ _ _ hR9 hj hp8 ev hv4j h6)
      · skip
        exact sim_S (-1) hM hX hP (c_X_blacken2_b l D ty L ad g _ _ _ _ _ _ _ _ _ _ _ _ _ _ _ (hL0 0 (by decide)) (hL0 6 (by decide)) mpp mpt h_0 h_6 hc h_pt (by omega) (hpf j hj) (by omega)) (fun L1 ad1 g1 hR9 => c_M_blacken_v l D ty L1 ad1 g1 a dn pn en qn mz nw lo tr _ _ _ _ _ hR9 hj hp8 ev hv4j h6)
    · skip
      have hc := hpp0.trans (pcell_1 hk _ _ _ _ _)
      rcases ix_p v hv4j (by decide) with ⟨u, hu, rfl⟩ | ⟨u, h4, h5, rfl, h6⟩ | ⟨h5, h6⟩
      · skip
        obtain ⟨⟨m_t, m_ro, m_a, m_bl⟩, h_t, h_ro, bs, bk, h_a, h_bl, hbb⟩ := xT j u hj hu
        obtain ⟨⟨es, hs1, hs40⟩, hby⟩ := pT j u hj hu
        by_cases hx0 : x.toInt < 0
        · exact sim_S (-1) hM hX hP (c_X_blacken0_1 l D ty L ad g _ _ _ _ _ _ _ _ _ _ _ _ _ _ _ _ _ _ _ _ _ _ _ (hL0 0 (by decide)) (hL0 6 (by decide)) mpp mpt m_t m_ro m_a m_bl h_0 h_6 hc h_pt h_t h_ro h_a h_bl (by omega) (hpf j hj) (by omega) (htf u hu).1 hx0) (fun L1 ad1 g1 hR9 => c_M_blacken_1 l D ty L1 ad1 g1 a dn pn en qn mz nw lo tr _ _ _ _ _ _ hR9 hj hp8 ev hv4j hu es hs40 hx0)
        · have hx1 : 0 ≤ x.toInt := by omega
          by_cases hyn : (nN (a 11 (4 * j + u)) : Int) < y.toInt
          · by_cases hyx : y.toInt ≤ x.toInt
            · exact sim_S (-1) hM hX hP (c_X_blacken0_2 l D ty L ad g _ _ _ _ _ _ _ _ _ _ _ _ _ _ _ _ _ _ _ _ _ _ _ (hL0 0 (by decide)) (hL0 6 (by decide)) mpp mpt m_t m_ro m_a m_bl h_0 h_6 hc h_pt h_t h_ro h_a h_bl (by omega) (hpf j hj) (by omega) (htf u hu).1 hx1 hyx) (fun L1 ad1 g1 hR9 => c_M_blacken_2 l D ty L1 ad1 g1 a dn pn en qn mz nw lo tr _ _ _ _ _ _ hR9 hj hp8 ev hv4j hu es hs40 hx1 hyn)
            · exact sim_S (-1) hM hX hP (c_X_blacken0_3 l D ty L ad g _ _ _ _ _ _ _ _ _ _ _ _ _ _ _ _ _ _ _ _ _ _ _ (hL0 0 (by decide)) (hL0 6 (by decide)) mpp mpt m_t m_ro m_a m_bl h_0 h_6 hc h_pt h_t h_ro h_a h_bl (by omega) (hpf j hj) (by omega) (htf u hu).1 hs40 hx1 (by omega) hyn) (fun L1 ad1 g1 hR9 => c_M_blacken_2 l D ty L1 ad1 g1 a dn pn en qn mz nw lo tr _ _ _ _ _ _ hR9 hj hp8 ev hv4j hu es hs40 hx1 hyn)
          · by_cases hyx : y.toInt ≤ x.toInt
            · exact sim_S (-1) hM hX hP (c_X_blacken0_2 l D ty L ad g _ _ _ _ _ _ _ _ _ _ _ _ _ _ _ _ _ _ _ _ _ _ _ (hL0 0 (by decide)) (hL0 6 (by decide)) mpp mpt m_t m_ro m_a m_bl h_0 h_6 hc h_pt h_t h_ro h_a h_bl (by omega) (hpf j hj) (by omega) (htf u hu).1 hx1 hyx) (fun L1 ad1 g1 hR9 => c_M_blacken_3 l D ty L1 ad1 g1 a dn pn en qn mz nw lo tr _ _ _ _ _ _ hR9 hj hp8 ev hv4j hu es hs40 hx1 (by omega) hyx)
            · exact blk_ok1 l D ty hk9 hP hX hM hj hk hu hx1 (by omega) (by omega)
      · skip
        exact sim_S (-1) hM hX hP (c_X_blacken0_n l D ty L ad g _ _ _ _ _ _ _ _ _ _ _ _ _ _ _ _ (hL0 0 (by decide)) (hL0 6 (by decide)) mpp mpt h_0 h_6 hc h_pt (by omega) (hpf j hj) h5 (htf0 u h4 h5)) (fun L1 ad1 g1 hR9 => c_M_blacken_v l D ty L1 ad1 g1 a dn pn en qn mz nw lo tr _ _ _ _ _ hR9 hj hp8 ev hv4j h6)
      · skip
        exact sim_S (-1) hM hX hP (c_X_blacken0_b l D ty L ad g _ _ _ _ _ _ _ _ _ _ _ _ _ _ _ _ (hL0 0 (by decide)) (hL0 6 (by decide)) mpp mpt h_0 h_6 hc h_pt (by omega) (hpf j hj) (by omega)) (fun L1 ad1 g1 hR9 => c_M_blacken_v l D ty L1 ad1 g1 a dn pn en qn mz nw lo tr _ _ _ _ _ hR9 hj hp8 ev hv4j h6)
    · skip
      have hc := hpp0.trans (pcell_2 hk _ _ _ _ _)
      rcases ix_p v hv4j (by decide) with ⟨u, hu, rfl⟩ | ⟨u, h4, h5, rfl, h6⟩ | ⟨h5, h6⟩
      · skip
        obtain ⟨⟨m_t, m_ro, m_a, m_bl⟩, h_t, h_ro, bs, bk, h_a, h_bl, hbb⟩ := xT j u hj hu
        obtain ⟨⟨es, hs1, hs40⟩, hby⟩ := pT j u hj hu
        by_cases hx0 : x.toInt < 0
        · exact sim_S (-1) hM hX hP (c_X_blacken1_1 l D ty L ad g _ _ _ _ _ _ _ _ _ _ _ _ _ _ _ _ _ _ _ _ _ _ (hL0 0 (by decide)) (hL0 6 (by decide)) mpp mpt m_t m_ro m_a m_bl h_0 h_6 hc h_pt h_t h_ro h_a h_bl (by omega) (hpf j hj) (by omega) (htf u hu).1 hx0) (fun L1 ad1 g1 hR9 => c_M_blacken_1 l D ty L1 ad1 g1 a dn pn en qn mz nw lo tr _ _ _ _ _ _ hR9 hj hp8 ev hv4j hu es hs40 hx0)
        · have hx1 : 0 ≤ x.toInt := by omega
          by_cases hyn : (nN (a 11 (4 * j + u)) : Int) < y.toInt
          · by_cases hyx : y.toInt ≤ x.toInt
            · exact sim_S (-1) hM hX hP (c_X_blacken1_2 l D ty L ad g _ _ _ _ _ _ _ _ _ _ _ _ _ _ _ _ _ _ _ _ _ _ (hL0 0 (by decide)) (hL0 6 (by decide)) mpp mpt m_t m_ro m_a m_bl h_0 h_6 hc h_pt h_t h_ro h_a h_bl (by omega) (hpf j hj) (by omega) (htf u hu).1 hx1 hyx) (fun L1 ad1 g1 hR9 => c_M_blacken_2 l D ty L1 ad1 g1 a dn pn en qn mz nw lo tr _ _ _ _ _ _ hR9 hj hp8 ev hv4j hu es hs40 hx1 hyn)
            · exact sim_S (-1) hM hX hP (c_X_blacken1_3 l D ty L ad g _ _ _ _ _ _ _ _ _ _ _ _ _ _ _ _ _ _ _ _ _ _ (hL0 0 (by decide)) (hL0 6 (by decide)) mpp mpt m_t m_ro m_a m_bl h_0 h_6 hc h_pt h_t h_ro h_a h_bl (by omega) (hpf j hj) (by omega) (htf u hu).1 hs40 hx1 (by omega) hyn) (fun L1 ad1 g1 hR9 => c_M_blacken_2 l D ty L1 ad1 g1 a dn pn en qn mz nw lo tr _ _ _ _ _ _ hR9 hj hp8 ev hv4j hu es hs40 hx1 hyn)
          · by_cases hyx : y.toInt ≤ x.toInt
            · exact sim_S (-1) hM hX hP (c_X_blacken1_2 l D ty L ad g _ _ _ _ _ _ _ _ _ _ _ _ _ _ _ _ _ _ _ _ _ _ (hL0 0 (by decide)) (hL0 6 (by decide)) mpp mpt m_t m_ro m_a m_bl h_0 h_6 hc h_pt h_t h_ro h_a h_bl (by omega) (hpf j hj) (by omega) (htf u hu).1 hx1 hyx) (fun L1 ad1 g1 hR9 => c_M_blacken_3 l D ty L1 ad1 g1 a dn pn en qn mz nw lo tr _ _ _ _ _ _ hR9 hj hp8 ev hv4j hu es hs40 hx1 (by omega) hyx)
            · exact blk_ok2 l D ty hk9 hP hX hM hj hk hu hx1 (by omega) (by omega)
      · skip
        exact sim_S (-1) hM hX hP (c_X_blacken1_n l D ty L ad g _ _ _ _ _ _ _ _ _ _ _ _ _ _ _ (hL0 0 (by decide)) (hL0 6 (by decide)) mpp mpt h_0 h_6 hc h_pt (by omega) (hpf j hj) h5 (htf0 u h4 h5)) (fun L1 ad1 g1 hR9 => c_M_blacken_v l D ty L1 ad1 g1 a dn pn en qn mz nw lo tr _ _ _ _ _ hR9 hj hp8 ev hv4j h6)
      · skip
        exact sim_S (-1) hM hX hP (c_X_blacken1_b l D ty L ad g _ _ _ _ _ _ _ _ _ _ _ _ _ _ _ (hL0 0 (by decide)) (hL0 6 (by decide)) mpp mpt h_0 h_6 hc h_pt (by omega) (hpf j hj) (by omega)) (fun L1 ad1 g1 hR9 => c_M_blacken_v l D ty L1 ad1 g1 a dn pn en qn mz nw lo tr _ _ _ _ _ hR9 hj hp8 ev hv4j h6)
  · skip
    exact sim_S (-1) hM hX hP (c_X_blacken_none l D ty L ad g _ _ _ _ _ _ _ _ _ (hL0 0 (by decide)) (hL0 6 (by decide)) h_0 h_6 h2 (hpf0 j h1 h2)) (fun L1 ad1 g1 hR9 => c_M_blacken_p l D ty L1 ad1 g1 a dn pn en qn mz nw lo tr _ _ _ _ hR9 h3 hp8)
  · skip
    exact sim_S (-1) hM hX hP (c_X_blacken_bad l D ty L ad g _ _ _ _ _ _ _ _ _ (hL0 0 (by decide)) (hL0 6 (by decide)) h_0 h_6 (by omega)) (fun L1 ad1 g1 hR9 => c_M_blacken_p l D ty L1 ad1 g1 a dn pn en qn mz nw lo tr _ _ _ _ hR9 h3 hp8)
