set_option maxHeartbeats 4000000 in
theorem s_withdraw (l : Launch) (D : va_G) (ty : Nat → ClassId) {k : Nat} {L : List Nat} {ad : Nat → Nat} {g : Nat → va_E} {a : Nat → FI} {dn pn en qn mz : Nat} {nw lo : Int32} {tr : Int64} (i : Int32) (hk9 : k < 1000) (hP : PI a dn pn en qn nw k) (hX : RX ty L ad g a dn pn en qn nw lo tr) (hM : RM ty L ad g a dn pn en qn mz nw lo tr) : SimAt Value.int l D ty yX8_withdraw wsX8_withdraw 2 42 yX9_withdraw wsX9_withdraw 2 43 [.int i] k L ad g a dn pn en qn mz nw lo tr := by
  obtain ⟨⟨hd40, hp8, he200, hq30⟩, pD, pJ, pT, pV, pQ, pK⟩ := id hP
  obtain ⟨cO, cD, cR, cP, cV, cS, cN, cQ, cK, cF⟩ := id hX
  obtain ⟨hL0, h_0⟩ := id cO
  have hv4 : ∀ j, j < pn → nN (a 10 j) ≤ 4 := fun j hj => (pJ j hj).2.2.2.1.2.2
  obtain ⟨⟨pf, h_6, hpf, hpf0⟩, xJ, xT⟩ := id cP
  rcases ix_p i hp8 (by decide) with ⟨j, hj, rfl⟩ | ⟨j, h1, h2, rfl, h3⟩ | ⟨h2, h3⟩
  · skip
    obtain ⟨mpp, mpt, hpp0, tf, h_pt, htf, htf0⟩ := xJ j hj
    obtain ⟨hkd, ⟨ef, hf4⟩, hwd, ⟨ev, hv1, hv4j⟩, hlg⟩ := pJ j hj
    have pJ2 : ∀ i, i < pn → PJ (a 6) (a 7) (a 8) (upd (a 9) j 1) (a 10) i := by
      intro i hi
      obtain ⟨z1, z2, z3, z4, z5⟩ := pJ i hi
      refine ⟨z1, z2, ?_, z4, z5⟩
      by_cases e9 : i = j
      · rw [e9, pk_us]; exact Or.inr rfl
      · rw [pk_un e9]; exact z3
    rcases hkd with hk | hk | hk
    · skip
      have hc := hpp0.trans (pcell_0 hk _ _ _ _ _)
      rcases hwd with hw | hw
      · refine sim_E 1 (va_up a 9 (upd (a 9) j 1)) dn pn en qn mz nw lo tr hM ⟨⟨hd40, hp8, he200, hq30⟩, pD, pJ2, pT, pV, pQ, pK.next⟩ (c_X_withdraw2_ok l D ty L ad g _ _ _ _ _ _ _ _ _ _ _ (hL0 0 (by decide)) (hL0 6 (by decide)) mpp h_0 h_6 hc (by omega) (hpf j hj) hw (by omega)) (fun x hx => (va_up_ne _ _ (by omega))) ⟨cO.fr hL0 (fun _ _ => rfl) (va_up_ne _ _ (by omega)), cD.fr (fun _ _ => rfl) (fun x h1 h2 => (va_up_ne _ _ (by omega))), cR.fr (fun _ _ => rfl) (fun x h1 h2 => (va_up_ne _ _ (by omega))), ?_, cV.fr (fun _ _ => rfl) (fun x h1 h2 => (va_up_ne _ _ (by omega))), cS.fr (fun _ _ => rfl) (fun x h1 h2 => (va_up_ne _ _ (by omega))), cN.fr (fun _ _ => rfl) (fun x h1 h2 => (va_up_ne _ _ (by omega))), cQ.fr (fun _ h => h) (fun _ _ => rfl) (va_up_ne _ _ (by omega)) (fun x _ h1 h2 => (va_up_ne _ _ (by omega))) hq30, cK.fr (va_up_ne _ _ (by omega)), cF⟩ (fun L1 ad1 g1 hR9 => by have h9 := c_M_withdraw_ok l D ty L1 ad1 g1 a dn pn en qn mz nw lo tr _ hR9 hj hp8 hw; rw [z_1] at h9; exact h9)
        rw [← pcell_0 hk (nN (a 7 j)) (ad (200 + j)) (nN (a 10 j)) 1 (a 8 j)]
        exact cP.set9 hj hp8 hv4 1
      · exact sim_S (-2) hM hX hP (c_X_withdraw2_state l D ty L ad g _ _ _ _ _ _ _ _ _ _ _ (hL0 0 (by decide)) (hL0 6 (by decide)) mpp h_0 h_6 hc (by omega) (hpf j hj) hw) (fun L1 ad1 g1 hR9 => c_M_withdraw_state l D ty L1 ad1 g1 a dn pn en qn mz nw lo tr _ hR9 hj hp8 hw)
    · skip
      have hc := hpp0.trans (pcell_1 hk _ _ _ _ _)
      rcases hwd with hw | hw
      · refine sim_E 1 (va_up a 9 (upd (a 9) j 1)) dn pn en qn mz nw lo tr hM ⟨⟨hd40, hp8, he200, hq30⟩, pD, pJ2, pT, pV, pQ, pK.next⟩ (c_X_withdraw0_ok l D ty L ad g _ _ _ _ _ _ _ _ _ _ _ _ (hL0 0 (by decide)) (hL0 6 (by decide)) mpp h_0 h_6 hc (by omega) (hpf j hj) hw (by omega)) (fun x hx => (va_up_ne _ _ (by omega))) ⟨cO.fr hL0 (fun _ _ => rfl) (va_up_ne _ _ (by omega)), cD.fr (fun _ _ => rfl) (fun x h1 h2 => (va_up_ne _ _ (by omega))), cR.fr (fun _ _ => rfl) (fun x h1 h2 => (va_up_ne _ _ (by omega))), ?_, cV.fr (fun _ _ => rfl) (fun x h1 h2 => (va_up_ne _ _ (by omega))), cS.fr (fun _ _ => rfl) (fun x h1 h2 => (va_up_ne _ _ (by omega))), cN.fr (fun _ _ => rfl) (fun x h1 h2 => (va_up_ne _ _ (by omega))), cQ.fr (fun _ h => h) (fun _ _ => rfl) (va_up_ne _ _ (by omega)) (fun x _ h1 h2 => (va_up_ne _ _ (by omega))) hq30, cK.fr (va_up_ne _ _ (by omega)), cF⟩ (fun L1 ad1 g1 hR9 => by have h9 := c_M_withdraw_ok l D ty L1 ad1 g1 a dn pn en qn mz nw lo tr _ hR9 hj hp8 hw; rw [z_1] at h9; exact h9)
        rw [← pcell_1 hk (nN (a 7 j)) (ad (200 + j)) (nN (a 10 j)) 1 (a 8 j)]
        exact cP.set9 hj hp8 hv4 1
      · exact sim_S (-2) hM hX hP (c_X_withdraw0_state l D ty L ad g _ _ _ _ _ _ _ _ _ _ _ _ (hL0 0 (by decide)) (hL0 6 (by decide)) mpp h_0 h_6 hc (by omega) (hpf j hj) hw) (fun L1 ad1 g1 hR9 => c_M_withdraw_state l D ty L1 ad1 g1 a dn pn en qn mz nw lo tr _ hR9 hj hp8 hw)
    · skip
      have hc := hpp0.trans (pcell_2 hk _ _ _ _ _)
      rcases hwd with hw | hw
      · refine sim_E 1 (va_up a 9 (upd (a 9) j 1)) dn pn en qn mz nw lo tr hM ⟨⟨hd40, hp8, he200, hq30⟩, pD, pJ2, pT, pV, pQ, pK.next⟩ (c_X_withdraw1_ok l D ty L ad g _ _ _ _ _ _ _ _ _ _ _ (hL0 0 (by decide)) (hL0 6 (by decide)) mpp h_0 h_6 hc (by omega) (hpf j hj) hw (by omega)) (fun x hx => (va_up_ne _ _ (by omega))) ⟨cO.fr hL0 (fun _ _ => rfl) (va_up_ne _ _ (by omega)), cD.fr (fun _ _ => rfl) (fun x h1 h2 => (va_up_ne _ _ (by omega))), cR.fr (fun _ _ => rfl) (fun x h1 h2 => (va_up_ne _ _ (by omega))), ?_, cV.fr (fun _ _ => rfl) (fun x h1 h2 => (va_up_ne _ _ (by omega))), cS.fr (fun _ _ => rfl) (fun x h1 h2 => (va_up_ne _ _ (by omega))), cN.fr (fun _ _ => rfl) (fun x h1 h2 => (va_up_ne _ _ (by omega))), cQ.fr (fun _ h => h) (fun _ _ => rfl) (va_up_ne _ _ (by omega)) (fun x _ h1 h2 => (va_up_ne _ _ (by omega))) hq30, cK.fr (va_up_ne _ _ (by omega)), cF⟩ (fun L1 ad1 g1 hR9 => by have h9 := c_M_withdraw_ok l D ty L1 ad1 g1 a dn pn en qn mz nw lo tr _ hR9 hj hp8 hw; rw [z_1] at h9; exact h9)
        rw [← pcell_2 hk (nN (a 7 j)) (ad (200 + j)) (nN (a 10 j)) 1 (a 8 j)]
        exact cP.set9 hj hp8 hv4 1
      · exact sim_S (-2) hM hX hP (c_X_withdraw1_state l D ty L ad g _ _ _ _ _ _ _ _ _ _ _ (hL0 0 (by decide)) (hL0 6 (by decide)) mpp h_0 h_6 hc (by omega) (hpf j hj) hw) (fun L1 ad1 g1 hR9 => c_M_withdraw_state l D ty L1 ad1 g1 a dn pn en qn mz nw lo tr _ hR9 hj hp8 hw)
  · skip
    exact sim_S (-1) hM hX hP (c_X_withdraw_none l D ty L ad g _ _ _ _ _ _ (hL0 0 (by decide)) (hL0 6 (by decide)) h_0 h_6 h2 (hpf0 j h1 h2)) (fun L1 ad1 g1 hR9 => c_M_withdraw_bad l D ty L1 ad1 g1 a dn pn en qn mz nw lo tr _ hR9 h3 hp8)
  · skip
    exact sim_S (-1) hM hX hP (c_X_withdraw_bad l D ty L ad g _ _ _ _ _ _ (hL0 0 (by decide)) (hL0 6 (by decide)) h_0 h_6 (by omega)) (fun L1 ad1 g1 hR9 => c_M_withdraw_bad l D ty L1 ad1 g1 a dn pn en qn mz nw lo tr _ hR9 h3 hp8)
set_option maxHeartbeats 4000000 in
theorem s_about (l : Launch) (D : va_G) (ty : Nat → ClassId) {k : Nat} {L : List Nat} {ad : Nat → Nat} {g : Nat → va_E} {a : Nat → FI} {dn pn en qn mz : Nat} {nw lo : Int32} {tr : Int64} (i w : Int32) (hk9 : k < 1000) (hP : PI a dn pn en qn nw k) (hX : RX ty L ad g a dn pn en qn nw lo tr) (hM : RM ty L ad g a dn pn en qn mz nw lo tr) : SimAt Value.int l D ty yX8_about wsX8_about 2 42 yX9_about wsX9_about 2 43 [.int i, .int w] k L ad g a dn pn en qn mz nw lo tr := by
  obtain ⟨⟨hd40, hp8, he200, hq30⟩, pD, pJ, pT, pV, pQ, pK⟩ := id hP
  obtain ⟨cO, cD, cR, cP, cV, cS, cN, cQ, cK, cF⟩ := id hX
  obtain ⟨hL0, h_0⟩ := id cO
  have hv4 : ∀ j, j < pn → nN (a 10 j) ≤ 4 := fun j hj => (pJ j hj).2.2.2.1.2.2
  obtain ⟨⟨pf, h_6, hpf, hpf0⟩, xJ, xT⟩ := id cP
  rcases ix_p i hp8 (by decide) with ⟨j, hj, rfl⟩ | ⟨j, h1, h2, rfl, h3⟩ | ⟨h2, h3⟩
  · skip
    obtain ⟨mpp, mpt, hpp0, tf, h_pt, htf, htf0⟩ := xJ j hj
    obtain ⟨hkd, ⟨ef, hf4⟩, hwd, ⟨ev, hv1, hv4j⟩, hlg⟩ := pJ j hj
    rcases hkd with hk | hk | hk
    · skip
      have hc := hpp0.trans (pcell_0 hk _ _ _ _ _)
      rcases sw w with rfl | rfl | rfl | rfl | rfl | rfl | hw
      · exact sim_S (a 6 j) hM hX hP (by rw [hk]; exact c_X_about2_0 l D ty L ad g _ _ _ _ _ _ _ _ _ _ _ (hL0 0 (by decide)) (hL0 6 (by decide)) mpp h_0 h_6 hc (by omega) (hpf j hj)) (fun L1 ad1 g1 hR9 => c_M_about_0 l D ty L1 ad1 g1 a dn pn en qn mz nw lo tr _ hR9 hj hp8)
      · exact sim_S (a 7 j) hM hX hP (by rw [ef]; exact c_X_about2_1 l D ty L ad g _ _ _ _ _ _ _ _ _ _ _ (hL0 0 (by decide)) (hL0 6 (by decide)) mpp h_0 h_6 hc (by omega) (hpf j hj)) (fun L1 ad1 g1 hR9 => c_M_about_1 l D ty L1 ad1 g1 a dn pn en qn mz nw lo tr _ hR9 hj hp8)
      · exact sim_S (a 10 j) hM hX hP (by rw [ev]; exact c_X_about2_2 l D ty L ad g _ _ _ _ _ _ _ _ _ _ _ (hL0 0 (by decide)) (hL0 6 (by decide)) mpp h_0 h_6 hc (by omega) (hpf j hj)) (fun L1 ad1 g1 hR9 => c_M_about_2 l D ty L1 ad1 g1 a dn pn en qn mz nw lo tr _ hR9 hj hp8)
      · exact sim_S (a 9 j) hM hX hP (by exact c_X_about2_3 l D ty L ad g _ _ _ _ _ _ _ _ _ _ _ (hL0 0 (by decide)) (hL0 6 (by decide)) mpp h_0 h_6 hc (by omega) (hpf j hj) hwd) (fun L1 ad1 g1 hR9 => c_M_about_3 l D ty L1 ad1 g1 a dn pn en qn mz nw lo tr _ hR9 hj hp8 hwd)
      · exact sim_S (a 8 j) hM hX hP (by rw [hlg (by rw [hk]; decide)]; exact c_X_about2_4 l D ty L ad g _ _ _ _ _ _ _ _ _ _ _ (hL0 0 (by decide)) (hL0 6 (by decide)) mpp h_0 h_6 hc (by omega) (hpf j hj)) (fun L1 ad1 g1 hR9 => c_M_about_4 l D ty L1 ad1 g1 a dn pn en qn mz nw lo tr _ hR9 hj hp8)
      · exact sim_S (-1) hM hX hP (c_X_about2_x l D ty L ad g _ _ _ _ _ _ _ _ _ _ _ _ (hL0 0 (by decide)) (hL0 6 (by decide)) mpp h_0 h_6 hc (by omega) (hpf j hj) (Or.inr (by decide))) (fun L1 ad1 g1 hR9 => c_M_about_x l D ty L1 ad1 g1 a dn pn en qn mz nw lo tr _ _ hR9 hj hp8 (Or.inr (by decide)))
      · exact sim_S (-1) hM hX hP (c_X_about2_x l D ty L ad g _ _ _ _ _ _ _ _ _ _ _ _ (hL0 0 (by decide)) (hL0 6 (by decide)) mpp h_0 h_6 hc (by omega) (hpf j hj) (by omega)) (fun L1 ad1 g1 hR9 => c_M_about_x l D ty L1 ad1 g1 a dn pn en qn mz nw lo tr _ _ hR9 hj hp8 (by omega))
    · skip
      have hc := hpp0.trans (pcell_1 hk _ _ _ _ _)
      rcases sw w with rfl | rfl | rfl | rfl | rfl | rfl | hw
      · exact sim_S (a 6 j) hM hX hP (by rw [hk]; exact c_X_about0_0 l D ty L ad g _ _ _ _ _ _ _ _ _ _ _ _ (hL0 0 (by decide)) (hL0 6 (by decide)) mpp h_0 h_6 hc (by omega) (hpf j hj)) (fun L1 ad1 g1 hR9 => c_M_about_0 l D ty L1 ad1 g1 a dn pn en qn mz nw lo tr _ hR9 hj hp8)
      · exact sim_S (a 7 j) hM hX hP (by rw [ef]; exact c_X_about0_1 l D ty L ad g _ _ _ _ _ _ _ _ _ _ _ _ (hL0 0 (by decide)) (hL0 6 (by decide)) mpp h_0 h_6 hc (by omega) (hpf j hj)) (fun L1 ad1 g1 hR9 => c_M_about_1 l D ty L1 ad1 g1 a dn pn en qn mz nw lo tr _ hR9 hj hp8)
      · exact sim_S (a 10 j) hM hX hP (by rw [ev]; exact c_X_about0_2 l D ty L ad g _ _ _ _ _ _ _ _ _ _ _ _ (hL0 0 (by decide)) (hL0 6 (by decide)) mpp h_0 h_6 hc (by omega) (hpf j hj)) (fun L1 ad1 g1 hR9 => c_M_about_2 l D ty L1 ad1 g1 a dn pn en qn mz nw lo tr _ hR9 hj hp8)
      · exact sim_S (a 9 j) hM hX hP (by exact c_X_about0_3 l D ty L ad g _ _ _ _ _ _ _ _ _ _ _ _ (hL0 0 (by decide)) (hL0 6 (by decide)) mpp h_0 h_6 hc (by omega) (hpf j hj) hwd) (fun L1 ad1 g1 hR9 => c_M_about_3 l D ty L1 ad1 g1 a dn pn en qn mz nw lo tr _ hR9 hj hp8 hwd)
      · exact sim_S (a 8 j) hM hX hP (by exact c_X_about0_4 l D ty L ad g _ _ _ _ _ _ _ _ _ _ _ _ (hL0 0 (by decide)) (hL0 6 (by decide)) mpp h_0 h_6 hc (by omega) (hpf j hj)) (fun L1 ad1 g1 hR9 => c_M_about_4 l D ty L1 ad1 g1 a dn pn en qn mz nw lo tr _ hR9 hj hp8)
      · exact sim_S (-1) hM hX hP (c_X_about0_x l D ty L ad g _ _ _ _ _ _ _ _ _ _ _ _ _ (hL0 0 (by decide)) (hL0 6 (by decide)) mpp h_0 h_6 hc (by omega) (hpf j hj) (Or.inr (by decide))) (fun L1 ad1 g1 hR9 => c_M_about_x l D ty L1 ad1 g1 a dn pn en qn mz nw lo tr _ _ hR9 hj hp8 (Or.inr (by decide)))
      · exact sim_S (-1) hM hX hP (c_X_about0_x l D ty L ad g _ _ _ _ _ _ _ _ _ _ _ _ _ (hL0 0 (by decide)) (hL0 6 (by decide)) mpp h_0 h_6 hc (by omega) (hpf j hj) (by omega)) (fun L1 ad1 g1 hR9 => c_M_about_x l D ty L1 ad1 g1 a dn pn en qn mz nw lo tr _ _ hR9 hj hp8 (by omega))
    · skip
      have hc := hpp0.trans (pcell_2 hk _ _ _ _ _)
      rcases sw w with rfl | rfl | rfl | rfl | rfl | rfl | hw
      · exact sim_S (a 6 j) hM hX hP (by rw [hk]; exact c_X_about1_0 l D ty L ad g _ _ _ _ _ _ _ _ _ _ _ (hL0 0 (by decide)) (hL0 6 (by decide)) mpp h_0 h_6 hc (by omega) (hpf j hj)) (fun L1 ad1 g1 hR9 => c_M_about_0 l D ty L1 ad1 g1 a dn pn en qn mz nw lo tr _ hR9 hj hp8)
      · exact sim_S (a 7 j) hM hX hP (by rw [ef]; exact c_X_about1_1 l D ty L ad g _ _ _ _ _ _ _ _ _ _ _ (hL0 0 (by decide)) (hL0 6 (by decide)) mpp h_0 h_6 hc (by omega) (hpf j hj)) (fun L1 ad1 g1 hR9 => c_M_about_1 l D ty L1 ad1 g1 a dn pn en qn mz nw lo tr _ hR9 hj hp8)
      · exact sim_S (a 10 j) hM hX hP (by rw [ev]; exact c_X_about1_2 l D ty L ad g _ _ _ _ _ _ _ _ _ _ _ (hL0 0 (by decide)) (hL0 6 (by decide)) mpp h_0 h_6 hc (by omega) (hpf j hj)) (fun L1 ad1 g1 hR9 => c_M_about_2 l D ty L1 ad1 g1 a dn pn en qn mz nw lo tr _ hR9 hj hp8)
      · exact sim_S (a 9 j) hM hX hP (by exact c_X_about1_3 l D ty L ad g _ _ _ _ _ _ _ _ _ _ _ (hL0 0 (by decide)) (hL0 6 (by decide)) mpp h_0 h_6 hc (by omega) (hpf j hj) hwd) (fun L1 ad1 g1 hR9 => c_M_about_3 l D ty L1 ad1 g1 a dn pn en qn mz nw lo tr _ hR9 hj hp8 hwd)
      · exact sim_S (a 8 j) hM hX hP (by rw [hlg (by rw [hk]; decide)]; exact c_X_about1_4 l D ty L ad g _ _ _ _ _ _ _ _ _ _ _ (hL0 0 (by decide)) (hL0 6 (by decide)) mpp h_0 h_6 hc (by omega) (hpf j hj)) (fun L1 ad1 g1 hR9 => c_M_about_4 l D ty L1 ad1 g1 a dn pn en qn mz nw lo tr _ hR9 hj hp8)
      · exact sim_S (-1) hM hX hP (c_X_about1_x l D ty L ad g _ _ _ _ _ _ _ _ _ _ _ _ (hL0 0 (by decide)) (hL0 6 (by decide)) mpp h_0 h_6 hc (by omega) (hpf j hj) (Or.inr (by decide))) (fun L1 ad1 g1 hR9 => c_M_about_x l D ty L1 ad1 g1 a dn pn en qn mz nw lo tr _ _ hR9 hj hp8 (Or.inr (by decide)))
      · exact sim_S (-1) hM hX hP (c_X_about1_x l D ty L ad g _ _ _ _ _ _ _ _ _ _ _ _ (hL0 0 (by decide)) (hL0 6 (by decide)) mpp h_0 h_6 hc (by omega) (hpf j hj) (by omega)) (fun L1 ad1 g1 hR9 => c_M_about_x l D ty L1 ad1 g1 a dn pn en qn mz nw lo tr _ _ hR9 hj hp8 (by omega))
  · skip
    exact sim_S (-1) hM hX hP (c_X_about_none l D ty L ad g _ _ _ _ _ _ _ (hL0 0 (by decide)) (hL0 6 (by decide)) h_0 h_6 h2 (hpf0 j h1 h2)) (fun L1 ad1 g1 hR9 => c_M_about_bad l D ty L1 ad1 g1 a dn pn en qn mz nw lo tr _ _ hR9 h3 hp8)
  · skip
    exact sim_S (-1) hM hX hP (c_X_about_bad l D ty L ad g _ _ _ _ _ _ _ (hL0 0 (by decide)) (hL0 6 (by decide)) h_0 h_6 (by omega)) (fun L1 ad1 g1 hR9 => c_M_about_bad l D ty L1 ad1 g1 a dn pn en qn mz nw lo tr _ _ hR9 h3 hp8)
set_option maxHeartbeats 4000000 in
theorem s_may (l : Launch) (D : va_G) (ty : Nat → ClassId) {k : Nat} {L : List Nat} {ad : Nat → Nat} {g : Nat → va_E} {a : Nat → FI} {dn pn en qn mz : Nat} {nw lo : Int32} {tr : Int64} (i1 i : Int32) (hk9 : k < 1000) (hP : PI a dn pn en qn nw k) (hX : RX ty L ad g a dn pn en qn nw lo tr) (hM : RM ty L ad g a dn pn en qn mz nw lo tr) : SimAt Value.int l D ty yX8_may wsX8_may 5 113 yX9_may wsX9_may 2 43 [.int i1, .int i] k L ad g a dn pn en qn mz nw lo tr := by
  obtain ⟨⟨hd40, hp8, he200, hq30⟩, pD, pJ, pT, pV, pQ, pK⟩ := id hP
  obtain ⟨cO, cD, cR, cP, cV, cS, cN, cQ, cK, cF⟩ := id hX
  obtain ⟨hL0, h_0⟩ := id cO
  have hv4 : ∀ j, j < pn → nN (a 10 j) ≤ 4 := fun j hj => (pJ j hj).2.2.2.1.2.2
  obtain ⟨⟨pf, h_6, hpf, hpf0⟩, xJ, xT⟩ := id cP
  obtain ⟨h_3, h_4, h_5⟩ := id cR
  rcases ix_n i1 6 (by decide) with ⟨b, hb6, rfl⟩ | hb
  · skip
    rcases ix_p i hp8 (by decide) with ⟨j, hj, rfl⟩ | ⟨j, h1, h2, rfl, h3⟩ | ⟨h2, h3⟩
    · skip
      obtain ⟨mpp, mpt, hpp0, tf, h_pt, htf, htf0⟩ := xJ j hj
      obtain ⟨hkd, ⟨ef, hf4⟩, hwd, ⟨ev, hv1, hv4j⟩, hlg⟩ := pJ j hj
      rcases hkd with hk | hk | hk
      · skip
        have hc := hpp0.trans (pcell_0 hk _ _ _ _ _)
        exact sim_E (zb (seeB (a 6 j) (a 9 j) (a 8 j) (a 3) (a 4) (b % 3 * 4 + nN (a 7 j)) nw)) a dn pn en qn mz nw lo (tr + 1) hM ⟨⟨hd40, hp8, he200, hq30⟩, pD, pJ, pT, pV, pQ, pK.next⟩ (by rw [see_0 hk]; exact c_X_may2 l D ty L ad g _ _ _ _ _ _ _ _ _ _ _ _ _ _ (hL0 0 (by decide)) (hL0 3 (by decide)) (hL0 4 (by decide)) (hL0 5 (by decide)) (hL0 6 (by decide)) mpp h_0 h_3 h_4 h_5 h_6 hc (by omega) (hpf j hj) hb6 hf4 hwd (by omega)) (fun x hx => (va_up_ne _ _ (by omega))) ⟨⟨hL0, va_up_self _ _ _⟩, cD.fr (fun _ _ => rfl) (fun x h1 h2 => (va_up_ne _ _ (by omega))), cR.fr (fun _ _ => rfl) (fun x h1 h2 => (va_up_ne _ _ (by omega))), cP.fr (fun _ h => h) (fun _ _ => rfl) (va_up_ne _ _ (by omega)) (fun x _ h1 h2 => (va_up_ne _ _ (by omega))) hp8 hv4, cV.fr (fun _ _ => rfl) (fun x h1 h2 => (va_up_ne _ _ (by omega))), cS.fr (fun _ _ => rfl) (fun x h1 h2 => (va_up_ne _ _ (by omega))), cN.fr (fun _ _ => rfl) (fun x h1 h2 => (va_up_ne _ _ (by omega))), cQ.fr (fun _ h => h) (fun _ _ => rfl) (va_up_ne _ _ (by omega)) (fun x _ h1 h2 => (va_up_ne _ _ (by omega))) hq30, cK.fr (va_up_ne _ _ (by omega)), cF⟩ (fun L1 ad1 g1 hR9 => c_M_may_0 l D ty L1 ad1 g1 a dn pn en qn mz nw lo tr _ _ _ hR9 hj hp8 hb6 ef hf4 hwd hk)
      · skip
        have hc := hpp0.trans (pcell_1 hk _ _ _ _ _)
        exact sim_E (zb (seeB (a 6 j) (a 9 j) (a 8 j) (a 3) (a 4) (b % 3 * 4 + nN (a 7 j)) nw)) a dn pn en qn mz nw lo (tr + 11) hM ⟨⟨hd40, hp8, he200, hq30⟩, pD, pJ, pT, pV, pQ, pK.next⟩ (by rw [see_1 hk]; exact c_X_may0 l D ty L ad g _ _ _ _ _ _ _ _ _ _ _ _ _ _ _ (hL0 0 (by decide)) (hL0 3 (by decide)) (hL0 4 (by decide)) (hL0 5 (by decide)) (hL0 6 (by decide)) mpp h_0 h_3 h_4 h_5 h_6 hc (by omega) (hpf j hj) hb6 hf4 hwd (by omega)) (fun x hx => (va_up_ne _ _ (by omega))) ⟨⟨hL0, va_up_self _ _ _⟩, cD.fr (fun _ _ => rfl) (fun x h1 h2 => (va_up_ne _ _ (by omega))), cR.fr (fun _ _ => rfl) (fun x h1 h2 => (va_up_ne _ _ (by omega))), cP.fr (fun _ h => h) (fun _ _ => rfl) (va_up_ne _ _ (by omega)) (fun x _ h1 h2 => (va_up_ne _ _ (by omega))) hp8 hv4, cV.fr (fun _ _ => rfl) (fun x h1 h2 => (va_up_ne _ _ (by omega))), cS.fr (fun _ _ => rfl) (fun x h1 h2 => (va_up_ne _ _ (by omega))), cN.fr (fun _ _ => rfl) (fun x h1 h2 => (va_up_ne _ _ (by omega))), cQ.fr (fun _ h => h) (fun _ _ => rfl) (va_up_ne _ _ (by omega)) (fun x _ h1 h2 => (va_up_ne _ _ (by omega))) hq30, cK.fr (va_up_ne _ _ (by omega)), cF⟩ (fun L1 ad1 g1 hR9 => c_M_may_1 l D ty L1 ad1 g1 a dn pn en qn mz nw lo tr _ _ _ hR9 hj hp8 hb6 ef hf4 hwd hk)
      · skip
        have hc := hpp0.trans (pcell_2 hk _ _ _ _ _)
        exact sim_E (zb (seeB (a 6 j) (a 9 j) (a 8 j) (a 3) (a 4) (b % 3 * 4 + nN (a 7 j)) nw)) a dn pn en qn mz nw lo (tr + 101) hM ⟨⟨hd40, hp8, he200, hq30⟩, pD, pJ, pT, pV, pQ, pK.next⟩ (by rw [see_2 hk]; exact c_X_may1 l D ty L ad g _ _ _ _ _ _ _ _ _ _ _ _ _ _ (hL0 0 (by decide)) (hL0 3 (by decide)) (hL0 4 (by decide)) (hL0 5 (by decide)) (hL0 6 (by decide)) mpp h_0 h_3 h_4 h_5 h_6 hc (by omega) (hpf j hj) hb6 hf4 hwd (by omega)) (fun x hx => (va_up_ne _ _ (by omega))) ⟨⟨hL0, va_up_self _ _ _⟩, cD.fr (fun _ _ => rfl) (fun x h1 h2 => (va_up_ne _ _ (by omega))), cR.fr (fun _ _ => rfl) (fun x h1 h2 => (va_up_ne _ _ (by omega))), cP.fr (fun _ h => h) (fun _ _ => rfl) (va_up_ne _ _ (by omega)) (fun x _ h1 h2 => (va_up_ne _ _ (by omega))) hp8 hv4, cV.fr (fun _ _ => rfl) (fun x h1 h2 => (va_up_ne _ _ (by omega))), cS.fr (fun _ _ => rfl) (fun x h1 h2 => (va_up_ne _ _ (by omega))), cN.fr (fun _ _ => rfl) (fun x h1 h2 => (va_up_ne _ _ (by omega))), cQ.fr (fun _ h => h) (fun _ _ => rfl) (va_up_ne _ _ (by omega)) (fun x _ h1 h2 => (va_up_ne _ _ (by omega))) hq30, cK.fr (va_up_ne _ _ (by omega)), cF⟩ (fun L1 ad1 g1 hR9 => c_M_may_2 l D ty L1 ad1 g1 a dn pn en qn mz nw lo tr _ _ _ hR9 hj hp8 hb6 ef hf4 hwd hk)
    · skip
      exact sim_S (-1) hM hX hP (c_X_may_none l D ty L ad g _ _ _ _ _ _ _ (hL0 0 (by decide)) (hL0 6 (by decide)) h_0 h_6 h2 (hpf0 j h1 h2) hb6) (fun L1 ad1 g1 hR9 => c_M_may_b2 l D ty L1 ad1 g1 a dn pn en qn mz nw lo tr _ _ hR9 hb6 h3 hp8)
    · skip
      exact sim_S (-1) hM hX hP (c_X_may_bad l D ty L ad g _ _ _ _ _ _ _ (hL0 0 (by decide)) (hL0 6 (by decide)) h_0 h_6 (by omega) hb6) (fun L1 ad1 g1 hR9 => c_M_may_b2 l D ty L1 ad1 g1 a dn pn en qn mz nw lo tr _ _ hR9 hb6 h3 hp8)
  · skip
    rcases ix_n i 8 (by decide) with ⟨j, hj, rfl⟩ | h
    · exact sim_S (-1) hM hX hP (c_X_may_b2 l D ty L ad g _ _ _ _ _ _ _ (hL0 0 (by decide)) (hL0 6 (by decide)) h_0 h_6 (by omega) hj) (fun L1 ad1 g1 hR9 => c_M_may_b1 l D ty L1 ad1 g1 a dn pn en qn mz nw lo tr _ _ hR9 (by omega))
    · exact sim_S (-1) hM hX hP (c_X_may_b1 l D ty L ad g _ _ _ _ _ _ _ (hL0 0 (by decide)) (hL0 6 (by decide)) h_0 h_6 (by omega) (by omega)) (fun L1 ad1 g1 hR9 => c_M_may_b1 l D ty L1 ad1 g1 a dn pn en qn mz nw lo tr _ _ hR9 (by omega))
set_option maxHeartbeats 4000000 in
theorem s_times (l : Launch) (D : va_G) (ty : Nat → ClassId) {k : Nat} {L : List Nat} {ad : Nat → Nat} {g : Nat → va_E} {a : Nat → FI} {dn pn en qn mz : Nat} {nw lo : Int32} {tr : Int64} (i1 i v : Int32) (hk9 : k < 1000) (hP : PI a dn pn en qn nw k) (hX : RX ty L ad g a dn pn en qn nw lo tr) (hM : RM ty L ad g a dn pn en qn mz nw lo tr) : SimAt Value.int l D ty yX8_times wsX8_times 3 63 yX9_times wsX9_times 3 65 [.int i1, .int i, .int v] k L ad g a dn pn en qn mz nw lo tr := by
  obtain ⟨⟨hd40, hp8, he200, hq30⟩, pD, pJ, pT, pV, pQ, pK⟩ := id hP
  obtain ⟨cO, cD, cR, cP, cV, cS, cN, cQ, cK, cF⟩ := id hX
  obtain ⟨hL0, h_0⟩ := id cO
  have hv4 : ∀ j, j < pn → nN (a 10 j) ≤ 4 := fun j hj => (pJ j hj).2.2.2.1.2.2
  obtain ⟨⟨pf, h_6, hpf, hpf0⟩, xJ, xT⟩ := id cP
  obtain ⟨h_22, h_23, h_24, h_25, h_26, f4, h_27, hlk⟩ := id cN
  rcases ix_n i1 6 (by decide) with ⟨b, hb6, rfl⟩ | hb
  · skip
    rcases ix_p i hp8 (by decide) with ⟨j, hj, rfl⟩ | ⟨j, h1, h2, rfl, h3⟩ | ⟨h2, h3⟩
    · skip
      obtain ⟨mpp, mpt, hpp0, tf, h_pt, htf, htf0⟩ := xJ j hj
      obtain ⟨hkd, ⟨ef, hf4⟩, hwd, ⟨ev, hv1, hv4j⟩, hlg⟩ := pJ j hj
      rcases hkd with hk | hk | hk
      · skip
        have hc := hpp0.trans (pcell_0 hk _ _ _ _ _)
        rcases ix_p v hv4j (by decide) with ⟨u, hu, rfl⟩ | ⟨u, h4, h5, rfl, h6⟩ | ⟨h5, h6⟩
        · skip
          exact sim_S (nI (rdc (a 19) (a 20) (a 21) (nI b) (nI j) (nI u) en)) hM hX hP (c_X_times2_ok l D ty L ad g _ _ _ _ _ _ _ _ _ _ _ _ _ _ _ _ _ _ _ _ _ _ (hL0 0 (by decide)) (hL0 6 (by decide)) mpp mpt (hL0 22 (by decide)) (hL0 23 (by decide)) (hL0 24 (by decide)) (hL0 25 (by decide)) (hL0 26 (by decide)) (hL0 27 (by decide)) h_0 h_6 hc h_pt h_22 h_23 h_24 h_25 h_26 h_27 (by omega) (hpf j hj) (by omega) (htf u hu).1 hb6 he200) (fun L1 ad1 g1 hR9 => c_M_times l D ty L1 ad1 g1 a dn pn en qn mz nw lo tr _ _ _ _ hR9 hb6 hj hp8 ev hv4j hu he200)
        · skip
          exact sim_S (-1) hM hX hP (c_X_times2_n l D ty L ad g _ _ _ _ _ _ _ _ _ _ _ _ _ _ (hL0 0 (by decide)) (hL0 6 (by decide)) mpp mpt h_0 h_6 hc h_pt (by omega) (hpf j hj) h5 (htf0 u h4 h5) hb6) (fun L1 ad1 g1 hR9 => c_M_times_3 l D ty L1 ad1 g1 a dn pn en qn mz nw lo tr _ _ _ _ hR9 hb6 hj hp8 ev hv4j h6)
        · skip
          exact sim_S (-1) hM hX hP (c_X_times2_b l D ty L ad g _ _ _ _ _ _ _ _ _ _ _ _ _ _ (hL0 0 (by decide)) (hL0 6 (by decide)) mpp mpt h_0 h_6 hc h_pt (by omega) (hpf j hj) (by omega) hb6) (fun L1 ad1 g1 hR9 => c_M_times_3 l D ty L1 ad1 g1 a dn pn en qn mz nw lo tr _ _ _ _ hR9 hb6 hj hp8 ev hv4j h6)
      · skip
        have hc := hpp0.trans (pcell_1 hk _ _ _ _ _)
        rcases ix_p v hv4j (by decide) with ⟨u, hu, rfl⟩ | ⟨u, h4, h5, rfl, h6⟩ | ⟨h5, h6⟩
        · skip
          exact sim_S (nI (rdc (a 19) (a 20) (a 21) (nI b) (nI j) (nI u) en)) hM hX hP (c_X_times0_ok l D ty L ad g _ _ _ _ _ _ _ _ _ _ _ _ _ _ _ _ _ _ _ _ _ _ _ (hL0 0 (by decide)) (hL0 6 (by decide)) mpp mpt (hL0 22 (by decide)) (hL0 23 (by decide)) (hL0 24 (by decide)) (hL0 25 (by decide)) (hL0 26 (by decide)) (hL0 27 (by decide)) h_0 h_6 hc h_pt h_22 h_23 h_24 h_25 h_26 h_27 (by omega) (hpf j hj) (by omega) (htf u hu).1 hb6 he200) (fun L1 ad1 g1 hR9 => c_M_times l D ty L1 ad1 g1 a dn pn en qn mz nw lo tr _ _ _ _ hR9 hb6 hj hp8 ev hv4j hu he200)
        · skip
          exact sim_S (-1) hM hX hP (c_X_times0_n l D ty L ad g _ _ _ _ _ _ _ _ _ _ _ _ _ _ _ (hL0 0 (by decide)) (hL0 6 (by decide)) mpp mpt h_0 h_6 hc h_pt (by omega) (hpf j hj) h5 (htf0 u h4 h5) hb6) (fun L1 ad1 g1 hR9 => c_M_times_3 l D ty L1 ad1 g1 a dn pn en qn mz nw lo tr _ _ _ _ hR9 hb6 hj hp8 ev hv4j h6)
        · skip
          exact sim_S (-1) hM hX hP (c_X_times0_b l D ty L ad g _ _ _ _ _ _ _ _ _ _ _ _ _ _ _ (hL0 0 (by decide)) (hL0 6 (by decide)) mpp mpt h_0 h_6 hc h_pt (by omega) (hpf j hj) (by omega) hb6) (fun L1 ad1 g1 hR9 => c_M_times_3 l D ty L1 ad1 g1 a dn pn en qn mz nw lo tr _ _ _ _ hR9 hb6 hj hp8 ev hv4j h6)
      · skip
        have hc := hpp0.trans (pcell_2 hk _ _ _ _ _)
        rcases ix_p v hv4j (by decide) with ⟨u, hu, rfl⟩ | ⟨u, h4, h5, rfl, h6⟩ | ⟨h5, h6⟩
        · skip
          exact sim_S (nI (rdc (a 19) (a 20) (a 21) (nI b) (nI j) (nI u) en)) hM hX hP (c_X_times1_ok l D ty L ad g _ _ _ _ _ _ _ _ _ _ _ _ _ _ _ _ _ _ _ _ _ _ (hL0 0 (by decide)) (hL0 6 (by decide)) mpp mpt (hL0 22 (by decide)) (hL0 23 (by decide)) (hL0 24 (by decide)) (hL0 25 (by decide)) (hL0 26 (by decide)) (hL0 27 (by decide)) h_0 h_6 hc h_pt h_22 h_23 h_24 h_25 h_26 h_27 (by omega) (hpf j hj) (by omega) (htf u hu).1 hb6 he200) (fun L1 ad1 g1 hR9 => c_M_times l D ty L1 ad1 g1 a dn pn en qn mz nw lo tr _ _ _ _ hR9 hb6 hj hp8 ev hv4j hu he200)
        · skip
          exact sim_S (-1) hM hX hP (c_X_times1_n l D ty L ad g _ _ _ _ _ _ _ _ _ _ _ _ _ _ (hL0 0 (by decide)) (hL0 6 (by decide)) mpp mpt h_0 h_6 hc h_pt (by omega) (hpf j hj) h5 (htf0 u h4 h5) hb6) (fun L1 ad1 g1 hR9 => c_M_times_3 l D ty L1 ad1 g1 a dn pn en qn mz nw lo tr _ _ _ _ hR9 hb6 hj hp8 ev hv4j h6)
        · skip
          exact sim_S (-1) hM hX hP (c_X_times1_b l D ty L ad g _ _ _ _ _ _ _ _ _ _ _ _ _ _ (hL0 0 (by decide)) (hL0 6 (by decide)) mpp mpt h_0 h_6 hc h_pt (by omega) (hpf j hj) (by omega) hb6) (fun L1 ad1 g1 hR9 => c_M_times_3 l D ty L1 ad1 g1 a dn pn en qn mz nw lo tr _ _ _ _ hR9 hb6 hj hp8 ev hv4j h6)
    · skip
      exact sim_S (-1) hM hX hP (c_X_times_none l D ty L ad g _ _ _ _ _ _ _ _ (hL0 0 (by decide)) (hL0 6 (by decide)) h_0 h_6 h2 (hpf0 j h1 h2) hb6) (fun L1 ad1 g1 hR9 => c_M_times_2 l D ty L1 ad1 g1 a dn pn en qn mz nw lo tr _ _ _ hR9 hb6 h3 hp8)
    · skip
      exact sim_S (-1) hM hX hP (c_X_times_bad l D ty L ad g _ _ _ _ _ _ _ _ (hL0 0 (by decide)) (hL0 6 (by decide)) h_0 h_6 (by omega) hb6) (fun L1 ad1 g1 hR9 => c_M_times_2 l D ty L1 ad1 g1 a dn pn en qn mz nw lo tr _ _ _ hR9 hb6 h3 hp8)
  · skip
    exact sim_S (-1) hM hX hP (c_X_times_b1 l D ty L ad g _ _ _ _ _ _ _ (hL0 0 (by decide)) h_0 (by omega)) (fun L1 ad1 g1 hR9 => c_M_times_1 l D ty L1 ad1 g1 a dn pn en qn mz nw lo tr _ _ _ hR9 (by omega))
