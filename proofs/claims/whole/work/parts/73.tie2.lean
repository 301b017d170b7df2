/-! how the class's memory changes with the state -/
section SY
variable {ty : Nat → ClassId} {L L1 : List Nat} {ad ad1 : Nat → Nat} {g g1 : Nat → va_E}
theorem XP.set9 {pn : Nat} {k6 k7 k8 k9 k10 k11 k12 k13 : FI} (h : XP ty L ad g pn k6 k7 k8 k9 k10 k11 k12 k13) {j : Nat} (hj : j < pn) (hp : pn ≤ 8) (hv : ∀ j, j < pn → nN (k10 j) ≤ 4) (x : Int32) : XP ty L ad (va_up g (100 + j) (pcell (k6 j) (nN (k7 j)) (ad (200 + j)) (nN (k10 j)) x (k8 j))) pn k6 k7 k8 (upd k9 j x) k10 k11 k12 k13 := by
  obtain ⟨⟨pf, q1, q2, q3⟩, q4, q5⟩ := h
  refine ⟨⟨pf, (va_up_ne _ _ (by omega)).trans q1, q2, q3⟩, fun i hi => ?_, fun i v hi hv2 => ?_⟩
  · by_cases e : i = j
    · subst e
      obtain ⟨m1, m2, p1, tf, p2, p3, p4⟩ := q4 i hi
      exact ⟨m1, m2, by rw [va_up_self, pk_us], tf, (va_up_ne _ _ (by omega)).trans p2, p3, p4⟩
    · exact (q4 i hi).fr (fun _ h => h) (fun _ _ => rfl) (va_up_ne _ _ (by omega)) (va_up_ne _ _ (by omega)) rfl rfl rfl (pk_un e) rfl
  · have := hv i hi
    exact (q5 i v hi hv2).fr (fun _ h => h) (fun _ _ => rfl) (va_up_ne _ _ (by omega)) (va_up_ne _ _ (by omega)) (va_up_ne _ _ (by omega)) (va_up_ne _ _ (by omega)) rfl (fun _ _ => rfl) (fun _ _ => rfl)
theorem XP.set13 {pn : Nat} {k6 k7 k8 k9 k10 k11 k12 k13 l13 : FI} (h : XP ty L ad g pn k6 k7 k8 k9 k10 k11 k12 k13) {j v : Nat} (hj : j < pn) (hvj : v < nN (k10 j)) (hp : pn ≤ 8) (hv : ∀ j, j < pn → nN (k10 j) ≤ 4) (hs : ∀ j v, j < pn → v < nN (k10 j) → nN (k11 (4 * j + v)) ≤ 40) (bk : FI) (e1 : ∀ i, i < nN (k11 (4 * j + v)) → bk i = l13 (40 * (4 * j + v) + i)) (e2 : ∀ x, (x < 40 * (4 * j + v) ∨ 40 * (4 * j + v) + 40 ≤ x) → l13 x = k13 x) : XP ty L ad (va_up g (600 + (4 * j + v)) (.inl (ty 3, nN (k11 (4 * j + v)), .inl bk))) pn k6 k7 k8 k9 k10 k11 k12 l13 := by
  have hvv := hv j hj
  obtain ⟨⟨pf, q1, q2, q3⟩, q4, q5⟩ := h
  refine ⟨⟨pf, (va_up_ne _ _ (by omega)).trans q1, q2, q3⟩, fun i hi => (q4 i hi).fr (fun _ h => h) (fun _ _ => rfl) (va_up_ne _ _ (by omega)) (va_up_ne _ _ (by omega)) rfl rfl rfl rfl rfl, fun i u hi hu => ?_⟩
  have h4 := hv i hi
  by_cases e : 4 * i + u = 4 * j + v
  · obtain ⟨m, p3, p4, bs, bk0, p5, p6, p7⟩ := q5 i u hi hu
    rw [e] at m p3 p4 p5 p6 p7 ⊢
    exact ⟨m, (va_up_ne _ _ (by omega)).trans p3, (va_up_ne _ _ (by omega)).trans p4, bs, bk, (va_up_ne _ _ (by omega)).trans p5, va_up_self _ _ _, fun q hq => ⟨(p7 q hq).1, e1 q hq⟩⟩
  · have h40 := hs i u hi hu
    exact (q5 i u hi hu).fr (fun _ h => h) (fun _ _ => rfl) (va_up_ne _ _ (by omega)) (va_up_ne _ _ (by omega)) (va_up_ne _ _ (by omega)) (va_up_ne _ _ (by omega)) rfl (fun _ _ => rfl) (fun q hq => e2 _ (by omega))
/-- a new version vn of paper j, or a new paper j with version 0 -/
theorem XP.grow {pn pn1 : Nat} {k6 k7 k8 k9 k10 k11 k12 k13 l6 l7 l8 l9 l10 l11 l12 l13 : FI} (h : XP ty L ad g pn k6 k7 k8 k9 k10 k11 k12 k13) {j vn : Nat} (hL : ∀ x ∈ L, x ∈ L1) (hA : ∀ x ∈ L, ad1 x = ad x) (hfr : ∀ x ∈ L, 100 ≤ x → x < 700 → x ≠ 100 + j → x ≠ 200 + j → g1 x = g x) (hp1 : pn1 ≤ 8) (hj : j < pn1) (hcov : ∀ i, i < pn1 → i ≠ j → i < pn) (hpf : ∃ pf : Nat → Option Nat, g1 6 = qar (ty 4) 8 pf ∧ (∀ j, j < pn1 → pf j = some (ad1 (100 + j))) ∧ ∀ j, pn1 ≤ j → j < 8 → pf j = none) (hJ : XJ ty L1 ad1 g1 l6 l7 l8 l9 l10 j) (hT : XT ty L1 ad1 g1 l11 l12 l13 (4 * j + vn)) (he : ∀ i, i ≠ j → l6 i = k6 i ∧ l7 i = k7 i ∧ l8 i = k8 i ∧ l9 i = k9 i ∧ l10 i = k10 i) (h10 : nN (l10 j) = vn + 1) (hold : ∀ v, v < vn → j < pn ∧ v < nN (k10 j)) (e11 : ∀ t, t ≠ 4 * j + vn → l11 t = k11 t) (e12 : ∀ x, (x < 40 * (4 * j + vn) ∨ 40 * (4 * j + vn) + 40 ≤ x) → l12 x = k12 x) (e13 : ∀ x, (x < 40 * (4 * j + vn) ∨ 40 * (4 * j + vn) + 40 ≤ x) → l13 x = k13 x) (hv : ∀ j, j < pn → nN (k10 j) ≤ 4) (hs : ∀ j v, j < pn → v < nN (k10 j) → nN (k11 (4 * j + v)) ≤ 40) (hvn : vn < 4) : XP ty L1 ad1 g1 pn1 l6 l7 l8 l9 l10 l11 l12 l13 := by
  obtain ⟨-, q4, q5⟩ := h
  have old : ∀ i u, i < pn → u < nN (k10 i) → 4 * i + u ≠ 4 * j + vn → i < 8 → XT ty L1 ad1 g1 l11 l12 l13 (4 * i + u) := by
    intro i u hi hu hne hi8
    have h4 := hv i hi
    have h40 := hs i u hi hu
    obtain ⟨m3, m4, m5, m6⟩ := (q5 i u hi hu).1
    exact (q5 i u hi hu).fr hL hA (hfr _ m3 (by omega) (by omega) (by omega) (by omega)) (hfr _ m4 (by omega) (by omega) (by omega) (by omega)) (hfr _ m5 (by omega) (by omega) (by omega) (by omega)) (hfr _ m6 (by omega) (by omega) (by omega) (by omega)) (e11 _ hne) (fun q hq => e12 _ (by omega)) (fun q hq => e13 _ (by omega))
  refine ⟨hpf, fun i hi => ?_, fun i u hi hu => ?_⟩
  · by_cases e : i = j
    · subst e; exact hJ
    · have hi2 := hcov i hi e
      obtain ⟨a1, a2, a3, a4, a5⟩ := he i e
      exact (q4 i hi2).fr hL hA (hfr _ (q4 i hi2).1 (by omega) (by omega) (by omega) (by omega)) (hfr _ (q4 i hi2).2.1 (by omega) (by omega) (by omega) (by omega)) a1 a2 a3 a4 a5
  · by_cases e : i = j
    · subst e
      by_cases e2 : u = vn
      · subst e2; exact hT
      · obtain ⟨z1, z2⟩ := hold u (by omega)
        exact old i u z1 z2 (by omega) (by omega)
    · have hi2 := hcov i hi e
      have h4 := hv i hi2
      rw [(he i e).2.2.2.2] at hu
      exact old i u hi2 hu (by omega) (by omega)
theorem XF.grow {pn pn1 qn qn1 : Nat} {k10 l10 : FI} (h : XF L pn qn k10) {j vn : Nat} (hle : pn ≤ pn1) (hq : qn ≤ qn1) (hj : j < pn1) (h10 : ∀ i, i < pn → ∀ v, v < nN (k10 i) → v < nN (l10 i)) (hvn : vn < nN (l10 j)) (hnew : ∀ r ∈ L1, r ∈ L ∨ r = 100 + j ∨ r = 200 + j ∨ r = 300 + (4 * j + vn) ∨ r = 400 + (4 * j + vn) ∨ r = 500 + (4 * j + vn) ∨ r = 600 + (4 * j + vn)) : XF L1 pn1 qn1 l10 := by
  intro r hr
  rcases hnew r hr with h1 | h1 | h1 | h1 | h1 | h1 | h1
  · rcases h r h1 with h2 | h2 | h2 | h2 | ⟨i, u, h3, h4, h5⟩ | h2
    · exact Or.inl h2
    · exact Or.inr (Or.inl h2)
    · exact Or.inr (Or.inr (Or.inl (by omega)))
    · exact Or.inr (Or.inr (Or.inr (Or.inl (by omega))))
    · exact Or.inr (Or.inr (Or.inr (Or.inr (Or.inl ⟨i, u, by omega, h10 i h3 u h4, h5⟩))))
    · exact Or.inr (Or.inr (Or.inr (Or.inr (Or.inr (by omega)))))
  · exact Or.inr (Or.inr (Or.inl (by omega)))
  · exact Or.inr (Or.inr (Or.inr (Or.inl (by omega))))
  · exact Or.inr (Or.inr (Or.inr (Or.inr (Or.inl ⟨j, vn, hj, hvn, by omega⟩))))
  · exact Or.inr (Or.inr (Or.inr (Or.inr (Or.inl ⟨j, vn, hj, hvn, by omega⟩))))
  · exact Or.inr (Or.inr (Or.inr (Or.inr (Or.inl ⟨j, vn, hj, hvn, by omega⟩))))
  · exact Or.inr (Or.inr (Or.inr (Or.inr (Or.inl ⟨j, vn, hj, hvn, by omega⟩))))
theorem XF.no {pn qn : Nat} {k10 : FI} (h : XF L pn qn k10) (hp : pn ≤ 8) (hq : qn ≤ 30) (hv : ∀ j, j < pn → nN (k10 j) ≤ 4) {j vn : Nat} (hj : j < 8) (hvn : vn < 4) (hno : j < pn → nN (k10 j) ≤ vn) : 300 + (4 * j + vn) ∉ L ∧ 400 + (4 * j + vn) ∉ L ∧ 500 + (4 * j + vn) ∉ L ∧ 600 + (4 * j + vn) ∉ L := by
  have key : ∀ r, (r = 300 + (4 * j + vn) ∨ r = 400 + (4 * j + vn) ∨ r = 500 + (4 * j + vn) ∨ r = 600 + (4 * j + vn)) → r ∉ L := by
    intro r hr hm
    rcases h r hm with h2 | h2 | h2 | h2 | ⟨i, u, h3, h4, h5⟩ | h2
    · omega
    · omega
    · omega
    · omega
    · have h6 := hv i h3
      have e : i = j := by omega
      subst e
      have h7 := hno h3
      omega
    · omega
  exact ⟨key _ (Or.inl rfl), key _ (Or.inr (Or.inl rfl)), key _ (Or.inr (Or.inr (Or.inl rfl))), key _ (Or.inr (Or.inr (Or.inr rfl)))⟩
theorem XF.noP {pn qn : Nat} {k10 : FI} (h : XF L pn qn k10) (hp : pn < 8) (hq : qn ≤ 30) (hv : ∀ j, j < pn → nN (k10 j) ≤ 4) : 100 + pn ∉ L ∧ 200 + pn ∉ L := by
  have key : ∀ r, (r = 100 + pn ∨ r = 200 + pn) → r ∉ L := by
    intro r hr hm
    rcases h r hm with h2 | h2 | h2 | h2 | ⟨i, u, h3, h4, h5⟩ | h2
    · omega
    · omega
    · omega
    · omega
    · have h6 := hv i h3
      omega
    · omega
  exact ⟨key _ (Or.inl rfl), key _ (Or.inr rfl)⟩
theorem XF.noQ {pn qn : Nat} {k10 : FI} (h : XF L pn qn k10) (hp : pn ≤ 8) (hq : qn < 30) (hv : ∀ j, j < pn → nN (k10 j) ≤ 4) : 700 + qn ∉ L := by
  intro hm
  rcases h _ hm with h2 | h2 | h2 | h2 | ⟨i, u, h3, h4, h5⟩ | h2
  · omega
  · omega
  · omega
  · omega
  · have h6 := hv i h3
    omega
  · omega
theorem XF.askd {pn qn : Nat} {k10 : FI} (h : XF L pn qn k10) (hnew : ∀ r ∈ L1, r ∈ L ∨ r = 700 + qn) : XF L1 pn (qn + 1) k10 := by
  intro r hr
  rcases hnew r hr with h1 | h1
  · rcases h r h1 with h2 | h2 | h2 | h2 | h2 | h2
    · exact Or.inl h2
    · exact Or.inr (Or.inl h2)
    · exact Or.inr (Or.inr (Or.inl h2))
    · exact Or.inr (Or.inr (Or.inr (Or.inl h2)))
    · exact Or.inr (Or.inr (Or.inr (Or.inr (Or.inl h2))))
    · exact Or.inr (Or.inr (Or.inr (Or.inr (Or.inr (by omega)))))
  · exact Or.inr (Or.inr (Or.inr (Or.inr (Or.inr (by omega)))))
theorem XQ.settle {qn : Nat} {f0 f1 f2 f3 f4 : FI} (h : XQ ty L ad g qn f0 f1 f2 f3 f4) {q : Nat} (hq : q < qn) (hqn : qn ≤ 30) (c v : Int32) : XQ ty L ad (va_up g (700 + q) (.inr (3, [.int (f0 q), .int (f1 q), .int (f2 q), .int c, .int v]))) qn f0 f1 f2 (upd f3 q c) (upd f4 q v) := by
  obtain ⟨qf, qv, h1, h2, h3, h4, h5, h6⟩ := h
  refine ⟨qf, upd qv q v, (va_up_ne _ _ (by omega)).trans h1, h2, h3, h4, fun i hi => ?_, fun i hi hn => ?_⟩
  · by_cases e : i = q
    · subst e; rw [va_up_self, pk_us, pk_us]
    · rw [pk_un e, pk_un e]; exact (va_up_ne _ _ (by omega)).trans (h5 i hi)
  · by_cases e : i = q
    · subst e; rw [pk_us, pk_us]
    · rw [pk_un e] at hn; rw [pk_un e, pk_un e]; exact h6 i hi hn
theorem XV.put {vn vb wb : FI} (h : XV ty ad g vn vb) {b m : Nat} (hb : b < 6) (h7 : g1 7 = g 7) (ho : ∀ c, c < 6 → c ≠ b → g1 (8 + c) = g (8 + c) ∧ g1 (14 + c) = g (14 + c)) {bs : FI} (h8 : g1 (8 + b) = .inr (5, [.ref (ad (14 + b)), .int (nI m)])) (h14 : g1 (14 + b) = .inl (ty 2, 80, .inl bs)) (hm : m ≤ 80) (hs : ∀ c, c < 6 → nN (vn c) ≤ 80) (hin : ∀ i, i < m → bs i = wb (80 * b + i)) (hout : ∀ x, (x < 80 * b ∨ 80 * b + 80 ≤ x) → wb x = vb x) : XV ty ad g1 (upd vn b (nI m)) wb := by
  obtain ⟨⟨vf, q1, q2⟩, q3⟩ := h
  refine ⟨⟨vf, h7.trans q1, q2⟩, fun c hc => ?_⟩
  by_cases e : c = b
  · subst e
    rw [pk_us, nN_nI (by omega)]
    exact ⟨h8, bs, h14, hin⟩
  · rw [pk_un e]
    obtain ⟨p1, bs0, p2, p3⟩ := q3 c hc
    obtain ⟨o1, o2⟩ := ho c hc e
    have h80 := hs c hc
    exact ⟨o1.trans p1, bs0, o2.trans p2, fun i hi => by rw [hout (80 * c + i) (by omega)]; exact p3 i hi⟩
end SY
theorem lk_note {f0 f1 f2 f3 : FI} {f4 : Nat → Int64} {en : Nat} (hlk : ∀ k, k < en → f4 k = lkc f0 f1 f2 f3 (k + 1)) {c : Int64} (hc : c = lkc f0 f1 f2 f3 en) (x0 x1 x2 x3 : Int32) : ∀ k, k < en + 1 → vp_updL f4 en (lk c x0 x1 x2 x3) k = lkc (upd f0 en x0) (upd f1 en x1) (upd f2 en x2) (upd f3 en x3) (k + 1) := by
  intro k hk
  by_cases e : k = en
  · subst e
    rw [pk_uLs]
    show lk c x0 x1 x2 x3 = lk (lkc (upd f0 k x0) (upd f1 k x1) (upd f2 k x2) (upd f3 k x3) k) (upd f0 k x0 k) (upd f1 k x1 k) (upd f2 k x2 k) (upd f3 k x3 k)
    rw [pk_us, pk_us, pk_us, pk_us, hc, lkc_cg (h0 := upd f0 k x0) (h1 := upd f1 k x1) (h2 := upd f2 k x2) (h3 := upd f3 k x3) k (fun q hq => ⟨(pk_un (by omega)).symm, (pk_un (by omega)).symm, (pk_un (by omega)).symm, (pk_un (by omega)).symm⟩)]
  · rw [pk_uLn e, hlk k (by omega)]
    exact lkc_cg (k + 1) (fun q hq => ⟨(pk_un (by omega)).symm, (pk_un (by omega)).symm, (pk_un (by omega)).symm, (pk_un (by omega)).symm⟩)
/-- the state's own words behind a new version or paper -/
theorem PP_grow {pn pn1 : Nat} {k6 k7 k8 k9 k10 k11 k12 k13 l6 l7 l8 l9 l10 l11 l12 l13 : FI} (pJ : ∀ j, j < pn → PJ k6 k7 k8 k9 k10 j) (pT : ∀ j v, j < pn → v < nN (k10 j) → PT k11 k12 k13 (4 * j + v)) {j vn : Nat} (hcov : ∀ i, i < pn1 → i ≠ j → i < pn) (hJ : PJ l6 l7 l8 l9 l10 j) (hT : PT l11 l12 l13 (4 * j + vn)) (he : ∀ i, i ≠ j → l6 i = k6 i ∧ l7 i = k7 i ∧ l8 i = k8 i ∧ l9 i = k9 i ∧ l10 i = k10 i) (h10 : nN (l10 j) = vn + 1) (hold : ∀ v, v < vn → j < pn ∧ v < nN (k10 j)) (e11 : ∀ t, t ≠ 4 * j + vn → l11 t = k11 t) (e12 : ∀ x, (x < 40 * (4 * j + vn) ∨ 40 * (4 * j + vn) + 40 ≤ x) → l12 x = k12 x) (e13 : ∀ x, (x < 40 * (4 * j + vn) ∨ 40 * (4 * j + vn) + 40 ≤ x) → l13 x = k13 x) (hvn : vn < 4) : (∀ j, j < pn1 → PJ l6 l7 l8 l9 l10 j) ∧ ∀ j v, j < pn1 → v < nN (l10 j) → PT l11 l12 l13 (4 * j + v) := by
  have old : ∀ i u, i < pn → u < nN (k10 i) → 4 * i + u ≠ 4 * j + vn → PT l11 l12 l13 (4 * i + u) := by
    intro i u hi hu hne
    obtain ⟨h1, h2⟩ := pT i u hi hu
    unfold PT
    rw [e11 _ hne]
    refine ⟨h1, fun q hq => ?_⟩
    rw [e12 (40 * (4 * i + u) + q) (by omega), e13 (40 * (4 * i + u) + q) (by omega)]
    exact h2 q hq
  refine ⟨fun i hi => ?_, fun i u hi hu => ?_⟩
  · by_cases e : i = j
    · subst e; exact hJ
    · obtain ⟨a1, a2, a3, a4, a5⟩ := he i e
      unfold PJ
      rw [a1, a2, a3, a4, a5]
      exact pJ i (hcov i hi e)
  · by_cases e : i = j
    · subst e
      by_cases e2 : u = vn
      · subst e2; exact hT
      · obtain ⟨z1, z2⟩ := hold u (by omega)
        exact old i u z1 z2 (by omega)
    · have hi2 := hcov i hi e
      have h4 := (pJ i hi2).2.2.2.1.2.2
      rw [(he i e).2.2.2.2] at hu
      exact old i u hi2 hu (by omega)
