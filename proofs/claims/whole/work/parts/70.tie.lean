/-! THE CLASS AND THE REFERENCE OVER ONE STATE -/
abbrev FI : Type := Nat → Int32
def nN (x : Int32) : Nat := x.toNatClampNeg
theorem nN_nI {n : Nat} (h : n < 2147483648) : nN (nI n) = n := nI_clamp h
abbrev xobj (ad : Nat → Nat) (pn qn : Nat) (nw : Int32) (tr : Int64) : va_E := .inr (8, [.ref (ad 1), .ref (ad 3), .ref (ad 6), .int (nI pn), .ref (ad 7), .ref (ad 20), .ref (ad 22), .ref (ad 28), .int (nI qn), .ref (ad 29), .int nw, .long tr])
abbrev qar (c : ClassId) (n : Nat) (f : Nat → Option Nat) : va_E := .inl (c, n, .inr (.inr (.inr (.inr f))))
/-- the object -/
def XO (L : List Nat) (ad : Nat → Nat) (g : Nat → va_E) (pn qn : Nat) (nw : Int32) (tr : Int64) : Prop := (∀ r, r < 30 → r ∈ L) ∧ g 0 = xobj ad pn qn nw tr
/-- the draft -/
def XD (ty : Nat → ClassId) (ad : Nat → Nat) (g : Nat → va_E) (dn : Nat) (d : FI) : Prop := g 1 = .inr (5, [.ref (ad 2), .int (nI dn)]) ∧ ∃ db : FI, g 2 = .inl (ty 2, 40, .inl db) ∧ ∀ i, i < dn → db i = d i
/-- the rights -/
def XR (ty : Nat → ClassId) (ad : Nat → Nat) (g : Nat → va_E) (s e : FI) : Prop := g 3 = .inr (4, [.ref (ad 4), .ref (ad 5)]) ∧ g 4 = .inl (ty 0, 12, .inl s) ∧ g 5 = .inl (ty 0, 12, .inl e)
/-- the views -/
def XV (ty : Nat → ClassId) (ad : Nat → Nat) (g : Nat → va_E) (vn vb : FI) : Prop := (∃ vf : Nat → Option Nat, g 7 = qar (ty 6) 6 vf ∧ ∀ b, b < 6 → vf b = some (ad (8 + b))) ∧ ∀ b, b < 6 → g (8 + b) = .inr (5, [.ref (ad (14 + b)), .int (nI (nN (vn b)))]) ∧ ∃ bs : FI, g (14 + b) = .inl (ty 2, 80, .inl bs) ∧ ∀ i, i < nN (vn b) → bs i = vb (80 * b + i)
/-- the sample -/
def XS (ty : Nat → ClassId) (ad : Nat → Nat) (g : Nat → va_E) : Prop := ∃ (sl : Nat) (sb : FI), g 20 = .inr (5, [.ref (ad 21), .int (nI sl)]) ∧ g 21 = .inl (ty 2, 80, .inl sb)
/-- the log -/
def XN (ty : Nat → ClassId) (ad : Nat → Nat) (g : Nat → va_E) (en : Nat) (lo : Int32) (f0 f1 f2 f3 : FI) : Prop := g 22 = .inr (6, [.ref (ad 23), .ref (ad 24), .ref (ad 25), .ref (ad 26), .ref (ad 27), .int (nI en), .int lo]) ∧ g 23 = .inl (ty 0, 200, .inl f0) ∧ g 24 = .inl (ty 0, 200, .inl f1) ∧ g 25 = .inl (ty 0, 200, .inl f2) ∧ g 26 = .inl (ty 0, 200, .inl f3) ∧ ∃ f4 : Nat → Int64, g 27 = .inl (ty 1, 200, .inr (.inl f4)) ∧ ∀ k, k < en → f4 k = lkc f0 f1 f2 f3 (k + 1)
/-- the questions -/
def XQ (ty : Nat → ClassId) (L : List Nat) (ad : Nat → Nat) (g : Nat → va_E) (qn : Nat) (f0 f1 f2 f3 f4 : FI) : Prop := ∃ (qf : Nat → Option Nat) (qv : FI), g 28 = qar (ty 5) 30 qf ∧ (∀ i, i < qn → qf i = some (ad (700 + i))) ∧ (∀ i, qn ≤ i → i < 30 → qf i = none) ∧ (∀ i, i < qn → 700 + i ∈ L) ∧ (∀ i, i < qn → g (700 + i) = .inr (3, [.int (f0 i), .int (f1 i), .int (f2 i), .int (f3 i), .int (qv i)])) ∧ ∀ i, i < qn → ¬ f3 i = 0 → qv i = f4 i
/-- who asked in this tick -/
def XK (ty : Nat → ClassId) (g : Nat → va_E) (nw : Int32) (fi ft : FI) : Prop := ∃ ak : FI, g 29 = .inl (ty 0, 6, .inl ak) ∧ ∀ b, b < 6 → ak b = if fi b = nw then ft b else 0
/-- a paper's cell: Held, Marked or Paper -/
def pcell (kd : Int32) (fo r vn : Nat) (wd lg : Int32) : va_E := if kd = 1 then .inr (0, [.int (nI fo), .ref r, .int (nI vn), .int wd, .int lg]) else if kd = 2 then .inr (1, [.int (nI fo), .ref r, .int (nI vn), .int wd]) else .inr (2, [.int (nI fo), .ref r, .int (nI vn), .int wd])
theorem pcell_0 {kd : Int32} (h : kd = 0) (fo r vn : Nat) (wd lg : Int32) : pcell kd fo r vn wd lg = .inr (2, [.int (nI fo), .ref r, .int (nI vn), .int wd]) := by subst h; rfl
theorem pcell_1 {kd : Int32} (h : kd = 1) (fo r vn : Nat) (wd lg : Int32) : pcell kd fo r vn wd lg = .inr (0, [.int (nI fo), .ref r, .int (nI vn), .int wd, .int lg]) := by subst h; rfl
theorem pcell_2 {kd : Int32} (h : kd = 2) (fo r vn : Nat) (wd lg : Int32) : pcell kd fo r vn wd lg = .inr (1, [.int (nI fo), .ref r, .int (nI vn), .int wd]) := by subst h; rfl
/-- paper j -/
def XJ (ty : Nat → ClassId) (L : List Nat) (ad : Nat → Nat) (g : Nat → va_E) (k6 k7 k8 k9 k10 : FI) (j : Nat) : Prop := 100 + j ∈ L ∧ 200 + j ∈ L ∧ g (100 + j) = pcell (k6 j) (nN (k7 j)) (ad (200 + j)) (nN (k10 j)) (k9 j) (k8 j) ∧ ∃ tf : Nat → Option Nat, g (200 + j) = qar (ty 7) 4 tf ∧ (∀ v, v < nN (k10 j) → tf v = some (ad (300 + (4 * j + v))) ∧ 300 + (4 * j + v) ∈ L) ∧ ∀ v, nN (k10 j) ≤ v → v < 4 → tf v = none
/-- text t -/
def XT (ty : Nat → ClassId) (L : List Nat) (ad : Nat → Nat) (g : Nat → va_E) (k11 k12 k13 : FI) (t : Nat) : Prop := (300 + t ∈ L ∧ 400 + t ∈ L ∧ 500 + t ∈ L ∧ 600 + t ∈ L) ∧ g (300 + t) = .inr (7, [.ref (ad (400 + t)), .ref (ad (600 + t))]) ∧ g (400 + t) = .inr (5, [.ref (ad (500 + t)), .int (nI (nN (k11 t)))]) ∧ ∃ bs bk : FI, g (500 + t) = .inl (ty 2, nN (k11 t), .inl bs) ∧ g (600 + t) = .inl (ty 3, nN (k11 t), .inl bk) ∧ ∀ i, i < nN (k11 t) → bs i = k12 (40 * t + i) ∧ bk i = k13 (40 * t + i)
/-- the papers -/
def XP (ty : Nat → ClassId) (L : List Nat) (ad : Nat → Nat) (g : Nat → va_E) (pn : Nat) (k6 k7 k8 k9 k10 k11 k12 k13 : FI) : Prop := (∃ pf : Nat → Option Nat, g 6 = qar (ty 4) 8 pf ∧ (∀ j, j < pn → pf j = some (ad (100 + j))) ∧ ∀ j, pn ≤ j → j < 8 → pf j = none) ∧ (∀ j, j < pn → XJ ty L ad g k6 k7 k8 k9 k10 j) ∧ ∀ j v, j < pn → v < nN (k10 j) → XT ty L ad g k11 k12 k13 (4 * j + v)
/-- which roles there may be -/
def XF (L : List Nat) (pn qn : Nat) (k10 : FI) : Prop := ∀ r ∈ L, r < 30 ∨ 1000 ≤ r ∨ (100 ≤ r ∧ r < 100 + pn) ∨ (200 ≤ r ∧ r < 200 + pn) ∨ (∃ j v, j < pn ∧ v < nN (k10 j) ∧ (r = 300 + (4 * j + v) ∨ r = 400 + (4 * j + v) ∨ r = 500 + (4 * j + v) ∨ r = 600 + (4 * j + v))) ∨ (700 ≤ r ∧ r < 700 + qn)
/-- the class's cells hold this state -/
def RX (ty : Nat → ClassId) (L : List Nat) (ad : Nat → Nat) (g : Nat → va_E) (a : Nat → FI) (dn pn en qn : Nat) (nw lo : Int32) (tr : Int64) : Prop := XO L ad g pn qn nw tr ∧ XD ty ad g dn (a 1) ∧ XR ty ad g (a 3) (a 4) ∧ XP ty L ad g pn (a 6) (a 7) (a 8) (a 9) (a 10) (a 11) (a 12) (a 13) ∧ XV ty ad g (a 14) (a 15) ∧ XS ty ad g ∧ XN ty ad g en lo (a 18) (a 19) (a 20) (a 21) ∧ XQ ty L ad g qn (a 23) (a 24) (a 25) (a 26) (a 27) ∧ XK ty g nw (a 28) (a 29) ∧ XF L pn qn (a 10)
/-! what is true of the state -/
def PD (dn : Nat) (d : FI) : Prop := ∀ i, i < dn → 32 ≤ (d i).toInt ∧ (d i).toInt ≤ 126
def PJ (k6 k7 k8 k9 k10 : FI) (j : Nat) : Prop := (k6 j = 0 ∨ k6 j = 1 ∨ k6 j = 2) ∧ (k7 j = nI (nN (k7 j)) ∧ nN (k7 j) < 4) ∧ (k9 j = 0 ∨ k9 j = 1) ∧ (k10 j = nI (nN (k10 j)) ∧ 1 ≤ nN (k10 j) ∧ nN (k10 j) ≤ 4) ∧ (¬ k6 j = 1 → k8 j = 0)
def PT (k11 k12 k13 : FI) (t : Nat) : Prop := (k11 t = nI (nN (k11 t)) ∧ 1 ≤ nN (k11 t) ∧ nN (k11 t) ≤ 40) ∧ ∀ i, i < nN (k11 t) → (32 ≤ (k12 (40 * t + i)).toInt ∧ (k12 (40 * t + i)).toInt ≤ 126) ∧ (k13 (40 * t + i) = 0 ∨ k13 (40 * t + i) = 1)
def PV (k14 : FI) : Prop := ∀ b, b < 6 → k14 b = nI (nN (k14 b)) ∧ nN (k14 b) ≤ 80
def PQ (pn : Nat) (k23 k25 k26 : FI) (q : Nat) : Prop := (∃ j, j < pn ∧ k23 q = nI j) ∧ (∃ n, n < 64 ∧ k25 q = nI n) ∧ (k26 q = 0 ∨ k26 q = 1 ∨ k26 q = 2)
def PK (k28 k29 : FI) (nw : Int32) (k : Nat) : Prop := (0 ≤ nw.toInt ∧ nw.toInt ≤ 1000 * (k : Int)) ∧ ∀ b, b < 6 → (k28 b).toInt ≤ nw.toInt ∧ 0 ≤ (k29 b).toInt ∧ (k29 b).toInt ≤ 2
def PI (a : Nat → FI) (dn pn en qn : Nat) (nw : Int32) (k : Nat) : Prop := (dn ≤ 40 ∧ pn ≤ 8 ∧ en ≤ 200 ∧ qn ≤ 30) ∧ PD dn (a 1) ∧ (∀ j, j < pn → PJ (a 6) (a 7) (a 8) (a 9) (a 10) j) ∧ (∀ j v, j < pn → v < nN (a 10 j) → PT (a 11) (a 12) (a 13) (4 * j + v)) ∧ PV (a 14) ∧ (∀ q, q < qn → PQ pn (a 23) (a 25) (a 26) q) ∧ PK (a 28) (a 29) nw k
theorem PI.next {a : Nat → FI} {dn pn en qn : Nat} {nw : Int32} {k : Nat} (h : PI a dn pn en qn nw k) : PI a dn pn en qn nw (k + 1) := by
  obtain ⟨h0, h1, h2, h3, h4, h5, ⟨h6, h7⟩, h8⟩ := h
  exact ⟨h0, h1, h2, h3, h4, h5, ⟨h6, by omega⟩, h8⟩
theorem PK.next {k28 k29 : FI} {nw : Int32} {k : Nat} (h : PK k28 k29 nw k) : PK k28 k29 nw (k + 1) := by
  obtain ⟨⟨h6, h7⟩, h8⟩ := h
  exact ⟨⟨h6, by omega⟩, h8⟩
section SX
variable {ty : Nat → ClassId} {L L1 : List Nat} {ad ad1 : Nat → Nat} {g g1 : Nat → va_E}
theorem xobj_cg (hA : ∀ r, r < 30 → ad1 r = ad r) (pn qn : Nat) (nw : Int32) (tr : Int64) : xobj ad1 pn qn nw tr = xobj ad pn qn nw tr := by
  simp only [xobj, hA 1 (by decide), hA 3 (by decide), hA 6 (by decide), hA 7 (by decide), hA 20 (by decide), hA 22 (by decide), hA 28 (by decide), hA 29 (by decide)]
theorem XO.fr {pn qn : Nat} {nw : Int32} {tr : Int64} (h : XO L ad g pn qn nw tr) (hL : ∀ r, r < 30 → r ∈ L1) (hA : ∀ r, r < 30 → ad1 r = ad r) (hg : g1 0 = g 0) : XO L1 ad1 g1 pn qn nw tr := ⟨hL, by rw [hg, h.2, xobj_cg hA]⟩
theorem XD.fr {dn : Nat} {d : FI} (h : XD ty ad g dn d) (hA : ∀ r, r < 30 → ad1 r = ad r) (hg : ∀ r, 1 ≤ r → r < 3 → g1 r = g r) : XD ty ad1 g1 dn d := by
  obtain ⟨h1, db, h2, h3⟩ := h
  exact ⟨by rw [hg 1 (by decide) (by decide), h1, hA 2 (by decide)], db, by rw [hg 2 (by decide) (by decide)]; exact h2, h3⟩
theorem XR.fr {s e : FI} (h : XR ty ad g s e) (hA : ∀ r, r < 30 → ad1 r = ad r) (hg : ∀ r, 3 ≤ r → r < 6 → g1 r = g r) : XR ty ad1 g1 s e := by
  obtain ⟨h1, h2, h3⟩ := h
  exact ⟨by rw [hg 3 (by decide) (by decide), h1, hA 4 (by decide), hA 5 (by decide)], by rw [hg 4 (by decide) (by decide)]; exact h2, by rw [hg 5 (by decide) (by decide)]; exact h3⟩
theorem XV.fr {vn vb : FI} (h : XV ty ad g vn vb) (hA : ∀ r, r < 30 → ad1 r = ad r) (hg : ∀ r, 7 ≤ r → r < 20 → g1 r = g r) : XV ty ad1 g1 vn vb := by
  obtain ⟨⟨vf, h1, h2⟩, h3⟩ := h
  refine ⟨⟨vf, by rw [hg 7 (by decide) (by decide)]; exact h1, fun b hb => by rw [hA (8 + b) (by omega)]; exact h2 b hb⟩, fun b hb => ?_⟩
  obtain ⟨h4, bs, h5, h6⟩ := h3 b hb
  exact ⟨by rw [hg (8 + b) (by omega) (by omega), h4, hA (14 + b) (by omega)], bs, by rw [hg (14 + b) (by omega) (by omega)]; exact h5, h6⟩
theorem XS.fr (h : XS ty ad g) (hA : ∀ r, r < 30 → ad1 r = ad r) (hg : ∀ r, 20 ≤ r → r < 22 → g1 r = g r) : XS ty ad1 g1 := by
  obtain ⟨sl, sb, h1, h2⟩ := h
  exact ⟨sl, sb, by rw [hg 20 (by decide) (by decide), h1, hA 21 (by decide)], by rw [hg 21 (by decide) (by decide)]; exact h2⟩
theorem XN.fr {en : Nat} {lo : Int32} {f0 f1 f2 f3 : FI} (h : XN ty ad g en lo f0 f1 f2 f3) (hA : ∀ r, r < 30 → ad1 r = ad r) (hg : ∀ r, 22 ≤ r → r < 28 → g1 r = g r) : XN ty ad1 g1 en lo f0 f1 f2 f3 := by
  obtain ⟨h0, h1, h2, h3, h4, f4, h5, h6⟩ := h
  exact ⟨by rw [hg 22 (by decide) (by decide), h0, hA 23 (by decide), hA 24 (by decide), hA 25 (by decide), hA 26 (by decide), hA 27 (by decide)], by rw [hg 23 (by decide) (by decide)]; exact h1, by rw [hg 24 (by decide) (by decide)]; exact h2, by rw [hg 25 (by decide) (by decide)]; exact h3, by rw [hg 26 (by decide) (by decide)]; exact h4, f4, by rw [hg 27 (by decide) (by decide)]; exact h5, h6⟩
theorem XQ.fr {qn : Nat} {f0 f1 f2 f3 f4 : FI} (h : XQ ty L ad g qn f0 f1 f2 f3 f4) (hL : ∀ x ∈ L, x ∈ L1) (hA : ∀ x ∈ L, ad1 x = ad x) (h28 : g1 28 = g 28) (hg : ∀ x ∈ L, 700 ≤ x → x < 1000 → g1 x = g x) (hq : qn ≤ 30) : XQ ty L1 ad1 g1 qn f0 f1 f2 f3 f4 := by
  obtain ⟨qf, qv, h1, h2, h3, h4, h5, h6⟩ := h
  exact ⟨qf, qv, by rw [h28]; exact h1, fun i hi => by rw [hA _ (h4 i hi)]; exact h2 i hi, h3, fun i hi => hL _ (h4 i hi), fun i hi => by rw [hg _ (h4 i hi) (by omega) (by omega)]; exact h5 i hi, h6⟩
theorem XK.fr {nw : Int32} {fi ft : FI} (h : XK ty g nw fi ft) (hg : g1 29 = g 29) : XK ty g1 nw fi ft := by
  obtain ⟨ak, h1, h2⟩ := h
  exact ⟨ak, by rw [hg]; exact h1, h2⟩
theorem XJ.fr {k6 k7 k8 k9 k10 l6 l7 l8 l9 l10 : FI} {j : Nat} (h : XJ ty L ad g k6 k7 k8 k9 k10 j) (hL : ∀ x ∈ L, x ∈ L1) (hA : ∀ x ∈ L, ad1 x = ad x) (h1 : g1 (100 + j) = g (100 + j)) (h2 : g1 (200 + j) = g (200 + j)) (e6 : l6 j = k6 j) (e7 : l7 j = k7 j) (e8 : l8 j = k8 j) (e9 : l9 j = k9 j) (e10 : l10 j = k10 j) : XJ ty L1 ad1 g1 l6 l7 l8 l9 l10 j := by
  obtain ⟨m1, m2, p1, tf, p2, p3, p4⟩ := h
  unfold XJ
  rw [e6, e7, e8, e9, e10]
  exact ⟨hL _ m1, hL _ m2, by rw [h1, p1, hA _ m2], tf, by rw [h2]; exact p2, fun v hv => ⟨by rw [hA _ (p3 v hv).2]; exact (p3 v hv).1, hL _ (p3 v hv).2⟩, p4⟩
theorem XT.fr {k11 k12 k13 l11 l12 l13 : FI} {t : Nat} (h : XT ty L ad g k11 k12 k13 t) (hL : ∀ x ∈ L, x ∈ L1) (hA : ∀ x ∈ L, ad1 x = ad x) (h3 : g1 (300 + t) = g (300 + t)) (h4 : g1 (400 + t) = g (400 + t)) (h5 : g1 (500 + t) = g (500 + t)) (h6 : g1 (600 + t) = g (600 + t)) (e11 : l11 t = k11 t) (e12 : ∀ i, i < nN (k11 t) → l12 (40 * t + i) = k12 (40 * t + i)) (e13 : ∀ i, i < nN (k11 t) → l13 (40 * t + i) = k13 (40 * t + i)) : XT ty L1 ad1 g1 l11 l12 l13 t := by
  obtain ⟨⟨m3, m4, m5, m6⟩, p3, p4, bs, bk, p5, p6, p7⟩ := h
  unfold XT
  rw [e11]
  exact ⟨⟨hL _ m3, hL _ m4, hL _ m5, hL _ m6⟩, by rw [h3, p3, hA _ m4, hA _ m6], by rw [h4, p4, hA _ m5], bs, bk, by rw [h5]; exact p5, by rw [h6]; exact p6, fun i hi => ⟨by rw [e12 i hi]; exact (p7 i hi).1, by rw [e13 i hi]; exact (p7 i hi).2⟩⟩
theorem XP.fr {pn : Nat} {k6 k7 k8 k9 k10 k11 k12 k13 : FI} (h : XP ty L ad g pn k6 k7 k8 k9 k10 k11 k12 k13) (hL : ∀ x ∈ L, x ∈ L1) (hA : ∀ x ∈ L, ad1 x = ad x) (h6 : g1 6 = g 6) (hg : ∀ x ∈ L, 100 ≤ x → x < 700 → g1 x = g x) (hp : pn ≤ 8) (hv : ∀ j, j < pn → nN (k10 j) ≤ 4) : XP ty L1 ad1 g1 pn k6 k7 k8 k9 k10 k11 k12 k13 := by
  obtain ⟨⟨pf, q1, q2, q3⟩, q4, q5⟩ := h
  refine ⟨⟨pf, by rw [h6]; exact q1, fun j hj => by rw [hA _ (q4 j hj).1]; exact q2 j hj, q3⟩, fun j hj => (q4 j hj).fr hL hA (hg _ (q4 j hj).1 (by omega) (by omega)) (hg _ (q4 j hj).2.1 (by omega) (by omega)) rfl rfl rfl rfl rfl, fun j v hj hv2 => ?_⟩
  have hv4 := hv j hj
  obtain ⟨m3, m4, m5, m6⟩ := (q5 j v hj hv2).1
  exact (q5 j v hj hv2).fr hL hA (hg _ m3 (by omega) (by omega)) (hg _ m4 (by omega) (by omega)) (hg _ m5 (by omega) (by omega)) (hg _ m6 (by omega) (by omega)) rfl (fun _ _ => rfl) (fun _ _ => rfl)

theorem RX.hi {a : Nat → FI} {dn pn en qn k : Nat} {nw lo : Int32} {tr : Int64} (h : RX ty L ad g a dn pn en qn nw lo tr) (hp : PI a dn pn en qn nw k) (hg : ∀ x, x < 1000 → g1 x = g x) : RX ty L ad g1 a dn pn en qn nw lo tr := by
  obtain ⟨o, d, r, p, v, s, n, q, k, f⟩ := h
  have hA : ∀ r, r < 30 → ad r = ad r := fun _ _ => rfl
  have hA2 : ∀ x ∈ L, ad x = ad x := fun _ _ => rfl
  exact ⟨o.fr o.1 hA (hg _ (by decide)), d.fr hA (fun x _ _ => hg x (by omega)), r.fr hA (fun x _ _ => hg x (by omega)), p.fr (fun _ h => h) hA2 (hg _ (by decide)) (fun x _ _ _ => hg x (by omega)) hp.1.2.1 (fun j hj => (hp.2.2.1 j hj).2.2.2.1.2.2), v.fr hA (fun x _ _ => hg x (by omega)), s.fr hA (fun x _ _ => hg x (by omega)), n.fr hA (fun x _ _ => hg x (by omega)), q.fr (fun _ h => h) hA2 (hg _ (by decide)) (fun x _ _ h => hg x h) hp.1.2.2.2, k.fr (hg _ (by decide)), f⟩
theorem mrol_ge : ∀ r ∈ mrol, 1000 ≤ r := by decide
theorem RM_fr {a : Nat → FI} {dn pn en qn mz : Nat} {nw lo : Int32} {tr : Int64} (h : RM ty L ad g a dn pn en qn mz nw lo tr) (hL : ∀ x ∈ L, x ∈ L1) (hA : ∀ x ∈ L, ad1 x = ad x) (hg : ∀ x ∈ L, 1000 ≤ x → g1 x = g x) : RM ty L1 ad1 g1 a dn pn en qn mz nw lo tr := by
  obtain ⟨hm, h1000, h1002, h1004, h1005, h1007, h1008, h1009, h1010, h1011, h1012, h1013, h1014, h1015, h1016, h1019, h1020, h1021, h1022, h1024, h1025, h1026, h1027, h1028, h1029, h1030, h1032⟩ := h
  have hr : ∀ r ∈ mrol, ad1 r = ad r := fun r hr => hA r (hm r hr)
  have hq : ∀ r ∈ mrol, g1 r = g r := fun r hr => hg r (hm r hr) (mrol_ge r hr)
  refine ⟨fun r hr => hL r (hm r hr), ?_, by rw [hq 1002 (by decide)]; exact h1002, by rw [hq 1004 (by decide)]; exact h1004, by rw [hq 1005 (by decide)]; exact h1005, by rw [hq 1007 (by decide)]; exact h1007, by rw [hq 1008 (by decide)]; exact h1008, by rw [hq 1009 (by decide)]; exact h1009, by rw [hq 1010 (by decide)]; exact h1010, by rw [hq 1011 (by decide)]; exact h1011, by rw [hq 1012 (by decide)]; exact h1012, by rw [hq 1013 (by decide)]; exact h1013, by rw [hq 1014 (by decide)]; exact h1014, by rw [hq 1015 (by decide)]; exact h1015, by rw [hq 1016 (by decide)]; exact h1016, by rw [hq 1019 (by decide)]; exact h1019, by rw [hq 1020 (by decide)]; exact h1020, by rw [hq 1021 (by decide)]; exact h1021, by rw [hq 1022 (by decide)]; exact h1022, by rw [hq 1024 (by decide)]; exact h1024, by rw [hq 1025 (by decide)]; exact h1025, by rw [hq 1026 (by decide)]; exact h1026, by rw [hq 1027 (by decide)]; exact h1027, by rw [hq 1028 (by decide)]; exact h1028, by rw [hq 1029 (by decide)]; exact h1029, by rw [hq 1030 (by decide)]; exact h1030, by rw [hq 1032 (by decide)]; exact h1032⟩
  rw [hq 1000 (by decide), h1000, hr 1002 (by decide), hr 1004 (by decide), hr 1005 (by decide), hr 1007 (by decide), hr 1008 (by decide), hr 1009 (by decide), hr 1010 (by decide), hr 1011 (by decide), hr 1012 (by decide), hr 1013 (by decide), hr 1014 (by decide), hr 1015 (by decide), hr 1016 (by decide), hr 1019 (by decide), hr 1020 (by decide), hr 1021 (by decide), hr 1022 (by decide), hr 1024 (by decide), hr 1025 (by decide), hr 1026 (by decide), hr 1027 (by decide), hr 1028 (by decide), hr 1029 (by decide), hr 1030 (by decide), hr 1032 (by decide)]
end SX
/-- ONE CALL OF BOTH: the class's answer is the reference's, and both hold one state then -/
def SimAt {α : Type} (w : α → Value) (l : Launch) (D : va_G) (ty : Nat → ClassId) (yx : MethodName) (wx : List Cond) (fx lx : Nat) (ym : MethodName) (wm : List Cond) (fm lm : Nat) (av : List Value) (k : Nat) (L : List Nat) (ad : Nat → Nat) (g : Nat → va_E) (a : Nat → FI) (dn pn en qn mz : Nat) (nw lo : Int32) (tr : Int64) : Prop :=
  ∃ (i : α) (a1 : Nat → FI) (dn1 pn1 en1 qn1 : Nat) (nw1 lo1 : Int32) (tr1 : Int64) (mc ms : Nat), mc ≤ 6 ∧ ms ≤ 133 ∧ PI a1 dn1 pn1 en1 qn1 nw1 (k + 1) ∧ m_C l yx wx fx lx mc ms D ty (.ref (ad 0) :: av) L ad g (fun v1 L1 ad1 g1 => v1 = some (w i) ∧ ad1 0 = ad 0 ∧ ad1 1000 = ad 1000 ∧ RX ty L1 ad1 g1 a1 dn1 pn1 en1 qn1 nw1 lo1 tr1 ∧ RM ty L1 ad1 g1 a dn pn en qn mz nw lo tr) ∧
    ∀ (L1 : List Nat) (ad1 : Nat → Nat) (g1 : Nat → va_E), RX ty L1 ad1 g1 a1 dn1 pn1 en1 qn1 nw1 lo1 tr1 → RM ty L1 ad1 g1 a dn pn en qn mz nw lo tr → m_C l ym wm fm lm 0 0 D ty (.ref (ad1 1000) :: av) L1 ad1 g1 (fun v1 L2 ad2 g2 => v1 = some (w i) ∧ ad2 0 = ad1 0 ∧ ad2 1000 = ad1 1000 ∧ ∃ (h31 : FI) (mz1 : Nat), RX ty L2 ad2 g2 (va_up a1 31 h31) dn1 pn1 en1 qn1 nw1 lo1 tr1 ∧ RM ty L2 ad2 g2 (va_up a1 31 h31) dn1 pn1 en1 qn1 mz1 nw1 lo1 tr1)
section SS
variable {α : Type} {w : α → Value} {l : Launch} {D : va_G} {ty : Nat → ClassId} {yx : MethodName} {wx : List Cond} {fx lx : Nat} {ym : MethodName} {wm : List Cond} {fm lm : Nat} {av : List Value} {k : Nat} {L : List Nat} {ad : Nat → Nat} {g : Nat → va_E} {a : Nat → FI} {dn pn en qn mz : Nat} {nw lo : Int32} {tr : Int64}
/-- a step in general: the class's contract, the reference's, and what the class's memory is then -/
theorem sim_C (i : α) (a1 : Nat → FI) (dn1 pn1 en1 qn1 mz1 : Nat) (nw1 lo1 : Int32) (tr1 : Int64) {mc ms : Nat} {post : m_Post} (h6 : mc ≤ 6) (h133 : ms ≤ 133) (hM : RM ty L ad g a dn pn en qn mz nw lo tr) (h0 : 0 ∈ L) (hP1 : PI a1 dn1 pn1 en1 qn1 nw1 (k + 1)) (cx : m_C l yx wx fx lx mc ms D ty (.ref (ad 0) :: av) L ad g post) (hp : ∀ v1 L1 ad1 g1, post v1 L1 ad1 g1 → v1 = some (w i) ∧ (∀ x ∈ L, x ∈ L1) ∧ (∀ x ∈ L, ad1 x = ad x) ∧ (∀ x ∈ L, 1000 ≤ x → g1 x = g x) ∧ RX ty L1 ad1 g1 a1 dn1 pn1 en1 qn1 nw1 lo1 tr1)
    (cm : ∀ (L1 : List Nat) (ad1 : Nat → Nat) (g1 : Nat → va_E), RM ty L1 ad1 g1 a dn pn en qn mz nw lo tr → m_C l ym wm fm lm 0 0 D ty (.ref (ad1 1000) :: av) L1 ad1 g1 (fun v1 L2 ad2 g2 => v1 = some (w i) ∧ L2 = L1 ∧ ad2 = ad1 ∧ (∀ x, x < 1000 → g2 x = g1 x) ∧ RM ty L1 ad1 g2 a1 dn1 pn1 en1 qn1 mz1 nw1 lo1 tr1)) : SimAt w l D ty yx wx fx lx ym wm fm lm av k L ad g a dn pn en qn mz nw lo tr := by
  refine ⟨i, a1, dn1, pn1, en1, qn1, nw1, lo1, tr1, mc, ms, h6, h133, hP1, cx.weak ?_, fun L1 ad1 g1 hX1 hM1 => (cm L1 ad1 g1 hM1).weak ?_⟩
  · intro v L1 ad1 g1 h
    obtain ⟨q1, q2, q3, q4, q5⟩ := hp v L1 ad1 g1 h
    exact ⟨q1, q3 0 h0, q3 1000 (hM.1 1000 (by decide)), q5, RM_fr hM q2 q3 q4⟩
  · intro v L2 ad2 g2 h
    obtain ⟨q1, q2, q3, q4, q5⟩ := h
    subst q2 q3
    refine ⟨q1, rfl, rfl, a1 31, mz1, ?_⟩
    rw [up_same (f := a1) (k := 31) rfl]
    exact ⟨hX1.hi hP1 q4, q5⟩
/-- the class's contract tells its memory whole -/
theorem sim_E (i : α) (a1 : Nat → FI) (dn1 pn1 en1 qn1 mz1 : Nat) (nw1 lo1 : Int32) (tr1 : Int64) {g2 : Nat → va_E} (hM : RM ty L ad g a dn pn en qn mz nw lo tr) (hP1 : PI a1 dn1 pn1 en1 qn1 nw1 (k + 1)) (cx : m_E l yx wx fx lx D ty (.ref (ad 0) :: av) L ad g (some (w i)) g2) (hg : ∀ x, 1000 ≤ x → g2 x = g x) (hX1 : RX ty L ad g2 a1 dn1 pn1 en1 qn1 nw1 lo1 tr1)
    (cm : ∀ (L1 : List Nat) (ad1 : Nat → Nat) (g1 : Nat → va_E), RM ty L1 ad1 g1 a dn pn en qn mz nw lo tr → m_C l ym wm fm lm 0 0 D ty (.ref (ad1 1000) :: av) L1 ad1 g1 (fun v1 L2 ad2 g2 => v1 = some (w i) ∧ L2 = L1 ∧ ad2 = ad1 ∧ (∀ x, x < 1000 → g2 x = g1 x) ∧ RM ty L1 ad1 g2 a1 dn1 pn1 en1 qn1 mz1 nw1 lo1 tr1)) : SimAt w l D ty yx wx fx lx ym wm fm lm av k L ad g a dn pn en qn mz nw lo tr := by
  refine sim_C i a1 dn1 pn1 en1 qn1 mz1 nw1 lo1 tr1 (by decide) (by decide) hM (hX1.1.1 0 (by decide)) hP1 cx ?_ cm
  intro v L1 ad1 g1 h
  obtain ⟨q1, q2, q3, q4⟩ := h
  subst q2 q3 q4
  exact ⟨q1, fun _ h => h, fun _ _ => rfl, fun x _ h => hg x h, hX1⟩
/-- nothing changes -/
theorem sim_S (i : α) (hM : RM ty L ad g a dn pn en qn mz nw lo tr) (hX : RX ty L ad g a dn pn en qn nw lo tr) (hP : PI a dn pn en qn nw k) (cx : m_E l yx wx fx lx D ty (.ref (ad 0) :: av) L ad g (some (w i)) g)
    (cm : ∀ (L1 : List Nat) (ad1 : Nat → Nat) (g1 : Nat → va_E), RM ty L1 ad1 g1 a dn pn en qn mz nw lo tr → m_E l ym wm fm lm D ty (.ref (ad1 1000) :: av) L1 ad1 g1 (some (w i)) g1) : SimAt w l D ty yx wx fx lx ym wm fm lm av k L ad g a dn pn en qn mz nw lo tr := by
  refine sim_E i a dn pn en qn mz nw lo tr hM hP.next cx (fun _ _ => rfl) hX (fun L1 ad1 g1 hM1 => (cm L1 ad1 g1 hM1).weak ?_)
  intro v L2 ad2 g2 h
  obtain ⟨q1, q2, q3, q4⟩ := h
  subst q2 q3 q4
  exact ⟨q1, rfl, rfl, fun _ _ => rfl, hM1⟩
end SS
/-! an index against what there is -/
theorem ix_p (i : Int32) {n N : Nat} (h : n ≤ N) (hN : N < 1000) : (∃ j, j < n ∧ i = nI j) ∨ (∃ j, n ≤ j ∧ j < N ∧ i = nI j ∧ ¬ (0 ≤ i.toInt ∧ i.toInt < (n : Int))) ∨ (¬ (0 ≤ i.toInt ∧ i.toInt < (N : Int)) ∧ ¬ (0 ≤ i.toInt ∧ i.toInt < (n : Int))) := by
  by_cases h1 : 0 ≤ i.toInt ∧ i.toInt < (N : Int)
  · obtain ⟨j, hj, e⟩ := i_nI i h1.1
    have h2 : i.toInt = (j : Int) := by rw [e]; exact nI_toInt hj
    by_cases h3 : j < n
    · exact Or.inl ⟨j, h3, e⟩
    · exact Or.inr (Or.inl ⟨j, by omega, by omega, e, by omega⟩)
  · exact Or.inr (Or.inr ⟨h1, by omega⟩)
theorem ix_n (i : Int32) (n : Nat) (hN : n < 10000000) : (∃ j, j < n ∧ i = nI j) ∨ ¬ (0 ≤ i.toInt ∧ i.toInt < (n : Int)) := by
  by_cases h1 : 0 ≤ i.toInt ∧ i.toInt < (n : Int)
  · obtain ⟨j, hj, e⟩ := i_nI i h1.1
    have h2 : i.toInt = (j : Int) := by rw [e]; exact nI_toInt hj
    exact Or.inl ⟨j, by omega, e⟩
  · exact Or.inr h1
theorem ix_0 (j : Nat) (h : j < 1000) (n : Nat) (h2 : n ≤ j) : ¬ (0 ≤ (nI j).toInt ∧ (nI j).toInt < (n : Int)) := by rw [nI_toInt (by omega)]; omega

