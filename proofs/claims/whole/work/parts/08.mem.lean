/-! MEMORY BY ROLES. L: the roles that live; ad: a role's address; g: what the cell of a role holds. One world for the class and for the reference: no cell is cut out at a call, for every contract tells the whole memory. -/
abbrev m_tys (ty : Nat → ClassId) : List (ClassId × FieldType) := [(ty 0, .int), (ty 1, .long), (ty 2, .byte), (ty 3, .boolean), (ty 4, .object RX2), (ty 5, .object RX3), (ty 6, .object RX5), (ty 7, .object RX7)]
def m_w (L : List Nat) (ad : Nat → Nat) (g : Nat → va_E) : va_W := L.map (fun r => (ad r, g r))
/-- the words that are not steady: arrays of the class's own objects, casts for the store check, links to nest mates -/
def m_Z (U : State) : Prop := (va_AO RX2 U ∧ va_AO RX3 U ∧ va_AO RX5 U ∧ va_AO RX7 U) ∧ (va_Nw (.castable RX0 RX2) U ∧ va_Nw (.castable RX1 RX2) U) ∧ va_Nw (.methodLinkNest RX8 20 yX4_init RX8) U ∧ va_Nw (.methodLinkNest RX8 40 yX6_init RX8) U ∧ va_Nw (.methodLinkNest RX2 51 yX8_isBelow RX8) U ∧ va_Nw (.methodLinkNest RX4 18 yX8_isBelow RX8) U ∧ va_Nw (.methodLinkNest RX5 25 yX8_isBelow RX8) U ∧ va_Nw (.methodLinkNest RX6 35 yX8_isBelow RX8) U ∧ va_Nw (.methodLinkNest RX7 41 yX8_isBelow RX8) U
theorem m_Z.warm {s U : State} (hW : s.WarmedH U.vm) (h : m_Z s) : m_Z U := by
  obtain ⟨⟨a1, a2, a3, a4⟩, ⟨b1, b2⟩, c1, c2, c3, c4, c5, c6, c7⟩ := h
  exact ⟨⟨a1.moved hW.alike, a2.moved hW.alike, a3.moved hW.alike, a4.moved hW.alike⟩, ⟨b1.warmC hW, b2.warmC hW⟩, c1.warmM hW, c2.warmM hW, c3.warmM hW, c4.warmM hW, c5.warmM hW, c6.warmM hW, c7.warmM hW⟩
theorem m_Z.calling {U : State} {f : JFrame} {mk : MethodId} {a : Array Value} (h : m_Z U) : m_Z (U.calling f mk a) := by
  obtain ⟨⟨a1, a2, a3, a4⟩, ⟨b1, b2⟩, c1, c2, c3, c4, c5, c6, c7⟩ := h
  have e : U.vm = (U.calling f mk a).vm := rfl
  exact ⟨⟨a1.moved (Vm.Alike.refl U.vm), a2.moved (Vm.Alike.refl U.vm), a3.moved (Vm.Alike.refl U.vm), a4.moved (Vm.Alike.refl U.vm)⟩, ⟨va_Nw.same rfl e b1, va_Nw.same rfl e b2⟩, va_Nw.same rfl e c1, va_Nw.same rfl e c2, va_Nw.same rfl e c3, va_Nw.same rfl e c4, va_Nw.same rfl e c5, va_Nw.same rfl e c6, va_Nw.same rfl e c7⟩
def m_I (D : va_G) (ty : Nat → ClassId) (A : Nat → Prop) (L : List Nat) (ad : Nat → Nat) (g : Nat → va_E) (U : State) : Prop := va_K D vwCl (m_tys ty) U ∧ m_Z U ∧ va_P D vwCl (m_w L ad g) U.heap ∧ va_D A (m_w L ad g)
def m_B (D : va_G) (ty : Nat → ClassId) (A : Nat → Prop) (s : State) (L : List Nat) (ad : Nat → Nat) (g : Nat → va_E) (H : Heap) (locs : List Loc) : Prop := va_K D vwCl (m_tys ty) s ∧ m_Z s ∧ va_P D vwCl (m_w L ad g) H ∧ va_D A (m_w L ad g) ∧ va_S A s.heap H locs ∧ ∀ q : Nat, s.heap.size ≤ q → A q
abbrev m_Post : Type := Option Value → List Nat → (Nat → Nat) → (Nat → va_E) → Prop
def m_Q (D : va_G) (A : Nat → Prop) (post : m_Post) : Array Value → State → Outcome → State → Prop := fun _ st oc t => (∃ (v : Option Value) (L : List Nat) (ad : Nat → Nat) (g : Nat → va_E), oc = .returned v ∧ post v L ad g ∧ va_P D vwCl (m_w L ad g) t.heap ∧ va_D A (m_w L ad g)) ∧ va_F A st t
def m_Pc (D : va_G) (ty : Nat → ClassId) (av : List Value) (L : List Nat) (ad : Nat → Nat) (g : Nat → va_E) (sz : Nat) : Array Value → State → Prop := va_Pc av (fun U => U.heap.size = sz ∧ m_I D ty (fun _ => True) L ad g U)
/-- A CONTRACT: from the memory L ad g, with the arguments av, the method returns, and 'post' holds of its answer and of the memory then -/
def m_C (l : Launch) (y : MethodName) (ws : List Cond) (f lo mc ms : Nat) (D : va_G) (ty : Nat → ClassId) (av : List Value) (L : List Nat) (ad : Nat → Nat) (g : Nat → va_E) (post : m_Post) : Prop :=
  ∀ sz : Nat, Met l y ws ({ frames := f, cells := mc, slots := ms, locals := lo } : Room) (m_Pc D ty av L ad g sz) (m_Q D (va_A (m_w L ad g) sz) post) mc ms (va_A (m_w L ad g) sz)
/-- a contract that tells all -/
abbrev m_E (l : Launch) (y : MethodName) (ws : List Cond) (f lo : Nat) (D : va_G) (ty : Nat → ClassId) (av : List Value) (L : List Nat) (ad : Nat → Nat) (g : Nat → va_E) (v : Option Value) (g2 : Nat → va_E) : Prop :=
  m_C l y ws f lo 0 0 D ty av L ad g (fun v1 L1 ad1 g1 => v1 = v ∧ L1 = L ∧ ad1 = ad ∧ g1 = g2)
theorem m_C.weak {l : Launch} {y : MethodName} {ws : List Cond} {f lo mc ms : Nat} {D : va_G} {ty : Nat → ClassId} {av : List Value} {L : List Nat} {ad : Nat → Nat} {g : Nat → va_E} {post post2 : m_Post} (h : m_C l y ws f lo mc ms D ty av L ad g post) (hp : ∀ v L ad g, post v L ad g → post2 v L ad g) : m_C l y ws f lo mc ms D ty av L ad g post2 := by
  intro sz p e ha hc hk s m args below hf happ hP hx
  obtain ⟨k, o, h1, h2, h3, ⟨⟨⟨v, L1, ad1, g1, q1, q2, q3⟩, q4⟩, q5⟩⟩ := h sz p e ha hc hk s m args below hf happ hP hx
  exact ⟨k, o, h1, h2, h3, ⟨⟨⟨v, L1, ad1, g1, q1, hp _ _ _ _ q2, q3⟩, q4⟩, q5⟩⟩
theorem m_blind {D : va_G} {ty : Nat → ClassId} {av : List Value} {L : List Nat} {ad : Nat → Nat} {g : Nat → va_E} {sz : Nat} : FrameBlind (m_Pc D ty av L ad g sz) := by
  intro a U f mk q
  obtain ⟨q0, q1, qK, qZ, qP, qD⟩ := q
  exact ⟨q0, q1, va_K.moved (u := U) (U := U.calling f mk a) (Vm.Alike.refl U.vm) qK, qZ.calling, qP, qD⟩
theorem m_start {D : va_G} {ty : Nat → ClassId} {av : List Value} {L : List Nat} {ad : Nat → Nat} {g : Nat → va_E} {sz : Nat} {args : Array Value} {s : State} (h : m_Pc D ty av L ad g sz args s) : args = av.toArray ∧ m_B D ty (va_A (m_w L ad g) sz) s L ad g s.heap [] := by
  obtain ⟨h0, hz, hK, hZ, hP, hD⟩ := h
  subst hz
  exact ⟨h0, hK, hZ, hP, hD.self, va_S.rf, fun q hq => Or.inr hq⟩
theorem m_pos {L : List Nat} {ad : Nat → Nat} {g : Nat → va_E} {r : Nat} (h : r ∈ L) : ∃ k : Nat, L[k]? = some r ∧ (m_w L ad g)[k]? = some (ad r, g r) := by
  obtain ⟨k, hk⟩ := List.mem_iff_getElem?.mp h
  exact ⟨k, hk, by rw [m_w, List.getElem?_map, hk]; rfl⟩
theorem m_set {A : Nat → Prop} {L : List Nat} {ad : Nat → Nat} {g : Nat → va_E} {r k : Nat} (hD : va_D A (m_w L ad g)) (hk : L[k]? = some r) (e : va_E) : (m_w L ad g).set k (ad r, e) = m_w L ad (va_up g r e) := by
  have hw : ∀ (j x : Nat), L[j]? = some x → (m_w L ad g)[j]? = some (ad x, g x) := fun j x hj => by rw [m_w, List.getElem?_map, hj]; rfl
  apply List.ext_getElem?
  intro j
  rw [List.getElem?_set]
  by_cases hj : k = j
  · subst hj
    have hl : k < (m_w L ad g).length := (List.getElem?_eq_some_iff.mp (hw k r hk)).1
    rw [if_pos rfl, if_pos hl, m_w, List.getElem?_map, hk]
    simp [va_up]
  · rw [if_neg hj]
    cases hx : L[j]? with
    | none => rw [m_w, m_w, List.getElem?_map, List.getElem?_map, hx]; rfl
    | some x =>
      have hne : x ≠ r := fun e1 => by
        subst e1
        exact hj (hD.1 k j _ _ (hw k x hk) (hw j x hx) rfl)
      rw [hw j x hx, m_w, List.getElem?_map, hx]
      simp [va_up, hne]
theorem m_push {L : List Nat} {ad : Nat → Nat} {g : Nat → va_E} {r q : Nat} {e : va_E} (h : r ∉ L) : m_w L ad g ++ [(q, e)] = m_w (L ++ [r]) (va_up ad r q) (va_up g r e) := by
  rw [m_w, m_w, List.map_append]
  congr 1
  · apply List.map_congr_left
    intro x hx
    have hne : x ≠ r := fun e1 => h (by rw [← e1]; exact hx)
    simp [va_up, hne]
  · simp [va_up]
section MR
variable {p : Program} {l : Launch} {e : Env} {R : Room} {s : State} {m : MethodId} {args : Array Value} {below : List Frame} {meth : Method} {c : Code} {H : Heap} {locs : List Loc} {cells slots : Nat} {Q : State → Prop}
variable {cc : ByteArray} {pc : Nat} {ls : Array Slot} {rest : List Value} {D : va_G} {ty : Nat → ClassId} {A : Nat → Prop} {L : List Nat} {ad : Nat → Nat} {g : Nat → va_E} {r : Nat}
theorem m_get (hx : p.tables.exec = Jvm.exec) (hb : c.code = cc) {own ref C : String} {T : u_T} {N ci index : Nat} {Ts : List Cond} (hts : ∀ w ∈ Ts, w.before args s = true) (hin : ∀ w ∈ u_ws C T N, w ∈ Ts) (hown : s.vm.findClass own = some m.cls) (hB : m_B D ty A s L ad g H locs) (hr : r ∈ L) {fs : List Value} (he : g r = .inr (ci, fs)) (hc : vwCl[ci]? = some (C, T, N)) (k : Nat) (hk : k < N) (hlink : (Cond.fieldLink own index ref (T k).2.1 (T k).2.2.1).before args s = true) (hsame : ∀ x, s.fieldFound? (T k).1 (T k).2.1 (T k).2.2.1 = some x → s.fieldFound? ref (T k).2.1 (T k).2.2.1 = some x) {v : Value} (hv : fs[k]? = some v) (hdg : decode cc pc = .ok (.getfield index, 3))
    (kk : W p l e R s m args below meth c H locs cells slots Q (F0 m (pc + 3) ls (v :: rest))) : W p l e R s m args below meth c H locs cells slots Q (F0 m pc ls (.ref (ad r) :: rest)) := by
  obtain ⟨k0, -, h0⟩ := m_pos (ad := ad) (g := g) hr
  rw [he] at h0
  exact va_get hx hb hts hin hown hB.1 hB.2.2.1 k0 h0 hc k hk hlink hsame hv hdg kk
theorem m_put (hx : p.tables.exec = Jvm.exec) (hb : c.code = cc) {own ref C : String} {T : u_T} {N ci index : Nat} {Ts : List Cond} (hts : ∀ w ∈ Ts, w.before args s = true) (hin : ∀ w ∈ u_ws C T N, w ∈ Ts) (ty0 : Nat → FieldType) (hty : ∀ k, k < N → parseFieldDescriptor (T k).2.2.1 = some (ty0 k)) (hnm : ∀ a, a < N → ∀ b, b < N → a ≠ b → (T a).2.1 ≠ (T b).2.1) (hown : s.vm.findClass own = some m.cls) (hB : m_B D ty A s L ad g H locs) (hr : r ∈ L) {fs : List Value} (he : g r = .inr (ci, fs)) (hc : vwCl[ci]? = some (C, T, N)) (k : Nat) (hk : k < N) (hlink : (Cond.fieldLink own index ref (T k).2.1 (T k).2.2.1).before args s = true) (hsame : ∀ x, s.fieldFound? (T k).1 (T k).2.1 (T k).2.2.1 = some x → s.fieldFound? ref (T k).2.1 (T k).2.2.1 = some x) (hfin : (T k).2.2.2 = false) {ft : FieldType} {v : Value} (hd : parseFieldDescriptor (T k).2.2.1 = some ft) (hn : narrow ft v = v) (hfit : fits ft v = true) (hl : k < fs.length) (hdg : decode cc pc = .ok (.putfield index, 3))
    (kk : ∀ (H1 : Heap) (locs1 : List Loc), m_B D ty A s L ad (va_up g r (.inr (ci, fs.set k v))) H1 locs1 → W p l e R s m args below meth c H1 locs1 cells slots Q (F0 m (pc + 3) ls rest)) : W p l e R s m args below meth c H locs cells slots Q (F0 m pc ls (v :: .ref (ad r) :: rest)) := by
  obtain ⟨k0, hk0, h0⟩ := m_pos (ad := ad) (g := g) hr
  rw [he] at h0
  refine va_put hx hb hts hin ty0 hty hnm hown hB.1 hB.2.2.1 hB.2.2.2.1 hB.2.2.2.2.1 k0 h0 hc k hk hlink hsame hfin hd hn hfit hl hdg (fun H1 locs1 hP hD hS => ?_)
  rw [m_set hB.2.2.2.1 hk0] at hP hD
  exact kk H1 locs1 ⟨hB.1, hB.2.1, hP, hD, hS, hB.2.2.2.2.2⟩
theorem m_putF (hx : p.tables.exec = Jvm.exec) (hb : c.code = cc) {own ref C : String} {T : u_T} {N ci index : Nat} {Ts : List Cond} (hts : ∀ w ∈ Ts, w.before args s = true) (hin : ∀ w ∈ u_ws C T N, w ∈ Ts) (ty0 : Nat → FieldType) (hty : ∀ k, k < N → parseFieldDescriptor (T k).2.2.1 = some (ty0 k)) (hnm : ∀ a, a < N → ∀ b, b < N → a ≠ b → (T a).2.1 ≠ (T b).2.1) (hown : s.vm.findClass own = some m.cls) (hB : m_B D ty A s L ad g H locs) (hr : r ∈ L) {fs : List Value} (he : g r = .inr (ci, fs)) (hc : vwCl[ci]? = some (C, T, N)) (k : Nat) (hk : k < N) (hlink : (Cond.fieldLink own index ref (T k).2.1 (T k).2.2.1).before args s = true) (hsame : ∀ x, s.fieldFound? (T k).1 (T k).2.1 (T k).2.2.1 = some x → s.fieldFound? ref (T k).2.1 (T k).2.2.1 = some x) (hfin : (T k).2.2.2 = true) (hin2 : meth.name = "<init>") (hdecl : (T k).1 = own) {ft : FieldType} {v : Value} (hd : parseFieldDescriptor (T k).2.2.1 = some ft) (hn : narrow ft v = v) (hfit : fits ft v = true) (hl : k < fs.length) (hdg : decode cc pc = .ok (.putfield index, 3))
    (kk : ∀ (H1 : Heap) (locs1 : List Loc), m_B D ty A s L ad (va_up g r (.inr (ci, fs.set k v))) H1 locs1 → W p l e R s m args below meth c H1 locs1 cells slots Q (F0 m (pc + 3) ls rest)) : W p l e R s m args below meth c H locs cells slots Q (F0 m pc ls (v :: .ref (ad r) :: rest)) := by
  obtain ⟨k0, hk0, h0⟩ := m_pos (ad := ad) (g := g) hr
  rw [he] at h0
  refine va_putF hx hb hts hin ty0 hty hnm hown hB.1 hB.2.2.1 hB.2.2.2.1 hB.2.2.2.2.1 k0 h0 hc k hk hlink hsame hfin hin2 hdecl hd hn hfit hl hdg (fun H1 locs1 hP hD hS => ?_)
  rw [m_set hB.2.2.2.1 hk0] at hP hD
  exact kk H1 locs1 ⟨hB.1, hB.2.1, hP, hD, hS, hB.2.2.2.2.2⟩
theorem m_iald (hx : p.tables.exec = Jvm.exec) (hb : c.code = cc) (hB : m_B D ty A s L ad g H locs) (hr : r ∈ L) {n : Nat} {f : Nat → Int32} (he : g r = .inl (ty 0, n, .inl f)) {i : Int32} (hin : vp_in i n) (hdg : decode cc pc = .ok (.iaload, 1))
    (kk : W p l e R s m args below meth c H locs cells slots Q (F0 m (pc + 1) ls (.int (f i.toNatClampNeg) :: rest))) : W p l e R s m args below meth c H locs cells slots Q (F0 m pc ls (.int i :: .ref (ad r) :: rest)) := by
  obtain ⟨k0, -, h0⟩ := m_pos (ad := ad) (g := g) hr
  rw [he] at h0
  exact va_iald hx hb hB.1 hB.2.2.1 k0 0 h0 rfl hin hdg kk
theorem m_bald (hx : p.tables.exec = Jvm.exec) (hb : c.code = cc) (hB : m_B D ty A s L ad g H locs) (hr : r ∈ L) {n : Nat} {f : Nat → Int32} (he : g r = .inl (ty 2, n, .inl f)) {i : Int32} (hin : vp_in i n) (hdg : decode cc pc = .ok (.baload, 1))
    (kk : W p l e R s m args below meth c H locs cells slots Q (F0 m (pc + 1) ls (.int (f i.toNatClampNeg) :: rest))) : W p l e R s m args below meth c H locs cells slots Q (F0 m pc ls (.int i :: .ref (ad r) :: rest)) := by
  obtain ⟨k0, -, h0⟩ := m_pos (ad := ad) (g := g) hr
  rw [he] at h0
  exact va_bald hx hb hB.1 hB.2.2.1 k0 2 h0 rfl hin hdg kk
theorem m_zald (hx : p.tables.exec = Jvm.exec) (hb : c.code = cc) (hB : m_B D ty A s L ad g H locs) (hr : r ∈ L) {n : Nat} {f : Nat → Int32} (he : g r = .inl (ty 3, n, .inl f)) {i : Int32} (hin : vp_in i n) (hdg : decode cc pc = .ok (.baload, 1))
    (kk : W p l e R s m args below meth c H locs cells slots Q (F0 m (pc + 1) ls (.int (f i.toNatClampNeg) :: rest))) : W p l e R s m args below meth c H locs cells slots Q (F0 m pc ls (.int i :: .ref (ad r) :: rest)) := by
  obtain ⟨k0, -, h0⟩ := m_pos (ad := ad) (g := g) hr
  rw [he] at h0
  exact va_zald hx hb hB.1 hB.2.2.1 k0 3 h0 rfl hin hdg kk
theorem m_lald (hx : p.tables.exec = Jvm.exec) (hb : c.code = cc) (hB : m_B D ty A s L ad g H locs) (hr : r ∈ L) {n : Nat} {f : Nat → Int64} (he : g r = .inl (ty 1, n, .inr (.inl f))) {i : Int32} (hin : vp_in i n) (hdg : decode cc pc = .ok (.laload, 1))
    (kk : W p l e R s m args below meth c H locs cells slots Q (F0 m (pc + 1) ls (.long (f i.toNatClampNeg) :: rest))) : W p l e R s m args below meth c H locs cells slots Q (F0 m pc ls (.int i :: .ref (ad r) :: rest)) := by
  obtain ⟨k0, -, h0⟩ := m_pos (ad := ad) (g := g) hr
  rw [he] at h0
  exact va_lald hx hb hB.1 hB.2.2.1 k0 1 h0 rfl hin hdg kk
theorem m_aald (hx : p.tables.exec = Jvm.exec) (hb : c.code = cc) (hB : m_B D ty A s L ad g H locs) (hr : r ∈ L) (t0 : Nat) {cA : ClassId} {C : String} {n : Nat} {f : Nat → Option Nat} (he : g r = .inl (cA, n, .inr (.inr (.inr (.inr f))))) (ht : (m_tys ty)[t0]? = some (cA, .object C)) {i : Int32} (hin : vp_in i n) (hdg : decode cc pc = .ok (.aaload, 1))
    (kk : W p l e R s m args below meth c H locs cells slots Q (F0 m (pc + 1) ls (va_rf (f i.toNatClampNeg) :: rest))) : W p l e R s m args below meth c H locs cells slots Q (F0 m pc ls (.int i :: .ref (ad r) :: rest)) := by
  obtain ⟨k0, -, h0⟩ := m_pos (ad := ad) (g := g) hr
  rw [he] at h0
  exact va_aldq hx hb hB.1 hB.2.2.1 k0 t0 h0 ht hin hdg kk
theorem m_iast (hx : p.tables.exec = Jvm.exec) (hb : c.code = cc) (hB : m_B D ty A s L ad g H locs) (hr : r ∈ L) {n : Nat} {f : Nat → Int32} (he : g r = .inl (ty 0, n, .inl f)) {i x : Int32} (hin : vp_in i n) (hdg : decode cc pc = .ok (.iastore, 1))
    (kk : ∀ (H1 : Heap) (locs1 : List Loc), m_B D ty A s L ad (va_up g r (.inl (ty 0, n, .inl (upd f i.toNatClampNeg x)))) H1 locs1 → W p l e R s m args below meth c H1 locs1 cells slots Q (F0 m (pc + 1) ls rest)) : W p l e R s m args below meth c H locs cells slots Q (F0 m pc ls (.int x :: .int i :: .ref (ad r) :: rest)) := by
  obtain ⟨k0, hk0, h0⟩ := m_pos (ad := ad) (g := g) hr
  rw [he] at h0
  refine va_iast hx hb hB.1 hB.2.2.1 hB.2.2.2.1 hB.2.2.2.2.1 k0 0 h0 rfl hin hdg (fun H1 locs1 hP hD hS => ?_)
  rw [m_set hB.2.2.2.1 hk0] at hP hD
  exact kk H1 locs1 ⟨hB.1, hB.2.1, hP, hD, hS, hB.2.2.2.2.2⟩
theorem m_bast (hx : p.tables.exec = Jvm.exec) (hb : c.code = cc) (hB : m_B D ty A s L ad g H locs) (hr : r ∈ L) {n : Nat} {f : Nat → Int32} (he : g r = .inl (ty 2, n, .inl f)) {i x : Int32} (hin : vp_in i n) (hdg : decode cc pc = .ok (.bastore, 1))
    (kk : ∀ (H1 : Heap) (locs1 : List Loc), m_B D ty A s L ad (va_up g r (.inl (ty 2, n, .inl (upd f i.toNatClampNeg (vp_nar .byte x))))) H1 locs1 → W p l e R s m args below meth c H1 locs1 cells slots Q (F0 m (pc + 1) ls rest)) : W p l e R s m args below meth c H locs cells slots Q (F0 m pc ls (.int x :: .int i :: .ref (ad r) :: rest)) := by
  obtain ⟨k0, hk0, h0⟩ := m_pos (ad := ad) (g := g) hr
  rw [he] at h0
  refine va_bast hx hb hB.1 hB.2.2.1 hB.2.2.2.1 hB.2.2.2.2.1 k0 2 h0 rfl hin hdg (fun H1 locs1 hP hD hS => ?_)
  rw [m_set hB.2.2.2.1 hk0] at hP hD
  exact kk H1 locs1 ⟨hB.1, hB.2.1, hP, hD, hS, hB.2.2.2.2.2⟩
theorem m_zast (hx : p.tables.exec = Jvm.exec) (hb : c.code = cc) (hB : m_B D ty A s L ad g H locs) (hr : r ∈ L) {n : Nat} {f : Nat → Int32} (he : g r = .inl (ty 3, n, .inl f)) {i x : Int32} (hin : vp_in i n) (hdg : decode cc pc = .ok (.bastore, 1))
    (kk : ∀ (H1 : Heap) (locs1 : List Loc), m_B D ty A s L ad (va_up g r (.inl (ty 3, n, .inl (upd f i.toNatClampNeg (vp_nar .boolean x))))) H1 locs1 → W p l e R s m args below meth c H1 locs1 cells slots Q (F0 m (pc + 1) ls rest)) : W p l e R s m args below meth c H locs cells slots Q (F0 m pc ls (.int x :: .int i :: .ref (ad r) :: rest)) := by
  obtain ⟨k0, hk0, h0⟩ := m_pos (ad := ad) (g := g) hr
  rw [he] at h0
  refine va_zast hx hb hB.1 hB.2.2.1 hB.2.2.2.1 hB.2.2.2.2.1 k0 3 h0 rfl hin hdg (fun H1 locs1 hP hD hS => ?_)
  rw [m_set hB.2.2.2.1 hk0] at hP hD
  exact kk H1 locs1 ⟨hB.1, hB.2.1, hP, hD, hS, hB.2.2.2.2.2⟩
theorem m_last (hx : p.tables.exec = Jvm.exec) (hb : c.code = cc) (hB : m_B D ty A s L ad g H locs) (hr : r ∈ L) {n : Nat} {f : Nat → Int64} (he : g r = .inl (ty 1, n, .inr (.inl f))) {i : Int32} {x : Int64} (hin : vp_in i n) (hdg : decode cc pc = .ok (.lastore, 1))
    (kk : ∀ (H1 : Heap) (locs1 : List Loc), m_B D ty A s L ad (va_up g r (.inl (ty 1, n, .inr (.inl (vp_updL f i.toNatClampNeg x))))) H1 locs1 → W p l e R s m args below meth c H1 locs1 cells slots Q (F0 m (pc + 1) ls rest)) : W p l e R s m args below meth c H locs cells slots Q (F0 m pc ls (.long x :: .int i :: .ref (ad r) :: rest)) := by
  obtain ⟨k0, hk0, h0⟩ := m_pos (ad := ad) (g := g) hr
  rw [he] at h0
  refine va_last hx hb hB.1 hB.2.2.1 hB.2.2.2.1 hB.2.2.2.2.1 k0 1 h0 rfl hin hdg (fun H1 locs1 hP hD hS => ?_)
  rw [m_set hB.2.2.2.1 hk0] at hP hD
  exact kk H1 locs1 ⟨hB.1, hB.2.1, hP, hD, hS, hB.2.2.2.2.2⟩
/-- a reference into an array of references; its class is the array's, or may be cast to it -/
theorem m_aast (hx : p.tables.exec = Jvm.exec) (hb : c.code = cc) (hB : m_B D ty A s L ad g H locs) (hr : r ∈ L) (t0 : Nat) {cA : ClassId} {E : String} {n : Nat} {f : Nat → Option Nat} (he : g r = .inl (cA, n, .inr (.inr (.inr (.inr f))))) (ht : (m_tys ty)[t0]? = some (cA, .object E)) {r2 ci : Nat} {vs : List Value} {rc : vw_C} (hr2 : r2 ∈ L) (he2 : g r2 = .inr (ci, vs)) (hc : vwCl[ci]? = some rc) (hasg : ∀ comp c0 : ClassId, s.vm.findClass E = some comp → s.vm.findClass rc.1 = some c0 → s.vm.assignable c0 comp = true) {i : Int32} (hin : vp_in i n) (hdg : decode cc pc = .ok (.aastore, 1))
    (kk : ∀ (H1 : Heap) (locs1 : List Loc), m_B D ty A s L ad (va_up g r (.inl (cA, n, .inr (.inr (.inr (.inr (va_up f i.toNatClampNeg (some (ad r2))))))))) H1 locs1 → W p l e R s m args below meth c H1 locs1 cells slots Q (F0 m (pc + 1) ls rest)) : W p l e R s m args below meth c H locs cells slots Q (F0 m pc ls (.ref (ad r2) :: .int i :: .ref (ad r) :: rest)) := by
  obtain ⟨k0, hk0, h0⟩ := m_pos (ad := ad) (g := g) hr
  rw [he] at h0
  obtain ⟨k2, -, h2⟩ := m_pos (ad := ad) (g := g) hr2
  rw [he2] at h2
  refine va_astqM hx hb hB.1 hB.2.2.1 hB.2.2.2.1 hB.2.2.2.2.1 k0 t0 h0 ht (va_rAny hB.1 hB.2.2.1 h2 hc hasg) hin hdg (fun H1 locs1 hP hD hS => ?_)
  rw [m_set hB.2.2.2.1 hk0] at hP hD
  exact kk H1 locs1 ⟨hB.1, hB.2.1, hP, hD, hS, hB.2.2.2.2.2⟩
theorem m_asg_self {C : String} {comp c0 : ClassId} (h1 : s.vm.findClass C = some comp) (h2 : s.vm.findClass C = some c0) : s.vm.assignable c0 comp = true := by
  cases h1.symm.trans h2
  exact va_asg _ _
theorem m_asg_cast {C E : String} (h : va_Nw (.castable C E) s) {comp c0 : ClassId} (h1 : s.vm.findClass E = some comp) (h2 : s.vm.findClass C = some c0) : s.vm.assignable c0 comp = true := by
  obtain ⟨c3, t3, w1, w2, w3⟩ := Cond.castable_spec h
  cases h2.symm.trans w1
  cases h1.symm.trans w2
  exact w3
theorem m_alen (hx : p.tables.exec = Jvm.exec) (hb : c.code = cc) (hB : m_B D ty A s L ad g H locs) (hr : r ∈ L) (t0 : Nat) {cA : ClassId} {x : vp_A} (he : g r = .inl (cA, x)) {ft : FieldType} (ht : (m_tys ty)[t0]? = some (cA, ft)) {v : Int32} (hv : Int32.ofNat x.1 = v) (hdg : decode cc pc = .ok (.arraylength, 1))
    (kk : W p l e R s m args below meth c H locs cells slots Q (F0 m (pc + 1) ls (.int v :: rest))) : W p l e R s m args below meth c H locs cells slots Q (F0 m pc ls (.ref (ad r) :: rest)) := by
  obtain ⟨k0, -, h0⟩ := m_pos (ad := ad) (g := g) hr
  rw [he] at h0
  exact va_alen hx hb hB.1 hB.2.2.1 k0 t0 h0 ht hv hdg kk
theorem m_new (hx : p.tables.exec = Jvm.exec) (hb : c.code = cc) {own C : String} {T : u_T} {N ci index : Nat} {Ts : List Cond} (hts : ∀ w ∈ Ts, w.before args s = true) (hin : ∀ w ∈ u_ws C T N, w ∈ Ts) (ty0 : Nat → FieldType) (hty : ∀ k, k < N → parseFieldDescriptor (T k).2.2.1 = some (ty0 k)) (hown : s.vm.findClass own = some m.cls) (hcl : (Cond.classLink own index C).before args s = true) (hinst : (Cond.instantiable C N).before args s = true) (hini : (Cond.initialized C).before args s = true) (hB : m_B D ty A s L ad g H locs) (r : Nat) (hr : r ∉ L) (hc : vwCl[ci]? = some (C, T, N)) {fs : List Value} (hfs : ∀ j, j < N → defaultValue (ty0 j) = vp_V fs j) (hcells : cells + 1 ≤ R.cells) (hslots : slots + N ≤ R.slots) (hdg : decode cc pc = .ok (.new index, 3))
    (kk : ∀ (q : Nat) (H1 : Heap), m_B D ty A s (L ++ [r]) (va_up ad r q) (va_up g r (.inr (ci, fs))) H1 locs → W p l e R s m args below meth c H1 locs (cells + 1) (slots + N) Q (F0 m (pc + 3) ls (.ref q :: rest))) : W p l e R s m args below meth c H locs cells slots Q (F0 m pc ls rest) := by
  refine va_new hx hb hts hin ty0 hty hown hcl hinst hini hB.1 hB.2.2.1 hB.2.2.2.1 hB.2.2.2.2.1 hB.2.2.2.2.2 hc hfs hcells hslots hdg (fun q H1 hP hD hS => ?_)
  rw [m_push hr] at hP hD
  exact kk q H1 ⟨hB.1, hB.2.1, hP, hD, hS, hB.2.2.2.2.2⟩
theorem m_newa (hx : p.tables.exec = Jvm.exec) (hb : c.code = cc) {atype : ArrayType} (harr : (Cond.arrayClass (newarray.typeOf atype)).before args s = true) {ft : FieldType} (hty : newarray.typeOf atype = ft) (hB : m_B D ty A s L ad g H locs) (t0 : Nat) {cA : ClassId} (ht : (m_tys ty)[t0]? = some (cA, ft)) (r : Nat) (hr : r ∉ L) {n : Int32} {N' : Nat} {a0 : vp_A} (ha : ∀ cA : ClassId, vp_cell cA a0 = arrV cA N' (fun _ => defaultValue ft)) (hn : ¬ n < 0) (hN : n.toNatClampNeg = N') (hbytes : N' * componentBytes ft ≤ 536870912) (hcells : cells + 1 ≤ R.cells) (hslots : slots + N' ≤ R.slots) (hdg : decode cc pc = .ok (.newarray atype, 2))
    (kk : ∀ (q : Nat) (H1 : Heap), m_B D ty A s (L ++ [r]) (va_up ad r q) (va_up g r (.inl (cA, a0))) H1 locs → W p l e R s m args below meth c H1 locs (cells + 1) (slots + N') Q (F0 m (pc + 2) ls (.ref q :: rest))) : W p l e R s m args below meth c H locs cells slots Q (F0 m pc ls (.int n :: rest)) := by
  refine va_newa hx hb harr hty hB.1 hB.2.2.1 hB.2.2.2.1 hB.2.2.2.2.1 hB.2.2.2.2.2 ha hn hN hbytes hcells hslots hdg (fun q cA2 H1 hK hP hD hS => ?_)
  have e : cA2 = cA := by
    have h1 := (hB.1.2 t0 _ ht).2
    have h2 := (hK.2 8 (cA2, ft) rfl).2
    subst hty
    cases atype <;> exact Option.some.inj (h2.symm.trans h1)
  subst e
  rw [m_push hr] at hP hD
  exact kk q H1 ⟨hB.1, hB.2.1, hP, hD, hS, hB.2.2.2.2.2⟩
theorem m_newq (hx : p.tables.exec = Jvm.exec) (hb : c.code = cc) {own C : String} {index : Nat} (hown : s.vm.findClass own = some m.cls) (hclink : (Cond.classLink own index C).before args s = true) (hover : va_AO C s) (hB : m_B D ty A s L ad g H locs) (t0 : Nat) {cA : ClassId} (ht : (m_tys ty)[t0]? = some (cA, .object C)) (r : Nat) (hr : r ∉ L) {n : Int32} {N' : Nat} (hn : ¬ n < 0) (hN : n.toNatClampNeg = N') (hbytes : N' * 4 ≤ 536870912) (hcells : cells + 1 ≤ R.cells) (hslots : slots + N' ≤ R.slots) (hdg : decode cc pc = .ok (.anewarray index, 3))
    (kk : ∀ (q : Nat) (H1 : Heap), m_B D ty A s (L ++ [r]) (va_up ad r q) (va_up g r (.inl (cA, N', .inr (.inr (.inr (.inr (fun _ => none))))))) H1 locs → W p l e R s m args below meth c H1 locs (cells + 1) (slots + N') Q (F0 m (pc + 3) ls (.ref q :: rest))) : W p l e R s m args below meth c H locs cells slots Q (F0 m pc ls (.int n :: rest)) := by
  refine va_newq hx hb hown hclink hover hB.1 hB.2.2.1 hB.2.2.2.1 hB.2.2.2.2.1 hB.2.2.2.2.2 hn hN hbytes hcells hslots hdg (fun q cA2 H1 hK hP hD hS => ?_)
  have e : cA2 = cA := by
    obtain ⟨_, _, _, _, _, h1⟩ := (hB.1.2 t0 _ ht).2
    obtain ⟨_, _, _, _, _, h2⟩ := (hK.2 8 (cA2, .object C) rfl).2
    exact Option.some.inj (h2.symm.trans h1)
  subst e
  rw [m_push hr] at hP hD
  exact kk q H1 ⟨hB.1, hB.2.1, hP, hD, hS, hB.2.2.2.2.2⟩
end MR
