/-! THE CLAIM OUT OF ONE WALK OF THE LAW'S BODY. Your part is whole_start (and what it stands on); all else here is the same for every law, but numbers. -/
def R_law : String := "PaperRoomLaw"
def lw_P (b : Addr) (xs : List Int32) (args : Array Value) (s : State) : Prop := args = #[.ref b] ∧ s.IntsAt b xs ∧ xs.length ≤ 2560 ∧ (Jvm.Cond.and given_1 narrow_1).before args s = true
def lw_Q (_ : Array Value) (s : State) (o : Outcome) (t : State) : Prop := o = .returned (some (.int 1)) ∧ Framed s o t [] 600000 7302250
def lw_Z (below : List Frame) (a : Array Value) (s : State) : State → Prop := fun t => ∃ o, t.status = .running ∧ Ended t below o ∧ lw_Q a s o t
/-- the law's own end, with 1 on the stack, nothing written that was there before, its room as the claim has it -/
theorem lw_ret {p : Program} {l : Launch} {e : Env} {s : State} {m : MethodId} {below : List Frame} {meth : Method} {c : Code} {b : Nat} (hx : p.tables.exec = Jvm.exec) (hb : c.code = code) (hr : meth.sig.returnType = ret) (hlocks : meth.locks = false) {pc : Nat} {H : Heap} {ls : Array Slot} (hdg : decode code pc = .ok (.ireturn, 1)) : W p l e room_1 s m #[Value.ref b] below meth c H [] 600000 7302250 (lw_Z below #[Value.ref b] s) (F0 m pc ls [.int 1]) := by
  intro T hT X
  obtain ⟨fs, hret, hrun, hended, hW, hframe⟩ := X.leave (v := some (.int 1)) (hlocks := hlocks) (fun h => by rw [hr] at h; cases h)
  have hmeth' : T.vm.method? m = some meth := X.method'
  refine ⟨T.setFrames fs, ?_, .returned (some (.int 1)), hrun, hended, rfl, ⟨_, rfl⟩, hW, hframe⟩
  jvm_step X.here [X.here.top, hx, hb, hdg, hmeth', hr, ret, narrow_b1]
  (try refine ⟨rfl, ?_⟩); (try refine ⟨rfl, ?_⟩)
  first | (intro acts; rw [hret _ acts rfl rfl rfl]) | rw [hret _ _ rfl rfl rfl]
  exact Steps.refl _
/-- what holds at the law's entry: the machine, the code, the tables' words (any of lw_tbl by 'hts w (by decide +kernel)'), the script of L ints xs at the cell b, what the Statement gives of the start (any of its parts by flat_of_before) -/
def lw_At (p : Program) (s : State) (m : MethodId) (meth : Method) (c : Code) (b L : Nat) (xs : Nat → Int32) : Prop :=
  p.tables.exec = Jvm.exec ∧ c.code = code ∧ meth.sig.returnType = ret ∧ c.maxLocals = 4 ∧ s.vm.findClass R_law = some m.cls ∧ (∀ w ∈ lw_tbl, w.before #[Value.ref b] s = true) ∧ va_X b L xs s s.heap ∧ b < s.heap.size ∧ meth.locks = false ∧ (Jvm.Cond.and given_1 narrow_1).before #[Value.ref b] s = true
set_option maxRecDepth 20000 in
theorem il_X0 : ∀ w ∈ wsX00, w ∈ lw_tbl := by decide +kernel
set_option maxRecDepth 20000 in
theorem il_X1 : ∀ w ∈ wsX10, w ∈ lw_tbl := by decide +kernel
set_option maxRecDepth 20000 in
theorem il_X2 : ∀ w ∈ wsX20, w ∈ lw_tbl := by decide +kernel
set_option maxRecDepth 20000 in
theorem il_X3 : ∀ w ∈ wsX30, w ∈ lw_tbl := by decide +kernel
set_option maxRecDepth 20000 in
theorem il_X4 : ∀ w ∈ wsX40, w ∈ lw_tbl := by decide +kernel
set_option maxRecDepth 20000 in
theorem il_X5 : ∀ w ∈ wsX50, w ∈ lw_tbl := by decide +kernel
set_option maxRecDepth 20000 in
theorem il_X6 : ∀ w ∈ wsX60, w ∈ lw_tbl := by decide +kernel
set_option maxRecDepth 20000 in
theorem il_X7 : ∀ w ∈ wsX70, w ∈ lw_tbl := by decide +kernel
set_option maxRecDepth 20000 in
theorem il_X8 : ∀ w ∈ wsX80, w ∈ lw_tbl := by decide +kernel
set_option maxRecDepth 20000 in
theorem il_X9 : ∀ w ∈ wsX90, w ∈ lw_tbl := by decide +kernel
theorem k_prim {s : State} {args : Array Value} {ft : FieldType} (h : (Cond.arrayClass ft).before args s = true) : ∃ cA : ClassId, ArrOfT s cA ft ∧ s.vm.findClass ("[" ++ ft.toString) = some cA := by
  obtain ⟨c, k, comp, h1, h2, h3⟩ := Cond.arrayClass_spec h
  exact ⟨c, fun n z => ⟨fun k h => (by cases h), k, h2, comp, h3⟩, h1⟩
theorem k_obj {s : State} {C : String} (h : va_AO C s) : ∃ cA : ClassId, ArrOfT s cA (.object C) ∧ va_RA s cA (.object C) := by
  obtain ⟨comp, c, k, h1, h2, h3, h4, h5⟩ := Cond.arrayOver_spec h
  exact ⟨c, fun n z => ⟨fun k h => (by cases h), k, h3, comp, h4⟩, k, comp, h3, h4, h1, h5⟩
theorem law_Z {s : State} {args : Array Value} (hts : ∀ w ∈ lw_tbl, w.before args s = true) : m_Z s :=
  ⟨⟨va_AO.of (hts (.arrayOver (.object RX2)) (by decide +kernel)), va_AO.of (hts (.arrayOver (.object RX3)) (by decide +kernel)), va_AO.of (hts (.arrayOver (.object RX5)) (by decide +kernel)), va_AO.of (hts (.arrayOver (.object RX7)) (by decide +kernel))⟩, ⟨va_Nw.of rfl (hts (.castable RX0 RX2) (by decide +kernel)), va_Nw.of rfl (hts (.castable RX1 RX2) (by decide +kernel))⟩, va_Nw.of rfl (hts (.methodLinkNest RX8 20 yX4_init RX8) (by decide +kernel)), va_Nw.of rfl (hts (.methodLinkNest RX8 40 yX6_init RX8) (by decide +kernel)), va_Nw.of rfl (hts (.methodLinkNest RX2 51 yX8_isBelow RX8) (by decide +kernel)), va_Nw.of rfl (hts (.methodLinkNest RX4 18 yX8_isBelow RX8) (by decide +kernel)), va_Nw.of rfl (hts (.methodLinkNest RX5 25 yX8_isBelow RX8) (by decide +kernel)), va_Nw.of rfl (hts (.methodLinkNest RX6 35 yX8_isBelow RX8) (by decide +kernel)), va_Nw.of rfl (hts (.methodLinkNest RX7 41 yX8_isBelow RX8) (by decide +kernel))⟩
theorem law_Kc {s : State} {args : Array Value} (hts : ∀ w ∈ lw_tbl, w.before args s = true) : ∃ D : va_G, ∀ (c : Nat) (q : vw_C), vwCl[c]? = some q → u_Kn s q.1 q.2.1 q.2.2 (D.1 c) (D.2 c) := by
  obtain ⟨c0, i0, k0⟩ := u_known (C := RX0) (T := TX0) (N := 5) (n := 5) hts il_X0 (hts (.instantiable RX0 5) (by decide +kernel))
  obtain ⟨c1, i1, k1⟩ := u_known (C := RX1) (T := TX1) (N := 4) (n := 4) hts il_X1 (hts (.instantiable RX1 4) (by decide +kernel))
  obtain ⟨c2, i2, k2⟩ := u_known (C := RX2) (T := TX2) (N := 4) (n := 4) hts il_X2 (hts (.instantiable RX2 4) (by decide +kernel))
  obtain ⟨c3, i3, k3⟩ := u_known (C := RX3) (T := TX3) (N := 5) (n := 5) hts il_X3 (hts (.instantiable RX3 5) (by decide +kernel))
  obtain ⟨c4, i4, k4⟩ := u_known (C := RX4) (T := TX4) (N := 2) (n := 2) hts il_X4 (hts (.instantiable RX4 2) (by decide +kernel))
  obtain ⟨c5, i5, k5⟩ := u_known (C := RX5) (T := TX5) (N := 2) (n := 2) hts il_X5 (hts (.instantiable RX5 2) (by decide +kernel))
  obtain ⟨c6, i6, k6⟩ := u_known (C := RX6) (T := TX6) (N := 7) (n := 7) hts il_X6 (hts (.instantiable RX6 7) (by decide +kernel))
  obtain ⟨c7, i7, k7⟩ := u_known (C := RX7) (T := TX7) (N := 2) (n := 2) hts il_X7 (hts (.instantiable RX7 2) (by decide +kernel))
  obtain ⟨c8, i8, k8⟩ := u_known (C := RX8) (T := TX8) (N := 12) (n := 12) hts il_X8 (hts (.instantiable RX8 12) (by decide +kernel))
  obtain ⟨c9, i9, k9⟩ := u_known (C := RX9) (T := TX9) (N := 33) (n := 33) hts il_X9 (hts (.instantiable RX9 33) (by decide +kernel))
  refine ⟨(fun k => if k = 0 then c0 else if k = 1 then c1 else if k = 2 then c2 else if k = 3 then c3 else if k = 4 then c4 else if k = 5 then c5 else if k = 6 then c6 else if k = 7 then c7 else if k = 8 then c8 else c9, fun k => if k = 0 then i0 else if k = 1 then i1 else if k = 2 then i2 else if k = 3 then i3 else if k = 4 then i4 else if k = 5 then i5 else if k = 6 then i6 else if k = 7 then i7 else if k = 8 then i8 else i9), ?_⟩
  intro k q hq
  match k, hq with
  | 0, hq => cases hq; exact k0
  | 1, hq => cases hq; exact k1
  | 2, hq => cases hq; exact k2
  | 3, hq => cases hq; exact k3
  | 4, hq => cases hq; exact k4
  | 5, hq => cases hq; exact k5
  | 6, hq => cases hq; exact k6
  | 7, hq => cases hq; exact k7
  | 8, hq => cases hq; exact k8
  | 9, hq => cases hq; exact k9
  | k + 10, hq => simp [vwCl] at hq
theorem law_K {s : State} {args : Array Value} (hts : ∀ w ∈ lw_tbl, w.before args s = true) : ∃ (D : va_G) (ty : Nat → ClassId), va_K D vwCl (m_tys ty) s := by
  obtain ⟨D, hD⟩ := law_Kc hts
  obtain ⟨t0, a0, b0⟩ := k_prim (hts (.arrayClass .int) (by decide +kernel))
  obtain ⟨t1, a1, b1⟩ := k_prim (hts (.arrayClass .long) (by decide +kernel))
  obtain ⟨t2, a2, b2⟩ := k_prim (hts (.arrayClass .byte) (by decide +kernel))
  obtain ⟨t3, a3, b3⟩ := k_prim (hts (.arrayClass .boolean) (by decide +kernel))
  obtain ⟨t4, a4, b4⟩ := k_obj (va_AO.of (hts (.arrayOver (.object RX2)) (by decide +kernel)))
  obtain ⟨t5, a5, b5⟩ := k_obj (va_AO.of (hts (.arrayOver (.object RX3)) (by decide +kernel)))
  obtain ⟨t6, a6, b6⟩ := k_obj (va_AO.of (hts (.arrayOver (.object RX5)) (by decide +kernel)))
  obtain ⟨t7, a7, b7⟩ := k_obj (va_AO.of (hts (.arrayOver (.object RX7)) (by decide +kernel)))
  refine ⟨D, fun k => if k = 0 then t0 else if k = 1 then t1 else if k = 2 then t2 else if k = 3 then t3 else if k = 4 then t4 else if k = 5 then t5 else if k = 6 then t6 else t7, hD, ?_⟩
  intro k q hq
  match k, hq with
  | 0, hq => cases hq; exact ⟨a0, b0⟩
  | 1, hq => cases hq; exact ⟨a1, b1⟩
  | 2, hq => cases hq; exact ⟨a2, b2⟩
  | 3, hq => cases hq; exact ⟨a3, b3⟩
  | 4, hq => cases hq; exact ⟨a4, b4⟩
  | 5, hq => cases hq; exact ⟨a5, b5⟩
  | 6, hq => cases hq; exact ⟨a6, b6⟩
  | 7, hq => cases hq; exact ⟨a7, b7⟩
  | k + 8, hq => simp [m_tys] at hq
section LW
variable {p : Program} {l : Launch} {e : Env} {R : Room} {s : State} {m : MethodId} {args : Array Value} {below : List Frame} {meth : Method} {c : Code} {H : Heap} {locs : List Loc} {cells slots : Nat} {Q : State → Prop}
variable {cc : ByteArray} {pc : Nat} {ls : Array Slot} {rest : List Value} {D : va_G} {ty : Nat → ClassId} {L : List Nat} {ad : Nat → Nat} {g : Nat → va_E}
theorem n_sld (hx : p.tables.exec = Jvm.exec) (hb : c.code = cc) {b N : Nat} {xs : Nat → Int32} (hX : va_X b N xs s s.heap) (hbl : b < s.heap.size) (hB : m_B D ty (fun q => s.heap.size ≤ q) s L ad g H locs) {j : Nat} (hj : j < N) (hN : N ≤ 2560) (hdg : decode cc pc = .ok (.iaload, 1))
    (kk : W p l e R s m args below meth c H locs cells slots Q (F0 m (pc + 1) ls (.int (xs j) :: rest))) : W p l e R s m args below meth c H locs cells slots Q (F0 m pc ls (.int (nI j) :: .ref b :: rest)) := by
  refine va_sld (A := fun q => s.heap.size ≤ q) hx hb hX hbl (Nat.not_le.mpr hbl) hB.2.2.2.2.1 (vp_in_nI hj (by omega)) hdg ?_
  rw [nI_clamp (n := j) (by omega)]
  exact kk
end LW
theorem lg_cmp_self (x : Int64) : (lg_cmp x x).toInt = 0 := by
  unfold lg_cmp
  rw [if_neg (Int64.lt_irrefl), if_pos rfl]
  decide
theorem PI.u31 {a : Nat → FI} {dn pn en qn : Nat} {nw : Int32} {k : Nat} (h : PI a dn pn en qn nw k) (h31 : FI) : PI (va_up a 31 h31) dn pn en qn nw k := h
/-- the class's memory, where only the reference's cells come or change -/
theorem RX.mono {ty : Nat → ClassId} {L L1 : List Nat} {ad ad1 : Nat → Nat} {g g1 : Nat → va_E} {a : Nat → FI} {dn pn en qn k : Nat} {nw lo : Int32} {tr : Int64} (h : RX ty L ad g a dn pn en qn nw lo tr) (hp : PI a dn pn en qn nw k) (hL : ∀ x ∈ L, x ∈ L1) (hA : ∀ x ∈ L, ad1 x = ad x) (hg : ∀ x ∈ L, x < 1000 → g1 x = g x) (hn : ∀ x ∈ L1, x ∈ L ∨ 1000 ≤ x) : RX ty L1 ad1 g1 a dn pn en qn nw lo tr := by
  obtain ⟨o, d, r, p, v, s, n, q, k, f⟩ := h
  have hL0 := o.1
  have hA0 : ∀ r, r < 30 → ad1 r = ad r := fun r hr => hA r (hL0 r hr)
  have hg0 : ∀ r, r < 30 → g1 r = g r := fun r hr => hg r (hL0 r hr) (by omega)
  refine ⟨o.fr (fun r hr => hL r (hL0 r hr)) hA0 (hg0 _ (by decide)), d.fr hA0 (fun x _ _ => hg0 x (by omega)), r.fr hA0 (fun x _ _ => hg0 x (by omega)), p.fr hL hA (hg0 _ (by decide)) (fun x hx _ _ => hg x hx (by omega)) hp.1.2.1 (fun j hj => (hp.2.2.1 j hj).2.2.2.1.2.2), v.fr hA0 (fun x _ _ => hg0 x (by omega)), s.fr hA0 (fun x _ _ => hg0 x (by omega)), n.fr hA0 (fun x _ _ => hg0 x (by omega)), q.fr hL hA (hg0 _ (by decide)) (fun x hx _ h => hg x hx h) hp.1.2.2.2, k.fr (hg0 _ (by decide)), fun r hr => ?_⟩
  rcases hn r hr with h1 | h1
  · exact f r h1
  · exact Or.inr (Or.inl h1)
/-! the start -/
def a_0 : Nat → FI := va_up (fun _ _ => 0) 28 (upd (upd (upd (upd (upd (upd (fun _ => 0) 0 (-1)) 1 (-1)) 2 (-1)) 3 (-1)) 4 (-1)) 5 (-1))
theorem nN0 : nN (0 : Int32) = 0 := by decide
theorem b6 {b : Nat} (h : b < 6) : b = 0 ∨ b = 1 ∨ b = 2 ∨ b = 3 ∨ b = 4 ∨ b = 5 := by omega
theorem PI_0 : PI a_0 0 0 0 0 0 0 := by
  refine ⟨⟨by decide, by decide, by decide, by decide⟩, fun i hi => absurd hi (by omega), fun j hj => absurd hj (by omega), fun j v hj => absurd hj (by omega), fun b hb => ?_, fun q hq => absurd hq (by omega), ⟨by decide, by decide⟩, fun b hb => ?_⟩
  · show (0 : Int32) = nI (nN 0) ∧ nN 0 ≤ 80
    decide
  · rcases b6 hb with rfl | rfl | rfl | rfl | rfl | rfl <;> decide
theorem RX_0 {ty : Nat → ClassId} {L0 L : List Nat} {ad0 ad : Nat → Nat} {g0 g : Nat → va_E} {v1 : Option Value} (h0 : L0 = [0]) (h : xi_post ty L0 ad0 g0 v1 L ad g) : RX ty L ad g a_0 0 0 0 0 0 0 0 := by
  obtain ⟨-, hF, hO, hL, f0, f1, f2, f3, f4, f5, f6, f7, f8, f9, f10, f11, f12, f13, f14, f15, f16, f17, f18, f19, f20, f21, f22, f23, f24, f25, f26, f27, f28, f29⟩ := h
  refine ⟨⟨hL, by unfold xobj; rw [nI_0]; exact f0⟩, ⟨by rw [nI_0]; exact f1, _, f2, fun i hi => absurd hi (by omega)⟩, ⟨f3, f4, f5⟩, ⟨⟨_, f6, fun j hj => absurd hj (by omega), fun _ _ _ => rfl⟩, fun j hj => absurd hj (by omega), fun j v hj => absurd hj (by omega)⟩, ⟨⟨_, f7, fun b hb => ?_⟩, fun b hb => ?_⟩, ⟨0, _, by rw [nI_0]; exact f20, f21⟩, ⟨by rw [nI_0]; exact f22, f23, f24, f25, f26, _, f27, fun k hk => absurd hk (by omega)⟩, ⟨_, fun _ => 0, f28, fun i hi => absurd hi (by omega), fun _ _ _ => rfl, fun i hi => absurd hi (by omega), fun i hi => absurd hi (by omega), fun i hi => absurd hi (by omega)⟩, ⟨_, f29, fun b hb => ?_⟩, fun r hr => ?_⟩
  · rcases b6 hb with rfl | rfl | rfl | rfl | rfl | rfl <;> rfl
  · show g (8 + b) = .inr (5, [.ref (ad (14 + b)), .int (nI (nN 0))]) ∧ ∃ bs : FI, g (14 + b) = .inl (ty 2, 80, .inl bs) ∧ ∀ i, i < nN 0 → bs i = a_0 15 (80 * b + i)
    rw [nN0, nI_0]
    rcases b6 hb with rfl | rfl | rfl | rfl | rfl | rfl
    · exact ⟨f8, _, f14, fun i hi => absurd hi (by omega)⟩
    · exact ⟨f9, _, f15, fun i hi => absurd hi (by omega)⟩
    · exact ⟨f10, _, f16, fun i hi => absurd hi (by omega)⟩
    · exact ⟨f11, _, f17, fun i hi => absurd hi (by omega)⟩
    · exact ⟨f12, _, f18, fun i hi => absurd hi (by omega)⟩
    · exact ⟨f13, _, f19, fun i hi => absurd hi (by omega)⟩
  · show (0 : Int32) = if a_0 28 b = 0 then 0 else 0
    split <;> rfl
  · left
    rcases hO r hr with h1 | h1
    · rw [h0] at h1
      rw [List.mem_singleton.mp h1]; decide
    · exact h1
