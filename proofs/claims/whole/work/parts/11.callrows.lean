section ME
variable {p : Program} {l : Launch} {e : Env} {R : Room} {s : State} {m : MethodId} {args : Array Value} {below : List Frame} {meth : Method} {c : Code} {H : Heap} {locs : List Loc} {cells slots : Nat} {Q : State → Prop}
variable {cc : ByteArray} {pc : Nat} {ls : Array Slot} {rest st0 : List Value} {D : va_G} {ty : Nat → ClassId} {A : Nat → Prop} {L : List Nat} {ad : Nat → Nat} {g g2 : Nat → va_E} {r : Nat} {w : Value}
variable {y : MethodName} {bytes : ByteArray} {maxL nL n index f lo : Nat} {ret : Option FieldType} {ws : List Cond} {Ts : List Cond} {own host : String} {As : List Value}
theorem m_callSE (hC : m_E l y ws f lo D ty As L ad g (some w) g2) (S : CallFix p m c cc nL s args Ts own) (cw : CallB R s args own index y bytes maxL ret ws ({ frames := f, cells := 0, slots := 0, locals := lo } : Room) 0 0 n ∧ (Cond.static y).before args s = true) (hB : m_B D ty A s L ad g H locs) (hn : As.length = n) (hsize : ls.size = nL) (hst : st0 = As.reverse ++ rest) (hW : (rest.map fun v => v.category).sum ≤ 8) (hdg : decode cc pc = .ok (.invokestatic index, 3)) (hf : cells + 0 ≤ R.cells ∧ slots + 0 ≤ R.slots)
    (kk : ∀ (H1 : Heap) (locs1 : List Loc), m_B D ty A s L ad g2 H1 locs1 → W p l e R s m args below meth c H1 locs1 cells slots Q (F0 m (pc + 3) ls (w :: rest))) : W p l e R s m args below meth c H locs cells slots Q (F0 m pc ls st0) := by
  refine m_callS hC S cw hB hn hsize hst hW hdg hf (fun v L1 ad1 g1 H1 locs1 hp hB1 => ?_)
  obtain ⟨e1, e2, e3, e4⟩ := hp
  rw [e2, e3, e4] at hB1
  rw [e1]
  exact kk H1 locs1 hB1
theorem m_callSZ (hC : m_E l y ws f lo D ty As L ad g none g2) (S : CallFix p m c cc nL s args Ts own) (cw : CallB R s args own index y bytes maxL ret ws ({ frames := f, cells := 0, slots := 0, locals := lo } : Room) 0 0 n ∧ (Cond.static y).before args s = true) (hB : m_B D ty A s L ad g H locs) (hn : As.length = n) (hsize : ls.size = nL) (hst : st0 = As.reverse ++ rest) (hW : (rest.map fun v => v.category).sum ≤ 8) (hdg : decode cc pc = .ok (.invokestatic index, 3)) (hf : cells + 0 ≤ R.cells ∧ slots + 0 ≤ R.slots)
    (kk : ∀ (H1 : Heap) (locs1 : List Loc), m_B D ty A s L ad g2 H1 locs1 → W p l e R s m args below meth c H1 locs1 cells slots Q (F0 m (pc + 3) ls rest)) : W p l e R s m args below meth c H locs cells slots Q (F0 m pc ls st0) := by
  refine m_callS hC S cw hB hn hsize hst hW hdg hf (fun v L1 ad1 g1 H1 locs1 hp hB1 => ?_)
  obtain ⟨e1, e2, e3, e4⟩ := hp
  rw [e2, e3, e4] at hB1
  rw [e1]
  exact kk H1 locs1 hB1
theorem m_callSNE (hC : m_E l y ws f lo D ty As L ad g (some w) g2) (S : CallFix p m c cc nL s args Ts own) (cw : va_CN R s args own index y host bytes maxL ret ws ({ frames := f, cells := 0, slots := 0, locals := lo } : Room) 0 0 n ∧ (Cond.static y).before args s = true ∧ True) (hB : m_B D ty A s L ad g H locs) (hn : As.length = n) (hsize : ls.size = nL) (hst : st0 = As.reverse ++ rest) (hW : (rest.map fun v => v.category).sum ≤ 8) (hdg : decode cc pc = .ok (.invokestatic index, 3)) (hf : cells + 0 ≤ R.cells ∧ slots + 0 ≤ R.slots)
    (kk : ∀ (H1 : Heap) (locs1 : List Loc), m_B D ty A s L ad g2 H1 locs1 → W p l e R s m args below meth c H1 locs1 cells slots Q (F0 m (pc + 3) ls (w :: rest))) : W p l e R s m args below meth c H locs cells slots Q (F0 m pc ls st0) := by
  refine m_callSN hC S cw hB hn hsize hst hW hdg hf (fun v L1 ad1 g1 H1 locs1 hp hB1 => ?_)
  obtain ⟨e1, e2, e3, e4⟩ := hp
  rw [e2, e3, e4] at hB1
  rw [e1]
  exact kk H1 locs1 hB1
theorem m_callSNZ (hC : m_E l y ws f lo D ty As L ad g none g2) (S : CallFix p m c cc nL s args Ts own) (cw : va_CN R s args own index y host bytes maxL ret ws ({ frames := f, cells := 0, slots := 0, locals := lo } : Room) 0 0 n ∧ (Cond.static y).before args s = true ∧ True) (hB : m_B D ty A s L ad g H locs) (hn : As.length = n) (hsize : ls.size = nL) (hst : st0 = As.reverse ++ rest) (hW : (rest.map fun v => v.category).sum ≤ 8) (hdg : decode cc pc = .ok (.invokestatic index, 3)) (hf : cells + 0 ≤ R.cells ∧ slots + 0 ≤ R.slots)
    (kk : ∀ (H1 : Heap) (locs1 : List Loc), m_B D ty A s L ad g2 H1 locs1 → W p l e R s m args below meth c H1 locs1 cells slots Q (F0 m (pc + 3) ls rest)) : W p l e R s m args below meth c H locs cells slots Q (F0 m pc ls st0) := by
  refine m_callSN hC S cw hB hn hsize hst hW hdg hf (fun v L1 ad1 g1 H1 locs1 hp hB1 => ?_)
  obtain ⟨e1, e2, e3, e4⟩ := hp
  rw [e2, e3, e4] at hB1
  rw [e1]
  exact kk H1 locs1 hB1
theorem m_callVE {C : String} {T : u_T} {N ci : Nat} {fs : List Value} (hC : m_E l y ws f lo D ty (.ref (ad r) :: As) L ad g (some w) g2) (S : CallFix p m c cc nL s args Ts own) (cw : CallW R s args own C index y bytes maxL ret ws ({ frames := f, cells := 0, slots := 0, locals := lo } : Room) 0 0 n) (hB : m_B D ty A s L ad g H locs) (hr : r ∈ L) (he : g r = .inr (ci, fs)) (hc : vwCl[ci]? = some (C, T, N)) (hn : As.length = n) (hsize : ls.size = nL) (hst : st0 = As.reverse ++ .ref (ad r) :: rest) (hW : (rest.map fun v => v.category).sum ≤ 8) (hdg : decode cc pc = .ok (.invokevirtual index, 3)) (hf : cells + 0 ≤ R.cells ∧ slots + 0 ≤ R.slots)
    (kk : ∀ (H1 : Heap) (locs1 : List Loc), m_B D ty A s L ad g2 H1 locs1 → W p l e R s m args below meth c H1 locs1 cells slots Q (F0 m (pc + 3) ls (w :: rest))) : W p l e R s m args below meth c H locs cells slots Q (F0 m pc ls st0) := by
  refine m_callV hC S cw hB hr he hc hn hsize hst hW hdg hf (fun v L1 ad1 g1 H1 locs1 hp hB1 => ?_)
  obtain ⟨e1, e2, e3, e4⟩ := hp
  rw [e2, e3, e4] at hB1
  rw [e1]
  exact kk H1 locs1 hB1
theorem m_callVZ {C : String} {T : u_T} {N ci : Nat} {fs : List Value} (hC : m_E l y ws f lo D ty (.ref (ad r) :: As) L ad g none g2) (S : CallFix p m c cc nL s args Ts own) (cw : CallW R s args own C index y bytes maxL ret ws ({ frames := f, cells := 0, slots := 0, locals := lo } : Room) 0 0 n) (hB : m_B D ty A s L ad g H locs) (hr : r ∈ L) (he : g r = .inr (ci, fs)) (hc : vwCl[ci]? = some (C, T, N)) (hn : As.length = n) (hsize : ls.size = nL) (hst : st0 = As.reverse ++ .ref (ad r) :: rest) (hW : (rest.map fun v => v.category).sum ≤ 8) (hdg : decode cc pc = .ok (.invokevirtual index, 3)) (hf : cells + 0 ≤ R.cells ∧ slots + 0 ≤ R.slots)
    (kk : ∀ (H1 : Heap) (locs1 : List Loc), m_B D ty A s L ad g2 H1 locs1 → W p l e R s m args below meth c H1 locs1 cells slots Q (F0 m (pc + 3) ls rest)) : W p l e R s m args below meth c H locs cells slots Q (F0 m pc ls st0) := by
  refine m_callV hC S cw hB hr he hc hn hsize hst hW hdg hf (fun v L1 ad1 g1 H1 locs1 hp hB1 => ?_)
  obtain ⟨e1, e2, e3, e4⟩ := hp
  rw [e2, e3, e4] at hB1
  rw [e1]
  exact kk H1 locs1 hB1
theorem m_callUE {C owner : String} {x : MethodName} {T : u_T} {N ci : Nat} {fs : List Value} (hC : m_E l y ws f lo D ty (.ref (ad r) :: As) L ad g (some w) g2) (S : CallFix p m c cc nL s args Ts own) (cw : va_CU R s args own C owner index x y bytes maxL ret ws ({ frames := f, cells := 0, slots := 0, locals := lo } : Room) 0 0 n) (hB : m_B D ty A s L ad g H locs) (hr : r ∈ L) (he : g r = .inr (ci, fs)) (hc : vwCl[ci]? = some (C, T, N)) (hn : As.length = n) (hsize : ls.size = nL) (hst : st0 = As.reverse ++ .ref (ad r) :: rest) (hW : (rest.map fun v => v.category).sum ≤ 8) (hdg : decode cc pc = .ok (.invokevirtual index, 3)) (hf : cells + 0 ≤ R.cells ∧ slots + 0 ≤ R.slots)
    (kk : ∀ (H1 : Heap) (locs1 : List Loc), m_B D ty A s L ad g2 H1 locs1 → W p l e R s m args below meth c H1 locs1 cells slots Q (F0 m (pc + 3) ls (w :: rest))) : W p l e R s m args below meth c H locs cells slots Q (F0 m pc ls st0) := by
  refine m_callU hC S cw hB hr he hc hn hsize hst hW hdg hf (fun v L1 ad1 g1 H1 locs1 hp hB1 => ?_)
  obtain ⟨e1, e2, e3, e4⟩ := hp
  rw [e2, e3, e4] at hB1
  rw [e1]
  exact kk H1 locs1 hB1
theorem m_callUZ {C owner : String} {x : MethodName} {T : u_T} {N ci : Nat} {fs : List Value} (hC : m_E l y ws f lo D ty (.ref (ad r) :: As) L ad g none g2) (S : CallFix p m c cc nL s args Ts own) (cw : va_CU R s args own C owner index x y bytes maxL ret ws ({ frames := f, cells := 0, slots := 0, locals := lo } : Room) 0 0 n) (hB : m_B D ty A s L ad g H locs) (hr : r ∈ L) (he : g r = .inr (ci, fs)) (hc : vwCl[ci]? = some (C, T, N)) (hn : As.length = n) (hsize : ls.size = nL) (hst : st0 = As.reverse ++ .ref (ad r) :: rest) (hW : (rest.map fun v => v.category).sum ≤ 8) (hdg : decode cc pc = .ok (.invokevirtual index, 3)) (hf : cells + 0 ≤ R.cells ∧ slots + 0 ≤ R.slots)
    (kk : ∀ (H1 : Heap) (locs1 : List Loc), m_B D ty A s L ad g2 H1 locs1 → W p l e R s m args below meth c H1 locs1 cells slots Q (F0 m (pc + 3) ls rest)) : W p l e R s m args below meth c H locs cells slots Q (F0 m pc ls st0) := by
  refine m_callU hC S cw hB hr he hc hn hsize hst hW hdg hf (fun v L1 ad1 g1 H1 locs1 hp hB1 => ?_)
  obtain ⟨e1, e2, e3, e4⟩ := hp
  rw [e2, e3, e4] at hB1
  rw [e1]
  exact kk H1 locs1 hB1
theorem m_callSUE {C : String} {T : u_T} {N ci : Nat} {fs : List Value} (hC : m_E l y ws f lo D ty (.ref (ad r) :: As) L ad g (some w) g2) (S : CallFix p m c cc nL s args Ts own) (cw : va_CS R s args own index y bytes maxL ret ws ({ frames := f, cells := 0, slots := 0, locals := lo } : Room) 0 0 n) (hB : m_B D ty A s L ad g H locs) (hr : r ∈ L) (he : g r = .inr (ci, fs)) (hc : vwCl[ci]? = some (C, T, N)) (hn : As.length = n) (hsize : ls.size = nL) (hst : st0 = As.reverse ++ .ref (ad r) :: rest) (hW : (rest.map fun v => v.category).sum ≤ 8) (hdg : decode cc pc = .ok (.invokespecial index, 3)) (hf : cells + 0 ≤ R.cells ∧ slots + 0 ≤ R.slots)
    (kk : ∀ (H1 : Heap) (locs1 : List Loc), m_B D ty A s L ad g2 H1 locs1 → W p l e R s m args below meth c H1 locs1 cells slots Q (F0 m (pc + 3) ls (w :: rest))) : W p l e R s m args below meth c H locs cells slots Q (F0 m pc ls st0) := by
  refine m_callSU hC S cw hB hr he hc hn hsize hst hW hdg hf (fun v L1 ad1 g1 H1 locs1 hp hB1 => ?_)
  obtain ⟨e1, e2, e3, e4⟩ := hp
  rw [e2, e3, e4] at hB1
  rw [e1]
  exact kk H1 locs1 hB1
theorem m_callSUZ {C : String} {T : u_T} {N ci : Nat} {fs : List Value} (hC : m_E l y ws f lo D ty (.ref (ad r) :: As) L ad g none g2) (S : CallFix p m c cc nL s args Ts own) (cw : va_CS R s args own index y bytes maxL ret ws ({ frames := f, cells := 0, slots := 0, locals := lo } : Room) 0 0 n) (hB : m_B D ty A s L ad g H locs) (hr : r ∈ L) (he : g r = .inr (ci, fs)) (hc : vwCl[ci]? = some (C, T, N)) (hn : As.length = n) (hsize : ls.size = nL) (hst : st0 = As.reverse ++ .ref (ad r) :: rest) (hW : (rest.map fun v => v.category).sum ≤ 8) (hdg : decode cc pc = .ok (.invokespecial index, 3)) (hf : cells + 0 ≤ R.cells ∧ slots + 0 ≤ R.slots)
    (kk : ∀ (H1 : Heap) (locs1 : List Loc), m_B D ty A s L ad g2 H1 locs1 → W p l e R s m args below meth c H1 locs1 cells slots Q (F0 m (pc + 3) ls rest)) : W p l e R s m args below meth c H locs cells slots Q (F0 m pc ls st0) := by
  refine m_callSU hC S cw hB hr he hc hn hsize hst hW hdg hf (fun v L1 ad1 g1 H1 locs1 hp hB1 => ?_)
  obtain ⟨e1, e2, e3, e4⟩ := hp
  rw [e2, e3, e4] at hB1
  rw [e1]
  exact kk H1 locs1 hB1
theorem m_callIE (hC : m_E l y ws f lo D ty (.ref (ad r) :: As) L ad g (some w) g2) (S : CallFix p m c cc nL s args Ts own) (cw : CallB R s args own index y bytes maxL none ws ({ frames := f, cells := 0, slots := 0, locals := lo } : Room) 0 0 n ∧ y.name = "<init>" ∧ (Cond.instanceMethod y).before args s = true) (hB : m_B D ty A s L ad g H locs) (hn : As.length = n) (hsize : ls.size = nL) (hst : st0 = As.reverse ++ .ref (ad r) :: rest) (hW : (rest.map fun v => v.category).sum ≤ 8) (hdg : decode cc pc = .ok (.invokespecial index, 3)) (hf : cells + 0 ≤ R.cells ∧ slots + 0 ≤ R.slots)
    (kk : ∀ (H1 : Heap) (locs1 : List Loc), m_B D ty A s L ad g2 H1 locs1 → W p l e R s m args below meth c H1 locs1 cells slots Q (F0 m (pc + 3) ls (w :: rest))) : W p l e R s m args below meth c H locs cells slots Q (F0 m pc ls st0) := by
  refine m_callI hC S cw hB hn hsize hst hW hdg hf (fun v L1 ad1 g1 H1 locs1 hp hB1 => ?_)
  obtain ⟨e1, e2, e3, e4⟩ := hp
  rw [e2, e3, e4] at hB1
  rw [e1]
  exact kk H1 locs1 hB1
theorem m_callIZ (hC : m_E l y ws f lo D ty (.ref (ad r) :: As) L ad g none g2) (S : CallFix p m c cc nL s args Ts own) (cw : CallB R s args own index y bytes maxL none ws ({ frames := f, cells := 0, slots := 0, locals := lo } : Room) 0 0 n ∧ y.name = "<init>" ∧ (Cond.instanceMethod y).before args s = true) (hB : m_B D ty A s L ad g H locs) (hn : As.length = n) (hsize : ls.size = nL) (hst : st0 = As.reverse ++ .ref (ad r) :: rest) (hW : (rest.map fun v => v.category).sum ≤ 8) (hdg : decode cc pc = .ok (.invokespecial index, 3)) (hf : cells + 0 ≤ R.cells ∧ slots + 0 ≤ R.slots)
    (kk : ∀ (H1 : Heap) (locs1 : List Loc), m_B D ty A s L ad g2 H1 locs1 → W p l e R s m args below meth c H1 locs1 cells slots Q (F0 m (pc + 3) ls rest)) : W p l e R s m args below meth c H locs cells slots Q (F0 m pc ls st0) := by
  refine m_callI hC S cw hB hn hsize hst hW hdg hf (fun v L1 ad1 g1 H1 locs1 hp hB1 => ?_)
  obtain ⟨e1, e2, e3, e4⟩ := hp
  rw [e2, e3, e4] at hB1
  rw [e1]
  exact kk H1 locs1 hB1
/-- where a method may be run in two ways, the calling row asks for both cases -/
theorem n_new (hx : p.tables.exec = Jvm.exec) (hb : c.code = cc) {own C : String} {T : u_T} {N ci index : Nat} {Ts : List Cond} (hts : ∀ w ∈ Ts, w.before args s = true) (hin : ∀ w ∈ u_ws C T N, w ∈ Ts) (ty0 : Nat → FieldType) (hty : ∀ k, k < N → parseFieldDescriptor (T k).2.2.1 = some (ty0 k)) (hown : s.vm.findClass own = some m.cls) (hcl : (Cond.classLink own index C).before args s = true) (hinst : (Cond.instantiable C N).before args s = true) (hini : (Cond.initialized C).before args s = true) (hB : m_B D ty A s L ad g H locs) (r : Nat) (hr : r ∉ L) (hc : vwCl[ci]? = some (C, T, N)) {fs : List Value} (hfs : ∀ j, j < N → defaultValue (ty0 j) = vp_V fs j) (hcells : cells + 1 ≤ R.cells) (hslots : slots + N ≤ R.slots) (hdg : decode cc pc = .ok (.new index, 3))
    (kk : ∀ (ad1 : Nat → Nat) (H1 : Heap), (∀ x ∈ L, ad x = ad1 x) → m_B D ty A s (L ++ [r]) ad1 (va_up g r (.inr (ci, fs))) H1 locs → W p l e R s m args below meth c H1 locs (cells + 1) (slots + N) Q (F0 m (pc + 3) ls (.ref (ad1 r) :: rest))) : W p l e R s m args below meth c H locs cells slots Q (F0 m pc ls rest) :=
  m_new hx hb hts hin ty0 hty hown hcl hinst hini hB r hr hc hfs hcells hslots hdg (fun q H1 hB1 => by
    have k1 := kk (va_up ad r q) H1 (fun x hx => (va_up_ne (j := x) ad q (fun e9 => hr (by rw [← e9]; exact hx))).symm) hB1
    rw [va_up_self] at k1
    exact k1)
theorem n_newa (hx : p.tables.exec = Jvm.exec) (hb : c.code = cc) {atype : ArrayType} (harr : (Cond.arrayClass (newarray.typeOf atype)).before args s = true) {ft : FieldType} (hty : newarray.typeOf atype = ft) (hB : m_B D ty A s L ad g H locs) (t0 : Nat) {cA : ClassId} (ht : (m_tys ty)[t0]? = some (cA, ft)) (r : Nat) (hr : r ∉ L) {n : Int32} {N' : Nat} {a0 : vp_A} (ha : ∀ cA : ClassId, vp_cell cA a0 = arrV cA N' (fun _ => defaultValue ft)) (hn : ¬ n < 0) (hN : n.toNatClampNeg = N') (hbytes : N' * componentBytes ft ≤ 536870912) (hcells : cells + 1 ≤ R.cells) (hslots : slots + N' ≤ R.slots) (hdg : decode cc pc = .ok (.newarray atype, 2))
    (kk : ∀ (ad1 : Nat → Nat) (H1 : Heap), (∀ x ∈ L, ad x = ad1 x) → m_B D ty A s (L ++ [r]) ad1 (va_up g r (.inl (cA, a0))) H1 locs → W p l e R s m args below meth c H1 locs (cells + 1) (slots + N') Q (F0 m (pc + 2) ls (.ref (ad1 r) :: rest))) : W p l e R s m args below meth c H locs cells slots Q (F0 m pc ls (.int n :: rest)) :=
  m_newa hx hb harr hty hB t0 ht r hr ha hn hN hbytes hcells hslots hdg (fun q H1 hB1 => by
    have k1 := kk (va_up ad r q) H1 (fun x hx => (va_up_ne (j := x) ad q (fun e9 => hr (by rw [← e9]; exact hx))).symm) hB1
    rw [va_up_self] at k1
    exact k1)
theorem n_newq (hx : p.tables.exec = Jvm.exec) (hb : c.code = cc) {own C : String} {index : Nat} (hown : s.vm.findClass own = some m.cls) (hclink : (Cond.classLink own index C).before args s = true) (hover : va_AO C s) (hB : m_B D ty A s L ad g H locs) (t0 : Nat) {cA : ClassId} (ht : (m_tys ty)[t0]? = some (cA, .object C)) (r : Nat) (hr : r ∉ L) {n : Int32} {N' : Nat} (hn : ¬ n < 0) (hN : n.toNatClampNeg = N') (hbytes : N' * 4 ≤ 536870912) (hcells : cells + 1 ≤ R.cells) (hslots : slots + N' ≤ R.slots) (hdg : decode cc pc = .ok (.anewarray index, 3))
    (kk : ∀ (ad1 : Nat → Nat) (H1 : Heap), (∀ x ∈ L, ad x = ad1 x) → m_B D ty A s (L ++ [r]) ad1 (va_up g r (.inl (cA, N', .inr (.inr (.inr (.inr (fun _ => none))))))) H1 locs → W p l e R s m args below meth c H1 locs (cells + 1) (slots + N') Q (F0 m (pc + 3) ls (.ref (ad1 r) :: rest))) : W p l e R s m args below meth c H locs cells slots Q (F0 m pc ls (.int n :: rest)) :=
  m_newq hx hb hown hclink hover hB t0 ht r hr hn hN hbytes hcells hslots hdg (fun q H1 hB1 => by
    have k1 := kk (va_up ad r q) H1 (fun x hx => (va_up_ne (j := x) ad q (fun e9 => hr (by rw [← e9]; exact hx))).symm) hB1
    rw [va_up_self] at k1
    exact k1)
end ME
