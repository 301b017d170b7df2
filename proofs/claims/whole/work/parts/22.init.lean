theorem oi_X5_init : Cond.code objectInit ⟨#[0xb1]⟩ 1 none ∈ wsX5_init := List.mem_cons_of_mem _ (by first | exact List.mem_of_getElem? (i := 2) rfl | exact List.mem_append_left _ (List.mem_of_getElem? (i := 2) rfl) | exact List.mem_append_left _ (List.mem_append_left _ (List.mem_of_getElem? (i := 2) rfl)) | exact List.mem_append_left _ (List.mem_append_left _ (List.mem_append_left _ (List.mem_of_getElem? (i := 2) rfl))) | exact List.mem_append_left _ (List.mem_append_left _ (List.mem_append_left _ (List.mem_append_left _ (List.mem_of_getElem? (i := 2) rfl)))))
set_option maxRecDepth 20000 in
theorem mx_X5_init : Cond.code Lib.Math.max.name Lib.Math.max.code 2 (some .int) ∈ wsX5_init := List.mem_of_getElem? (i := 7) rfl
set_option maxRecDepth 20000 in
theorem in_X5_init_X5 : ∀ w ∈ wsX50, w ∈ wsX5_init := by decide +kernel
set_option maxHeartbeats 1000000 in
set_option maxRecDepth 100000 in
theorem c_Row_init (l : Launch) (D : va_G) (ty : Nat → ClassId) (L : List Nat) (ad : Nat → Nat) (g : Nat → va_E) (r a cap : Nat) (m_r : r ∈ L) (h_r : g r = .inr (5, [.null, .int 0])) (n_a : a ∉ L) (hc : cap ≤ 80) (ne : r ≠ a) : m_C l yX5_init wsX5_init 1 21 1 80 D ty [.ref (ad r), .int (nI cap)] L ad g (fun v1 L1 ad1 g1 => v1 = none ∧ L1 = L ++ [a] ∧ (∀ x ∈ L, ad x = ad1 x) ∧ g1 = va_up (va_up g a (.inl (ty 2, cap, .inl (fun _ => 0)))) r (.inr (5, [.ref (ad1 a), .int 0]))) := by
  intro sz
  refine Met.ofW (cc := cX5_init) (maxL := 2) (ret := none) (by decide) rfl ?_
  intro p e s m args below meth c s₁ B hml hv
  have hx := B.exec
  have hb := B.bytes
  have hrt := B.returns
  have hts := atoms_spec (ws := wsX5_init) B.pre
  have hown : s.vm.findClass RX5 = some m.cls := findClass_of_methodNamed B.named
  have hlocks := B.notSynchronized
  have hin : meth.name = "<init>" := (name_of_methodNamed B.named B.method).1
  obtain ⟨rfl, hB⟩ := m_start hv
  generalize va_A (m_w L ad g) sz = A at hB ⊢
  generalize s.heap = H at hB ⊢
  generalize ([] : List Loc) = locs at hB ⊢
  have hl := lv_entry ([.ref (ad r), .int (nI cap)]) (n := 2) (Nat.le_of_ble_eq_true rfl)
  rw [lg_entry_eq]
  generalize (lg_sl ([.ref (ad r), .int (nI cap)]) ++ List.replicate (2 - (lg_sl ([.ref (ad r), .int (nI cap)])).length) Slot.unset).toArray = ls at hl ⊢
  have hl : lv_has ls 2 [(0, .ref (ad r)), (1, .int (nI cap))] := hl
  refine lv_aload_n hx hb dX5_init_0 rfl (lv_at hl 0 rfl) ?_
  refine W.objInit hx hb hown (hts (.methodLink RX5 3 objectInit) (by decide +kernel)) (hts (.instanceMethod objectInit) (by decide +kernel)) (hts _ oi_X5_init) rfl (by rw [hml]; exact hl.1) rfl dX5_init_1 (Nat.le_of_ble_eq_true rfl) (Nat.le_of_ble_eq_true rfl) ?_
  refine W.eq (g2 := F0 m 4 ls []) rfl ?_
  refine lv_aload_n hx hb dX5_init_4 rfl (lv_at hl 0 rfl) ?_
  refine lv_iload_n hx hb dX5_init_5 rfl (lv_at hl 1 rfl) ?_
  refine lv_iconst (v := 0) hx hb dX5_init_6 (by decide) ?_
  refine va_mmax hx hb (by rw [hml]; exact hl.1.symm) hown (hts (.methodLink RX5 9 Lib.Math.max.name) (by decide +kernel)) (hts (.static Lib.Math.max.name) (by decide +kernel)) (hts (.initialized "java/lang/Math") (by decide +kernel)) (hts _ mx_X5_init) (Nat.le_of_ble_eq_true rfl) (Nat.le_of_ble_eq_true rfl) (Nat.zero_le _) (Nat.zero_le _) dX5_init_7 ?_
  refine b_topi (w := nI cap) (if_neg (by rw [i_lt, nI_toInt (by omega), i_0]; omega)) ?_
  refine n_newa (atype := .byte) (ft := .byte) (a0 := (cap, .inl (fun _ => 0))) hx hb (hts (.arrayClass .byte) (by decide +kernel)) rfl hB 2 rfl a n_a (fun _ => rfl) (by rw [i_lt, nI_toInt (by omega), i_0]; first | omega | decide) (by first | exact nI_clamp (by omega) | decide) (by show _ * 1 ≤ _; omega) (Nat.le_of_ble_eq_true rfl) (by show _ + _ ≤ (80 : Nat); omega) dX5_init_10 (fun ad_1 H had_1 hB => ?_)
  have e1_r : ad r = ad_1 r := had_1 r m_r
  replace hl : lv_has ls 2 [(0, .ref (ad_1 r)), (1, .int (nI cap))] := by rw [← e1_r]; exact hl
  replace hB : m_B D ty A s (L ++ [a]) ad_1 (va_up g a (.inl (ty 2, cap, .inl (fun _ => 0)))) H locs := hB
  refine W.eq (g2 := F0 m 12 ls [.ref (ad_1 a), .ref (ad_1 r)]) (by rw [e1_r]) ?_
  refine m_putF (C := RX5) (T := TX5) (N := 2) (ci := 5) (v := .ref (ad_1 a)) (ft := .array .byte) hx hb hts in_X5_init_X5 tyX5 tyX5_ok nmX5 hown hB (List.mem_append_left _ m_r) ((va_up_ne _ _ ne).trans h_r) rfl 0 (by decide) (hts (.fieldLink RX5 15 "PaperRoom$Row" "bytes" "[B") (by decide +kernel)) (fun _ h9 => h9) rfl hin rfl (by decide +kernel) rfl rfl (Nat.le_of_ble_eq_true rfl) dX5_init_12 (fun H locs hB => ?_)
  replace hB : m_B D ty A s (L ++ [a]) ad_1 (va_up (va_up g a (.inl (ty 2, cap, .inl (fun _ => 0)))) r (.inr (5, [.ref (ad_1 a), .int 0]))) H locs := hB
  exact m_vret hx hb hrt hlocks hB (Nat.le_of_ble_eq_true rfl) (by show _ + _ ≤ (80 : Nat); omega) dX5_init_15 ⟨rfl, rfl, (fun x hx => had_1 x hx), rfl⟩
