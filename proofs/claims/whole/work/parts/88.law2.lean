set_option maxHeartbeats 4000000 in
set_option maxRecDepth 100000 in
/-- the loop at its head: k calls of both are done -/
theorem law_loop {p : Program} {l : Launch} {e : Env} {s : State} {m : MethodId} {below : List Frame} {meth : Method} {c : Code} {b N : Nat} {xs : Nat → Int32} (hN : N ≤ 2560) (C0 : lw_At p s m meth c b N xs) {D : va_G} {ty : Nat → ClassId} : ∀ (n k cells slots : Nat), 5 * k ≤ N → N + 1 ≤ 5 * k + n → cells ≤ 100 + 6 * k → slots ≤ 6100 + 133 * k → ∀ (L : List Nat) (ad : Nat → Nat) (g : Nat → va_E) (H : Heap) (locs : List Loc) (a : Nat → FI) (dn pn en qn mz : Nat) (nw lo : Int32) (tr : Int64) (ls : Array Slot), m_B D ty (fun q => s.heap.size ≤ q) s L ad g H locs → PI a dn pn en qn nw k → RX ty L ad g a dn pn en qn nw lo tr → RM ty L ad g a dn pn en qn mz nw lo tr → lv_has ls 4 [(0, .ref b), (1, .ref (ad 0)), (2, .ref (ad 1000)), (3, .int (nI (5 * k)))] → W p l e room_1 s m #[Value.ref b] below meth c H locs cells slots (lw_Z below #[Value.ref b] s) (F0 m 18 ls []) := by
  intro n
  induction n with
  | zero => exact fun k cells slots h1 h2 => absurd h2 (by omega)
  | succ n ih =>
    intro k cells slots h1 h2 hcl hsl L ad g H locs a dn pn en qn mz nw lo tr ls hB hP hX hM hl
    obtain ⟨hx, hb, hr, hml, hown, hts, hS, hbl, hlocks, hgv⟩ := id C0
    refine lv_iload_n hx hb dL_law_18 rfl (lv_at hl 3 rfl) ?_
    refine lv_aload_n hx hb dL_law_19 rfl (lv_at hl 0 rfl) ?_
    refine va_slen (A := fun q => s.heap.size ≤ q) hx hb hS hbl (Nat.not_le.mpr hbl) hB.2.2.2.2.1 dL_law_20 ?_
    refine lv_iconst (v := 5) hx hb dL_law_21 (by decide) ?_
    refine lv_isub hx hb dL_law_22 ?_
    have h5 : (Int32.ofNat N - 5).toInt = (N : Int) - 5 := pk_sub_toInt (a := N) (b := 5) (by omega) (by omega)
    have hi0 := nI_toInt (n := 5 * k) (by omega)
    refine b_icmp_gt 943 hx hb dL_law_23 (by decide) (fun c_23 => ?_) (fun c_23 => ?_)
    · refine lv_iconst (v := 1) hx hb dL_law_943 (by decide) ?_
      refine va_forget (fun q hq => hB.2.2.2.2.1.2.2 q hq) ?_
      refine W.widen (k := 600000) (n := 7302250) (by omega) (by omega) ?_
      exact lw_ret hx hb hr hlocks dL_law_944
    · have hi : 5 * k + 5 ≤ N := by omega
      have next : lc_K p l e s m below meth c b D ty k cells slots (ad 0) (ad 1000) (lw_Z below #[Value.ref b] s) ls := by
        intro L1 ad1 g1 H1 locs1 a1 dn1 pn1 en1 qn1 mz1 nw1 lo1 tr1 hB1 hP1 hX1 hM1 e0 e1
        refine lv_iinc (v := nI (5 * k + 5)) (lv' := [(3, .int (nI (5 * k + 5))), (0, .ref b), (1, .ref (ad 0)), (2, .ref (ad 1000))]) hx hb dL_law_937 hl (k := 3) rfl (nI_add (5 * k) 5) (by decide) rfl (fun ls hl => ?_)
        refine lv_goto (tgt := 18) hx hb dL_law_940 (by decide) ?_
        refine ih (k + 1) (cells + 6) (slots + 133) (by omega) (by omega) (by omega) (by omega) L1 ad1 g1 H1 locs1 a1 dn1 pn1 en1 qn1 mz1 nw1 lo1 tr1 ls hB1 hP1 hX1 hM1 ?_
        rw [e0, e1, show 5 * (k + 1) = 5 * k + 5 by omega]
        exact lv_sub hl [1, 2, 3, 0] rfl
      refine lv_aload_n hx hb dL_law_26 rfl (lv_at hl 0 rfl) ?_
      refine lv_iload_n hx hb dL_law_27 rfl (lv_at hl 3 rfl) ?_
      refine n_sld hx hb hS hbl hB (show 5 * k < N by omega) hN dL_law_28 ?_
      refine lv_bipush (v := 31) hx hb dL_law_29 (by decide) ?_
      refine lv_iand hx hb dL_law_31 ?_
      obtain ⟨j, hj, ej⟩ := pk_andE (xs (5 * k)) (m := 31) 5 (by decide)
      refine b_topi (w := nI j) ej ?_
      by_cases hj23 : j < 23
      · rcases (show j = 0 ∨ j = 1 ∨ j = 2 ∨ j = 3 ∨ j = 4 ∨ j = 5 ∨ j = 6 ∨ j = 7 ∨ j = 8 ∨ j = 9 ∨ j = 10 ∨ j = 11 ∨ j = 12 ∨ j = 13 ∨ j = 14 ∨ j = 15 ∨ j = 16 ∨ j = 17 ∨ j = 18 ∨ j = 19 ∨ j = 20 ∨ j = 21 ∨ j = 22 by omega) with rfl | rfl | rfl | rfl | rfl | rfl | rfl | rfl | rfl | rfl | rfl | rfl | rfl | rfl | rfl | rfl | rfl | rfl | rfl | rfl | rfl | rfl | rfl
        · refine lv_tableIn (off := 108) (tgt := 140) hx hb dL_law_32 (by decide) (by decide) (by decide) (by decide) ?_
          exact lc_type C0 hi hN (by omega) hB hP hX hM hl (by omega) (by omega) next
        · refine lv_tableIn (off := 171) (tgt := 203) hx hb dL_law_32 (by decide) (by decide) (by decide) (by decide) ?_
          exact lc_clear C0 hi hN (by omega) hB hP hX hM hl (by omega) (by omega) next
        · refine lv_tableIn (off := 184) (tgt := 216) hx hb dL_law_32 (by decide) (by decide) (by decide) (by decide) ?_
          exact lc_paper C0 hi hN (by omega) hB hP hX hM hl (by omega) (by omega) next
        · refine lv_tableIn (off := 227) (tgt := 259) hx hb dL_law_32 (by decide) (by decide) (by decide) (by decide) ?_
          exact lc_version C0 hi hN (by omega) hB hP hX hM hl (by omega) (by omega) next
        · refine lv_tableIn (off := 250) (tgt := 282) hx hb dL_law_32 (by decide) (by decide) (by decide) (by decide) ?_
          exact lc_blacken C0 hi hN (by omega) hB hP hX hM hl (by omega) (by omega) next
        · refine lv_tableIn (off := 303) (tgt := 335) hx hb dL_law_32 (by decide) (by decide) (by decide) (by decide) ?_
          exact lc_withdraw C0 hi hN (by omega) hB hP hX hM hl (by omega) (by omega) next
        · refine lv_tableIn (off := 326) (tgt := 358) hx hb dL_law_32 (by decide) (by decide) (by decide) (by decide) ?_
          exact lc_rights C0 hi hN (by omega) hB hP hX hM hl (by omega) (by omega) next
        · refine lv_tableIn (off := 379) (tgt := 411) hx hb dL_law_32 (by decide) (by decide) (by decide) (by decide) ?_
          exact lc_tick C0 hi hN (by omega) hB hP hX hM hl (by omega) (by omega) next
        · refine lv_tableIn (off := 402) (tgt := 434) hx hb dL_law_32 (by decide) (by decide) (by decide) (by decide) ?_
          exact lc_about C0 hi hN (by omega) hB hP hX hM hl (by omega) (by omega) next
        · refine lv_tableIn (off := 435) (tgt := 467) hx hb dL_law_32 (by decide) (by decide) (by decide) (by decide) ?_
          exact lc_may C0 hi hN (by omega) hB hP hX hM hl (by omega) (by omega) next
        · refine lv_tableIn (off := 468) (tgt := 500) hx hb dL_law_32 (by decide) (by decide) (by decide) (by decide) ?_
          exact lc_read C0 hi hN (by omega) hB hP hX hM hl (by omega) (by omega) next
        · refine lv_tableIn (off := 511) (tgt := 543) hx hb dL_law_32 (by decide) (by decide) (by decide) (by decide) ?_
          exact lc_at C0 hi hN (by omega) hB hP hX hM hl (by omega) (by omega) next
        · refine lv_tableIn (off := 544) (tgt := 576) hx hb dL_law_32 (by decide) (by decide) (by decide) (by decide) ?_
          exact lc_search C0 hi hN (by omega) hB hP hX hM hl (by omega) (by omega) next
        · refine lv_tableIn (off := 567) (tgt := 599) hx hb dL_law_32 (by decide) (by decide) (by decide) (by decide) ?_
          exact lc_named C0 hi hN (by omega) hB hP hX hM hl (by omega) (by omega) next
        · refine lv_tableIn (off := 600) (tgt := 632) hx hb dL_law_32 (by decide) (by decide) (by decide) (by decide) ?_
          exact lc_log C0 hi hN (by omega) hB hP hX hM hl (by omega) (by omega) next
        · refine lv_tableIn (off := 633) (tgt := 665) hx hb dL_law_32 (by decide) (by decide) (by decide) (by decide) ?_
          exact lc_chain C0 hi hN (by omega) hB hP hX hM hl (by omega) (by omega) next
        · refine lv_tableIn (off := 657) (tgt := 689) hx hb dL_law_32 (by decide) (by decide) (by decide) (by decide) ?_
          exact lc_times C0 hi hN (by omega) hB hP hX hM hl (by omega) (by omega) next
        · refine lv_tableIn (off := 700) (tgt := 732) hx hb dL_law_32 (by decide) (by decide) (by decide) (by decide) ?_
          exact lc_ask C0 hi hN (by omega) hB hP hX hM hl (by omega) (by omega) next
        · refine lv_tableIn (off := 743) (tgt := 775) hx hb dL_law_32 (by decide) (by decide) (by decide) (by decide) ?_
          exact lc_answer C0 hi hN (by omega) hB hP hX hM hl (by omega) (by omega) next
        · refine lv_tableIn (off := 802) (tgt := 834) hx hb dL_law_32 (by decide) (by decide) (by decide) (by decide) ?_
          exact lc_hear C0 hi hN (by omega) hB hP hX hM hl (by omega) (by omega) next
        · refine lv_tableIn (off := 835) (tgt := 867) hx hb dL_law_32 (by decide) (by decide) (by decide) (by decide) ?_
          exact lc_question C0 hi hN (by omega) hB hP hX hM hl (by omega) (by omega) next
        · refine lv_tableIn (off := 868) (tgt := 900) hx hb dL_law_32 (by decide) (by decide) (by decide) (by decide) ?_
          exact lc_count C0 hi hN (by omega) hB hP hX hM hl (by omega) (by omega) next
        · refine lv_tableIn (off := 891) (tgt := 923) hx hb dL_law_32 (by decide) (by decide) (by decide) (by decide) ?_
          exact lc_trace C0 hi hN (by omega) hB hP hX hM hl (by omega) (by omega) next
      · have hj3 := nI_toInt (n := j) (by omega)
        refine lv_tableOut (tgt := 937) hx hb dL_law_32 (Or.inr (by omega)) (by decide) ?_
        refine W.widen (k := cells + 6) (n := slots + 133) (by omega) (by omega) ?_
        exact next L ad g H locs a dn pn en qn mz nw lo tr hB hP.next hX hM rfl rfl
theorem app_mem {L : List Nat} {x r : Nat} (h : x ∈ L) : x ∈ L ++ [r] := List.mem_append_left _ h
theorem app_self {L : List Nat} {r : Nat} : r ∈ L ++ [r] := List.mem_append_right _ (List.mem_singleton.mpr rfl)
theorem app_or {L : List Nat} {P : Nat → Prop} {r : Nat} (h : ∀ x ∈ L, P x) (hr : P r) : ∀ x ∈ L ++ [r], P x := fun x hx => (List.mem_append.mp hx).elim (h x) (fun h => by rw [List.mem_singleton.mp h]; exact hr)
theorem RM_0L {L : List Nat} : (∀ x ∈ L, x ∈ (((((((((((((((((((((((((L ++ [1002]) ++ [1004]) ++ [1005]) ++ [1007]) ++ [1008]) ++ [1009]) ++ [1010]) ++ [1011]) ++ [1012]) ++ [1013]) ++ [1014]) ++ [1015]) ++ [1016]) ++ [1019]) ++ [1020]) ++ [1021]) ++ [1022]) ++ [1024]) ++ [1025]) ++ [1026]) ++ [1027]) ++ [1028]) ++ [1029]) ++ [1030]) ++ [1032])) ∧ (∀ x ∈ (((((((((((((((((((((((((L ++ [1002]) ++ [1004]) ++ [1005]) ++ [1007]) ++ [1008]) ++ [1009]) ++ [1010]) ++ [1011]) ++ [1012]) ++ [1013]) ++ [1014]) ++ [1015]) ++ [1016]) ++ [1019]) ++ [1020]) ++ [1021]) ++ [1022]) ++ [1024]) ++ [1025]) ++ [1026]) ++ [1027]) ++ [1028]) ++ [1029]) ++ [1030]) ++ [1032]), x ∈ L ∨ 1000 ≤ x) ∧ (1000 ∈ L → ∀ r ∈ mrol, r ∈ (((((((((((((((((((((((((L ++ [1002]) ++ [1004]) ++ [1005]) ++ [1007]) ++ [1008]) ++ [1009]) ++ [1010]) ++ [1011]) ++ [1012]) ++ [1013]) ++ [1014]) ++ [1015]) ++ [1016]) ++ [1019]) ++ [1020]) ++ [1021]) ++ [1022]) ++ [1024]) ++ [1025]) ++ [1026]) ++ [1027]) ++ [1028]) ++ [1029]) ++ [1030]) ++ [1032])) := by
  refine ⟨fun x h => (app_mem (app_mem (app_mem (app_mem (app_mem (app_mem (app_mem (app_mem (app_mem (app_mem (app_mem (app_mem (app_mem (app_mem (app_mem (app_mem (app_mem (app_mem (app_mem (app_mem (app_mem (app_mem (app_mem (app_mem (app_mem h))))))))))))))))))))))))), (app_or (app_or (app_or (app_or (app_or (app_or (app_or (app_or (app_or (app_or (app_or (app_or (app_or (app_or (app_or (app_or (app_or (app_or (app_or (app_or (app_or (app_or (app_or (app_or (app_or (fun x hx => Or.inl hx) (Or.inr (by decide))) (Or.inr (by decide))) (Or.inr (by decide))) (Or.inr (by decide))) (Or.inr (by decide))) (Or.inr (by decide))) (Or.inr (by decide))) (Or.inr (by decide))) (Or.inr (by decide))) (Or.inr (by decide))) (Or.inr (by decide))) (Or.inr (by decide))) (Or.inr (by decide))) (Or.inr (by decide))) (Or.inr (by decide))) (Or.inr (by decide))) (Or.inr (by decide))) (Or.inr (by decide))) (Or.inr (by decide))) (Or.inr (by decide))) (Or.inr (by decide))) (Or.inr (by decide))) (Or.inr (by decide))) (Or.inr (by decide))) (Or.inr (by decide))), fun h => ?_⟩
  unfold mrol
  exact List.forall_mem_cons.mpr ⟨(app_mem (app_mem (app_mem (app_mem (app_mem (app_mem (app_mem (app_mem (app_mem (app_mem (app_mem (app_mem (app_mem (app_mem (app_mem (app_mem (app_mem (app_mem (app_mem (app_mem (app_mem (app_mem (app_mem (app_mem (app_mem h))))))))))))))))))))))))), (List.forall_mem_cons.mpr ⟨(app_mem (app_mem (app_mem (app_mem (app_mem (app_mem (app_mem (app_mem (app_mem (app_mem (app_mem (app_mem (app_mem (app_mem (app_mem (app_mem (app_mem (app_mem (app_mem (app_mem (app_mem (app_mem (app_mem (app_mem app_self)))))))))))))))))))))))), (List.forall_mem_cons.mpr ⟨(app_mem (app_mem (app_mem (app_mem (app_mem (app_mem (app_mem (app_mem (app_mem (app_mem (app_mem (app_mem (app_mem (app_mem (app_mem (app_mem (app_mem (app_mem (app_mem (app_mem (app_mem (app_mem (app_mem app_self))))))))))))))))))))))), (List.forall_mem_cons.mpr ⟨(app_mem (app_mem (app_mem (app_mem (app_mem (app_mem (app_mem (app_mem (app_mem (app_mem (app_mem (app_mem (app_mem (app_mem (app_mem (app_mem (app_mem (app_mem (app_mem (app_mem (app_mem (app_mem app_self)))))))))))))))))))))), (List.forall_mem_cons.mpr ⟨(app_mem (app_mem (app_mem (app_mem (app_mem (app_mem (app_mem (app_mem (app_mem (app_mem (app_mem (app_mem (app_mem (app_mem (app_mem (app_mem (app_mem (app_mem (app_mem (app_mem (app_mem app_self))))))))))))))))))))), (List.forall_mem_cons.mpr ⟨(app_mem (app_mem (app_mem (app_mem (app_mem (app_mem (app_mem (app_mem (app_mem (app_mem (app_mem (app_mem (app_mem (app_mem (app_mem (app_mem (app_mem (app_mem (app_mem (app_mem app_self)))))))))))))))))))), (List.forall_mem_cons.mpr ⟨(app_mem (app_mem (app_mem (app_mem (app_mem (app_mem (app_mem (app_mem (app_mem (app_mem (app_mem (app_mem (app_mem (app_mem (app_mem (app_mem (app_mem (app_mem (app_mem app_self))))))))))))))))))), (List.forall_mem_cons.mpr ⟨(app_mem (app_mem (app_mem (app_mem (app_mem (app_mem (app_mem (app_mem (app_mem (app_mem (app_mem (app_mem (app_mem (app_mem (app_mem (app_mem (app_mem (app_mem app_self)))))))))))))))))), (List.forall_mem_cons.mpr ⟨(app_mem (app_mem (app_mem (app_mem (app_mem (app_mem (app_mem (app_mem (app_mem (app_mem (app_mem (app_mem (app_mem (app_mem (app_mem (app_mem (app_mem app_self))))))))))))))))), (List.forall_mem_cons.mpr ⟨(app_mem (app_mem (app_mem (app_mem (app_mem (app_mem (app_mem (app_mem (app_mem (app_mem (app_mem (app_mem (app_mem (app_mem (app_mem (app_mem app_self)))))))))))))))), (List.forall_mem_cons.mpr ⟨(app_mem (app_mem (app_mem (app_mem (app_mem (app_mem (app_mem (app_mem (app_mem (app_mem (app_mem (app_mem (app_mem (app_mem (app_mem app_self))))))))))))))), (List.forall_mem_cons.mpr ⟨(app_mem (app_mem (app_mem (app_mem (app_mem (app_mem (app_mem (app_mem (app_mem (app_mem (app_mem (app_mem (app_mem (app_mem app_self)))))))))))))), (List.forall_mem_cons.mpr ⟨(app_mem (app_mem (app_mem (app_mem (app_mem (app_mem (app_mem (app_mem (app_mem (app_mem (app_mem (app_mem (app_mem app_self))))))))))))), (List.forall_mem_cons.mpr ⟨(app_mem (app_mem (app_mem (app_mem (app_mem (app_mem (app_mem (app_mem (app_mem (app_mem (app_mem (app_mem app_self)))))))))))), (List.forall_mem_cons.mpr ⟨(app_mem (app_mem (app_mem (app_mem (app_mem (app_mem (app_mem (app_mem (app_mem (app_mem (app_mem app_self))))))))))), (List.forall_mem_cons.mpr ⟨(app_mem (app_mem (app_mem (app_mem (app_mem (app_mem (app_mem (app_mem (app_mem (app_mem app_self)))))))))), (List.forall_mem_cons.mpr ⟨(app_mem (app_mem (app_mem (app_mem (app_mem (app_mem (app_mem (app_mem (app_mem app_self))))))))), (List.forall_mem_cons.mpr ⟨(app_mem (app_mem (app_mem (app_mem (app_mem (app_mem (app_mem (app_mem app_self)))))))), (List.forall_mem_cons.mpr ⟨(app_mem (app_mem (app_mem (app_mem (app_mem (app_mem (app_mem app_self))))))), (List.forall_mem_cons.mpr ⟨(app_mem (app_mem (app_mem (app_mem (app_mem (app_mem app_self)))))), (List.forall_mem_cons.mpr ⟨(app_mem (app_mem (app_mem (app_mem (app_mem app_self))))), (List.forall_mem_cons.mpr ⟨(app_mem (app_mem (app_mem (app_mem app_self)))), (List.forall_mem_cons.mpr ⟨(app_mem (app_mem (app_mem app_self))), (List.forall_mem_cons.mpr ⟨(app_mem (app_mem app_self)), (List.forall_mem_cons.mpr ⟨(app_mem app_self), (List.forall_mem_cons.mpr ⟨app_self, (fun _ h => absurd h List.not_mem_nil)⟩)⟩)⟩)⟩)⟩)⟩)⟩)⟩)⟩)⟩)⟩)⟩)⟩)⟩)⟩)⟩)⟩)⟩)⟩)⟩)⟩)⟩)⟩)⟩)⟩)⟩
set_option maxHeartbeats 4000000 in
set_option maxRecDepth 100000 in
/-- THE LAW, from its entry -/
theorem whole_start {p : Program} {e : Env} {s : State} {m : MethodId} {below : List Frame} {meth : Method} {c : Code} (l : Launch) {b L : Nat} {xs : Nat → Int32} (hL : L ≤ 2560) (C0 : lw_At p s m meth c b L xs) : W p l e room_1 s m #[Value.ref b] below meth c s.heap [] 0 0 (lw_Z below #[Value.ref b] s) (entryFrame m ([Value.ref b] : List Value).toArray 4) := by
  obtain ⟨hx, hb, hr, hml, hown, hts, hS, hbl, hlocks, hgv⟩ := id C0
  have htsL : ∀ w ∈ wsL_law, w.before #[Value.ref b] s = true := fun w h => hts w (wsL_law_in w h)
  obtain ⟨D, ty, hK⟩ := law_K hts
  have hB : m_B D ty (fun q => s.heap.size ≤ q) s [] (fun _ => 0) (fun _ => .inr (0, [])) s.heap [] := ⟨hK, law_Z hts, fun k q h => by simp [m_w] at h, ⟨fun i j p q h => by simp [m_w] at h, fun k q h => by simp [m_w] at h⟩, va_S.rf, fun _ h => h⟩
  have hl := lv_entry ([.ref b]) (n := 4) (Nat.le_of_ble_eq_true rfl)
  rw [lg_entry_eq]
  generalize (lg_sl ([.ref b]) ++ List.replicate (4 - (lg_sl ([.ref b])).length) Slot.unset).toArray = ls at hl ⊢
  have hl : lv_has ls 4 [(0, .ref b)] := hl
  refine n_new (C := RX8) (T := TX8) (N := 12) (ci := 8) (fs := [.null, .null, .null, .int 0, .null, .null, .null, .null, .int 0, .null, .int 0, .long 0]) hx hb hts il_X8 tyX8 tyX8_ok hown (hts (.classLink RL 7 RX8) (by decide +kernel)) (hts (.instantiable RX8 12) (by decide +kernel)) (hts (.initialized RX8) (by decide +kernel)) hB 0 (fun h => absurd h List.not_mem_nil) rfl (by decide +kernel) (Nat.le_of_ble_eq_true rfl) (Nat.le_of_ble_eq_true rfl) dL_law_0 (fun ad1 H1 had1 hB1 => ?_)
  refine lv_dup hx hb dL_law_3 rfl ?_
  refine m_callI (r := 0) (As := []) (rest := [.ref (ad1 0)]) (c_X_init l D ty ([] ++ [0]) ad1 _ app_self (va_up_self _ _ _) (by decide)) ⟨hx, hb, hml, hown, htsL⟩ (cwI 0 htsL gL_law_X8_init rfl rfl rfl (hts (.initialized RX8) (by decide +kernel)) (hts (.methodLink RL 9 yX8_init) (by decide +kernel)) (hts (.instanceMethod yX8_init) (by decide +kernel)) rfl (by decide +kernel) ⟨Nat.le_of_ble_eq_true rfl, Nat.le_of_ble_eq_true rfl⟩) hB1 rfl hl.1 rfl (Nat.le_of_ble_eq_true rfl) dL_law_4 ⟨Nat.le_of_ble_eq_true rfl, Nat.le_of_ble_eq_true rfl⟩ (fun v1 L2 ad2 g2 H2 locs2 hp hB2 => ?_)
  have hX2 := RX_0 rfl hp
  obtain ⟨e1, hF, hO, hL30, -⟩ := hp
  refine W.eq (g2 := F0 m 7 ls [.ref (ad2 0)]) (by rw [e1, (hF 0 app_self).2.1]; rfl) ?_
  refine lv_astore_n (lv' := [(1, .ref (ad2 0)), (0, .ref b)]) hx hb dL_law_7 rfl hl (by decide) rfl (fun ls hl => ?_)
  have hno : ∀ r, 1000 ≤ r → r ∉ L2 := fun r h1 h2 => (hO r h2).elim (fun h3 => by rw [List.mem_singleton.mp h3] at h1; omega) (fun h3 => by omega)
  refine n_new (C := RX9) (T := TX9) (N := 33) (ci := 9) (fs := [.int 0, .null, .int 0, .null, .null, .int 0, .null, .null, .null, .null, .null, .null, .null, .null, .null, .null, .int 0, .int 0, .null, .null, .null, .null, .int 0, .null, .null, .null, .null, .null, .null, .null, .long 0, .null, .int 0]) hx hb hts il_X9 tyX9 tyX9_ok hown (hts (.classLink RL 10 RX9) (by decide +kernel)) (hts (.instantiable RX9 33) (by decide +kernel)) (hts (.initialized RX9) (by decide +kernel)) hB2 1000 (hno 1000 (by decide)) rfl (by decide +kernel) (Nat.le_of_ble_eq_true rfl) (Nat.le_of_ble_eq_true rfl) dL_law_8 (fun ad3 H3 had3 hB3 => ?_)
  refine lv_dup hx hb dL_law_11 rfl ?_
  refine m_callI (r := 1000) (As := []) (rest := [.ref (ad3 1000)]) (c_M_init l D ty (L2 ++ [1000]) ad3 _ app_self (va_up_self _ _ _) (fun r h1 => nin_app (hno r (by omega)) (by omega))) ⟨hx, hb, hml, hown, htsL⟩ (cwI 0 htsL gL_law_X9_init rfl rfl rfl (hts (.initialized RX9) (by decide +kernel)) (hts (.methodLink RL 12 yX9_init) (by decide +kernel)) (hts (.instanceMethod yX9_init) (by decide +kernel)) rfl (by decide +kernel) ⟨Nat.le_of_ble_eq_true rfl, Nat.le_of_ble_eq_true rfl⟩) hB3 rfl hl.1 rfl (Nat.le_of_ble_eq_true rfl) dL_law_12 ⟨Nat.le_of_ble_eq_true rfl, Nat.le_of_ble_eq_true rfl⟩ (fun v3 L4 ad4 g4 H4 locs4 hp hB4 => ?_)
  obtain ⟨e3, e4, hA4, hfr, h1000, h1002, h1004, h1005, h1007, h1008, h1009, h1010, h1011, h1012, h1013, h1014, h1015, h1016, h1019, h1020, h1021, h1022, h1024, h1025, h1026, h1027, h1028, h1029, h1030, h1032⟩ := hp
  obtain ⟨r1, r2, r3⟩ := RM_0L (L := L2 ++ [1000])
  rw [← e4] at r1 r2 r3
  have hX4 : RX ty L4 ad4 g4 a_0 0 0 0 0 0 0 0 := by
    refine hX2.mono PI_0 (fun x hx => r1 x (app_mem hx)) (fun x hx => ((had3 x hx).trans (hA4 x (app_mem hx))).symm) (fun x hx h => ?_) (fun x hx => ?_)
    · exact (hfr x (app_mem hx) (by omega)).trans (va_up_ne _ _ (by omega))
    · rcases r2 x hx with h | h
      · rcases List.mem_append.mp h with h | h
        · exact Or.inl h
        · exact Or.inr (by rw [List.mem_singleton.mp h]; decide)
      · exact Or.inr h
  have hM4 : RM ty L4 ad4 g4 a_0 0 0 0 0 0 0 0 0 := ⟨r3 app_self, by rw [nI_0]; exact h1000, h1002, h1004, h1005, h1007, h1008, h1009, h1010, h1011, h1012, h1013, h1014, h1015, h1016, h1019, h1020, h1021, h1022, h1024, h1025, h1026, h1027, h1028, h1029, h1030, h1032⟩
  have z0 : ad2 0 = ad4 0 := (had3 0 (hL30 0 (by decide))).trans (hA4 0 (app_mem (hL30 0 (by decide))))
  have z1 : ad3 1000 = ad4 1000 := hA4 1000 app_self
  refine W.eq (g2 := F0 m 15 ls [.ref (ad4 1000)]) (by rw [e3, z1]; rfl) ?_
  refine lv_astore_n (lv' := [(2, .ref (ad4 1000)), (1, .ref (ad2 0)), (0, .ref b)]) hx hb dL_law_15 rfl hl (by decide) rfl (fun ls hl => ?_)
  refine lv_iconst (v := 0) hx hb dL_law_16 (by decide) ?_
  refine lv_istore_n (lv' := [(3, .int 0), (2, .ref (ad4 1000)), (1, .ref (ad2 0)), (0, .ref b)]) hx hb dL_law_17 rfl hl (by decide) rfl (fun ls hl => ?_)
  refine law_loop hL C0 (L + 1) 0 _ _ (by omega) (by omega) (Nat.le_of_ble_eq_true rfl) (Nat.le_of_ble_eq_true rfl) L4 ad4 g4 H4 locs4 a_0 0 0 0 0 0 0 0 0 ls hB4 PI_0 hX4 hM4 ?_
  rw [← z0]
  exact lv_sub hl [3, 2, 1, 0] rfl
