/-- what a call of both leaves: the next round of the loop -/
def lc_K (p : Program) (l : Launch) (e : Env) (s : State) (m : MethodId) (below : List Frame) (meth : Method) (c : Code) (b : Nat) (D : va_G) (ty : Nat → ClassId) (k cells slots rx rm : Nat) (Q : State → Prop) (ls : Array Slot) : Prop := ∀ (L1 : List Nat) (ad1 : Nat → Nat) (g1 : Nat → va_E) (H1 : Heap) (locs1 : List Loc) (a1 : Nat → FI) (dn1 pn1 en1 qn1 mz1 : Nat) (nw1 lo1 : Int32) (tr1 : Int64), m_B D ty (fun q => s.heap.size ≤ q) s L1 ad1 g1 H1 locs1 → PI a1 dn1 pn1 en1 qn1 nw1 (k + 1) → RX ty L1 ad1 g1 a1 dn1 pn1 en1 qn1 nw1 lo1 tr1 → RM ty L1 ad1 g1 a1 dn1 pn1 en1 qn1 mz1 nw1 lo1 tr1 → ad1 0 = rx → ad1 1000 = rm → W p l e room_1 s m #[Value.ref b] below meth c H1 locs1 (cells + 6) (slots + 133) Q (F0 m 937 ls [])
set_option maxHeartbeats 4000000 in
set_option maxRecDepth 100000 in
theorem lc_type {p : Program} {l : Launch} {e : Env} {s : State} {m : MethodId} {below : List Frame} {meth : Method} {c : Code} {b N : Nat} {xs : Nat → Int32} (C0 : lw_At p s m meth c b N xs) {D : va_G} {ty : Nat → ClassId} {L : List Nat} {ad : Nat → Nat} {g : Nat → va_E} {H : Heap} {locs : List Loc} {a : Nat → FI} {dn pn en qn mz : Nat} {nw lo : Int32} {tr : Int64} {k cells slots i : Nat} {Q : State → Prop} {ls : Array Slot} (hi : i + 5 ≤ N) (hN : N ≤ 2560) (hk : k < 1000) (hB : m_B D ty (fun q => s.heap.size ≤ q) s L ad g H locs) (hP : PI a dn pn en qn nw k) (hX : RX ty L ad g a dn pn en qn nw lo tr) (hM : RM ty L ad g a dn pn en qn mz nw lo tr) (hl : lv_has ls 4 [(0, .ref b), (1, .ref (ad 0)), (2, .ref (ad 1000)), (3, .int (nI i))]) (hc : cells + 6 ≤ 600000) (hsl : slots + 133 ≤ 7302250) (kk : lc_K p l e s m below meth c b D ty k cells slots (ad 0) (ad 1000) Q ls) : W p l e room_1 s m #[Value.ref b] below meth c H locs cells slots Q (F0 m 140 ls []) := by
  obtain ⟨hx, hb, hr, hml, hown, hts, hS, hbl, hlocks, hgv⟩ := id C0
  have htsL : ∀ w ∈ wsL_law, w.before #[Value.ref b] s = true := fun w h => hts w (wsL_law_in w h)
  obtain ⟨v9, a1, dn1, pn1, en1, qn1, nw1, lo1, tr1, mc, ms, h6, h133, hP1, cx, cm⟩ := s_type l D ty (((xs (i + 1)).toInt64 <<< ((32 : Int32).toInt64 &&& 63)) ||| ((xs (i + 2)).toInt64 &&& 4294967295)) (xs (i + 3)) hk hP hX hM
  refine lv_aload_n hx hb dL_law_140 rfl (lv_at hl 1 rfl) ?_
  refine lv_aload_n hx hb dL_law_141 rfl (lv_at hl 0 rfl) ?_
  refine lv_iload_n hx hb dL_law_142 rfl (lv_at hl 3 rfl) ?_
  refine lv_iconst (v := 1) hx hb dL_law_143 (by decide) ?_
  refine lv_iadd hx hb dL_law_144 ?_
  refine b_topi (w := nI (i + 1)) (nI_add i 1) ?_
  refine n_sld hx hb hS hbl hB (show i + 1 < N by omega) hN dL_law_145 ?_
  refine lv_i2l hx hb dL_law_146 rfl ?_
  refine lv_bipush (v := 32) hx hb dL_law_147 (by decide) ?_
  refine lv_lshl hx hb dL_law_149 rfl ?_
  refine lv_aload_n hx hb dL_law_150 rfl (lv_at hl 0 rfl) ?_
  refine lv_iload_n hx hb dL_law_151 rfl (lv_at hl 3 rfl) ?_
  refine lv_iconst (v := 2) hx hb dL_law_152 (by decide) ?_
  refine lv_iadd hx hb dL_law_153 ?_
  refine b_topi (w := nI (i + 2)) (nI_add i 2) ?_
  refine n_sld hx hb hS hbl hB (show i + 2 < N by omega) hN dL_law_154 ?_
  refine lv_i2l hx hb dL_law_155 rfl ?_
  refine lv_ldc2 hx hb hown (htsL (.constantLong RL 13 (4294967295)) (List.mem_append_left _ (by decide +kernel))) dL_law_156 ?_
  refine lv_land hx hb dL_law_159 ?_
  refine lv_lor hx hb dL_law_160 ?_
  refine lv_aload_n hx hb dL_law_161 rfl (lv_at hl 0 rfl) ?_
  refine lv_iload_n hx hb dL_law_162 rfl (lv_at hl 3 rfl) ?_
  refine lv_iconst (v := 3) hx hb dL_law_163 (by decide) ?_
  refine lv_iadd hx hb dL_law_164 ?_
  refine b_topi (w := nI (i + 3)) (nI_add i 3) ?_
  refine n_sld hx hb hS hbl hB (show i + 3 < N by omega) hN dL_law_165 ?_
  refine m_callV (C := RX8) (T := TX8) (N := 12) (ci := 8) (r := 0) (As := [.long (((xs (i + 1)).toInt64 <<< ((32 : Int32).toInt64 &&& 63)) ||| ((xs (i + 2)).toInt64 &&& 4294967295)), .int (xs (i + 3))]) (rest := []) cx ⟨hx, hb, hml, hown, htsL⟩ (cwV 2 htsL gL_law_X8_type rfl rfl rfl (by decide +kernel) ⟨Nat.le_of_ble_eq_true rfl, Nat.le_of_ble_eq_true rfl⟩) hB (hX.1.1 0 (by decide)) hX.1.2 rfl rfl hl.1 rfl (Nat.le_of_ble_eq_true rfl) dL_law_166 ⟨by show cells + mc ≤ 600000; omega, by show slots + ms ≤ 7302250; omega⟩ (fun v1 L1 ad1 g1 H locs hp hB => ?_)
  obtain ⟨e1, e2, e3, hX1, hM1⟩ := hp
  refine W.eq (g2 := F0 m 169 ls [.int v9]) (by rw [e1]; rfl) ?_
  refine lv_aload_n hx hb dL_law_169 rfl (lv_at hl 2 rfl) ?_
  refine W.eq (g2 := F0 m 170 ls [.ref (ad1 1000), .int v9]) (by rw [e3]) ?_
  refine lv_aload_n hx hb dL_law_170 rfl (lv_at hl 0 rfl) ?_
  refine lv_iload_n hx hb dL_law_171 rfl (lv_at hl 3 rfl) ?_
  refine lv_iconst (v := 1) hx hb dL_law_172 (by decide) ?_
  refine lv_iadd hx hb dL_law_173 ?_
  refine b_topi (w := nI (i + 1)) (nI_add i 1) ?_
  refine n_sld hx hb hS hbl hB (show i + 1 < N by omega) hN dL_law_174 ?_
  refine lv_i2l hx hb dL_law_175 rfl ?_
  refine lv_bipush (v := 32) hx hb dL_law_176 (by decide) ?_
  refine lv_lshl hx hb dL_law_178 rfl ?_
  refine lv_aload_n hx hb dL_law_179 rfl (lv_at hl 0 rfl) ?_
  refine lv_iload_n hx hb dL_law_180 rfl (lv_at hl 3 rfl) ?_
  refine lv_iconst (v := 2) hx hb dL_law_181 (by decide) ?_
  refine lv_iadd hx hb dL_law_182 ?_
  refine b_topi (w := nI (i + 2)) (nI_add i 2) ?_
  refine n_sld hx hb hS hbl hB (show i + 2 < N by omega) hN dL_law_183 ?_
  refine lv_i2l hx hb dL_law_184 rfl ?_
  refine lv_ldc2 hx hb hown (htsL (.constantLong RL 13 (4294967295)) (List.mem_append_left _ (by decide +kernel))) dL_law_185 ?_
  refine lv_land hx hb dL_law_188 ?_
  refine lv_lor hx hb dL_law_189 ?_
  refine lv_aload_n hx hb dL_law_190 rfl (lv_at hl 0 rfl) ?_
  refine lv_iload_n hx hb dL_law_191 rfl (lv_at hl 3 rfl) ?_
  refine lv_iconst (v := 3) hx hb dL_law_192 (by decide) ?_
  refine lv_iadd hx hb dL_law_193 ?_
  refine b_topi (w := nI (i + 3)) (nI_add i 3) ?_
  refine n_sld hx hb hS hbl hB (show i + 3 < N by omega) hN dL_law_194 ?_
  refine m_callV (C := RX9) (T := TX9) (N := 33) (ci := 9) (r := 1000) (As := [.long (((xs (i + 1)).toInt64 <<< ((32 : Int32).toInt64 &&& 63)) ||| ((xs (i + 2)).toInt64 &&& 4294967295)), .int (xs (i + 3))]) (rest := [.int v9]) (cm L1 ad1 g1 hX1 hM1) ⟨hx, hb, hml, hown, htsL⟩ (cwV 2 htsL gL_law_X9_type rfl rfl rfl (by decide +kernel) ⟨Nat.le_of_ble_eq_true rfl, Nat.le_of_ble_eq_true rfl⟩) hB (hM1.1 1000 (by decide)) hM1.2.1 rfl rfl hl.1 rfl (Nat.le_of_ble_eq_true rfl) dL_law_195 ⟨by show cells + mc + 0 ≤ 600000; omega, by show slots + ms + 0 ≤ 7302250; omega⟩ (fun v2 L2 ad2 g2 H locs hp hB => ?_)
  obtain ⟨e4, e5, e6, h31, mz1, hX2, hM2⟩ := hp
  refine W.eq (g2 := F0 m 198 ls [.int v9, .int v9]) (by rw [e4]; rfl) ?_
  refine b_icmp_eq_t 937 hx hb dL_law_198 (by decide) rfl ?_
  refine W.widen (k := cells + 6) (n := slots + 133) (by omega) (by omega) ?_
  exact kk L2 ad2 g2 H locs (va_up a1 31 h31) dn1 pn1 en1 qn1 mz1 nw1 lo1 tr1 hB (hP1.u31 h31) hX2 hM2 (e5.trans e2) (e6.trans e3)
set_option maxHeartbeats 4000000 in
set_option maxRecDepth 100000 in
theorem lc_clear {p : Program} {l : Launch} {e : Env} {s : State} {m : MethodId} {below : List Frame} {meth : Method} {c : Code} {b N : Nat} {xs : Nat → Int32} (C0 : lw_At p s m meth c b N xs) {D : va_G} {ty : Nat → ClassId} {L : List Nat} {ad : Nat → Nat} {g : Nat → va_E} {H : Heap} {locs : List Loc} {a : Nat → FI} {dn pn en qn mz : Nat} {nw lo : Int32} {tr : Int64} {k cells slots i : Nat} {Q : State → Prop} {ls : Array Slot} (hi : i + 5 ≤ N) (hN : N ≤ 2560) (hk : k < 1000) (hB : m_B D ty (fun q => s.heap.size ≤ q) s L ad g H locs) (hP : PI a dn pn en qn nw k) (hX : RX ty L ad g a dn pn en qn nw lo tr) (hM : RM ty L ad g a dn pn en qn mz nw lo tr) (hl : lv_has ls 4 [(0, .ref b), (1, .ref (ad 0)), (2, .ref (ad 1000)), (3, .int (nI i))]) (hc : cells + 6 ≤ 600000) (hsl : slots + 133 ≤ 7302250) (kk : lc_K p l e s m below meth c b D ty k cells slots (ad 0) (ad 1000) Q ls) : W p l e room_1 s m #[Value.ref b] below meth c H locs cells slots Q (F0 m 203 ls []) := by
  obtain ⟨hx, hb, hr, hml, hown, hts, hS, hbl, hlocks, hgv⟩ := id C0
  have htsL : ∀ w ∈ wsL_law, w.before #[Value.ref b] s = true := fun w h => hts w (wsL_law_in w h)
  obtain ⟨v9, a1, dn1, pn1, en1, qn1, nw1, lo1, tr1, mc, ms, h6, h133, hP1, cx, cm⟩ := s_clear l D ty  hk hP hX hM
  refine lv_aload_n hx hb dL_law_203 rfl (lv_at hl 1 rfl) ?_
  refine m_callV (C := RX8) (T := TX8) (N := 12) (ci := 8) (r := 0) (As := []) (rest := []) cx ⟨hx, hb, hml, hown, htsL⟩ (cwV 0 htsL gL_law_X8_clear rfl rfl rfl (by decide +kernel) ⟨Nat.le_of_ble_eq_true rfl, Nat.le_of_ble_eq_true rfl⟩) hB (hX.1.1 0 (by decide)) hX.1.2 rfl rfl hl.1 rfl (Nat.le_of_ble_eq_true rfl) dL_law_204 ⟨by show cells + mc ≤ 600000; omega, by show slots + ms ≤ 7302250; omega⟩ (fun v1 L1 ad1 g1 H locs hp hB => ?_)
  obtain ⟨e1, e2, e3, hX1, hM1⟩ := hp
  refine W.eq (g2 := F0 m 207 ls [.int v9]) (by rw [e1]; rfl) ?_
  refine lv_aload_n hx hb dL_law_207 rfl (lv_at hl 2 rfl) ?_
  refine W.eq (g2 := F0 m 208 ls [.ref (ad1 1000), .int v9]) (by rw [e3]) ?_
  refine m_callV (C := RX9) (T := TX9) (N := 33) (ci := 9) (r := 1000) (As := []) (rest := [.int v9]) (cm L1 ad1 g1 hX1 hM1) ⟨hx, hb, hml, hown, htsL⟩ (cwV 0 htsL gL_law_X9_clear rfl rfl rfl (by decide +kernel) ⟨Nat.le_of_ble_eq_true rfl, Nat.le_of_ble_eq_true rfl⟩) hB (hM1.1 1000 (by decide)) hM1.2.1 rfl rfl hl.1 rfl (Nat.le_of_ble_eq_true rfl) dL_law_208 ⟨by show cells + mc + 0 ≤ 600000; omega, by show slots + ms + 0 ≤ 7302250; omega⟩ (fun v2 L2 ad2 g2 H locs hp hB => ?_)
  obtain ⟨e4, e5, e6, h31, mz1, hX2, hM2⟩ := hp
  refine W.eq (g2 := F0 m 211 ls [.int v9, .int v9]) (by rw [e4]; rfl) ?_
  refine b_icmp_eq_t 937 hx hb dL_law_211 (by decide) rfl ?_
  refine W.widen (k := cells + 6) (n := slots + 133) (by omega) (by omega) ?_
  exact kk L2 ad2 g2 H locs (va_up a1 31 h31) dn1 pn1 en1 qn1 mz1 nw1 lo1 tr1 hB (hP1.u31 h31) hX2 hM2 (e5.trans e2) (e6.trans e3)
set_option maxHeartbeats 4000000 in
set_option maxRecDepth 100000 in
theorem lc_paper {p : Program} {l : Launch} {e : Env} {s : State} {m : MethodId} {below : List Frame} {meth : Method} {c : Code} {b N : Nat} {xs : Nat → Int32} (C0 : lw_At p s m meth c b N xs) {D : va_G} {ty : Nat → ClassId} {L : List Nat} {ad : Nat → Nat} {g : Nat → va_E} {H : Heap} {locs : List Loc} {a : Nat → FI} {dn pn en qn mz : Nat} {nw lo : Int32} {tr : Int64} {k cells slots i : Nat} {Q : State → Prop} {ls : Array Slot} (hi : i + 5 ≤ N) (hN : N ≤ 2560) (hk : k < 1000) (hB : m_B D ty (fun q => s.heap.size ≤ q) s L ad g H locs) (hP : PI a dn pn en qn nw k) (hX : RX ty L ad g a dn pn en qn nw lo tr) (hM : RM ty L ad g a dn pn en qn mz nw lo tr) (hl : lv_has ls 4 [(0, .ref b), (1, .ref (ad 0)), (2, .ref (ad 1000)), (3, .int (nI i))]) (hc : cells + 6 ≤ 600000) (hsl : slots + 133 ≤ 7302250) (kk : lc_K p l e s m below meth c b D ty k cells slots (ad 0) (ad 1000) Q ls) : W p l e room_1 s m #[Value.ref b] below meth c H locs cells slots Q (F0 m 216 ls []) := by
  obtain ⟨hx, hb, hr, hml, hown, hts, hS, hbl, hlocks, hgv⟩ := id C0
  have htsL : ∀ w ∈ wsL_law, w.before #[Value.ref b] s = true := fun w h => hts w (wsL_law_in w h)
  obtain ⟨v9, a1, dn1, pn1, en1, qn1, nw1, lo1, tr1, mc, ms, h6, h133, hP1, cx, cm⟩ := s_paper l D ty (xs (i + 1)) (xs (i + 2)) (xs (i + 3)) hk hP hX hM
  refine lv_aload_n hx hb dL_law_216 rfl (lv_at hl 1 rfl) ?_
  refine lv_aload_n hx hb dL_law_217 rfl (lv_at hl 0 rfl) ?_
  refine lv_iload_n hx hb dL_law_218 rfl (lv_at hl 3 rfl) ?_
  refine lv_iconst (v := 1) hx hb dL_law_219 (by decide) ?_
  refine lv_iadd hx hb dL_law_220 ?_
  refine b_topi (w := nI (i + 1)) (nI_add i 1) ?_
  refine n_sld hx hb hS hbl hB (show i + 1 < N by omega) hN dL_law_221 ?_
  refine lv_aload_n hx hb dL_law_222 rfl (lv_at hl 0 rfl) ?_
  refine lv_iload_n hx hb dL_law_223 rfl (lv_at hl 3 rfl) ?_
  refine lv_iconst (v := 2) hx hb dL_law_224 (by decide) ?_
  refine lv_iadd hx hb dL_law_225 ?_
  refine b_topi (w := nI (i + 2)) (nI_add i 2) ?_
  refine n_sld hx hb hS hbl hB (show i + 2 < N by omega) hN dL_law_226 ?_
  refine lv_aload_n hx hb dL_law_227 rfl (lv_at hl 0 rfl) ?_
  refine lv_iload_n hx hb dL_law_228 rfl (lv_at hl 3 rfl) ?_
  refine lv_iconst (v := 3) hx hb dL_law_229 (by decide) ?_
  refine lv_iadd hx hb dL_law_230 ?_
  refine b_topi (w := nI (i + 3)) (nI_add i 3) ?_
  refine n_sld hx hb hS hbl hB (show i + 3 < N by omega) hN dL_law_231 ?_
  refine m_callV (C := RX8) (T := TX8) (N := 12) (ci := 8) (r := 0) (As := [.int (xs (i + 1)), .int (xs (i + 2)), .int (xs (i + 3))]) (rest := []) cx ⟨hx, hb, hml, hown, htsL⟩ (cwV 3 htsL gL_law_X8_paper rfl rfl rfl (by decide +kernel) ⟨Nat.le_of_ble_eq_true rfl, Nat.le_of_ble_eq_true rfl⟩) hB (hX.1.1 0 (by decide)) hX.1.2 rfl rfl hl.1 rfl (Nat.le_of_ble_eq_true rfl) dL_law_232 ⟨by show cells + mc ≤ 600000; omega, by show slots + ms ≤ 7302250; omega⟩ (fun v1 L1 ad1 g1 H locs hp hB => ?_)
  obtain ⟨e1, e2, e3, hX1, hM1⟩ := hp
  refine W.eq (g2 := F0 m 235 ls [.int v9]) (by rw [e1]; rfl) ?_
  refine lv_aload_n hx hb dL_law_235 rfl (lv_at hl 2 rfl) ?_
  refine W.eq (g2 := F0 m 236 ls [.ref (ad1 1000), .int v9]) (by rw [e3]) ?_
  refine lv_aload_n hx hb dL_law_236 rfl (lv_at hl 0 rfl) ?_
  refine lv_iload_n hx hb dL_law_237 rfl (lv_at hl 3 rfl) ?_
  refine lv_iconst (v := 1) hx hb dL_law_238 (by decide) ?_
  refine lv_iadd hx hb dL_law_239 ?_
  refine b_topi (w := nI (i + 1)) (nI_add i 1) ?_
  refine n_sld hx hb hS hbl hB (show i + 1 < N by omega) hN dL_law_240 ?_
  refine lv_aload_n hx hb dL_law_241 rfl (lv_at hl 0 rfl) ?_
  refine lv_iload_n hx hb dL_law_242 rfl (lv_at hl 3 rfl) ?_
  refine lv_iconst (v := 2) hx hb dL_law_243 (by decide) ?_
  refine lv_iadd hx hb dL_law_244 ?_
  refine b_topi (w := nI (i + 2)) (nI_add i 2) ?_
  refine n_sld hx hb hS hbl hB (show i + 2 < N by omega) hN dL_law_245 ?_
  refine lv_aload_n hx hb dL_law_246 rfl (lv_at hl 0 rfl) ?_
  refine lv_iload_n hx hb dL_law_247 rfl (lv_at hl 3 rfl) ?_
  refine lv_iconst (v := 3) hx hb dL_law_248 (by decide) ?_
  refine lv_iadd hx hb dL_law_249 ?_
  refine b_topi (w := nI (i + 3)) (nI_add i 3) ?_
  refine n_sld hx hb hS hbl hB (show i + 3 < N by omega) hN dL_law_250 ?_
  refine m_callV (C := RX9) (T := TX9) (N := 33) (ci := 9) (r := 1000) (As := [.int (xs (i + 1)), .int (xs (i + 2)), .int (xs (i + 3))]) (rest := [.int v9]) (cm L1 ad1 g1 hX1 hM1) ⟨hx, hb, hml, hown, htsL⟩ (cwV 3 htsL gL_law_X9_paper rfl rfl rfl (by decide +kernel) ⟨Nat.le_of_ble_eq_true rfl, Nat.le_of_ble_eq_true rfl⟩) hB (hM1.1 1000 (by decide)) hM1.2.1 rfl rfl hl.1 rfl (Nat.le_of_ble_eq_true rfl) dL_law_251 ⟨by show cells + mc + 0 ≤ 600000; omega, by show slots + ms + 0 ≤ 7302250; omega⟩ (fun v2 L2 ad2 g2 H locs hp hB => ?_)
  obtain ⟨e4, e5, e6, h31, mz1, hX2, hM2⟩ := hp
  refine W.eq (g2 := F0 m 254 ls [.int v9, .int v9]) (by rw [e4]; rfl) ?_
  refine b_icmp_eq_t 937 hx hb dL_law_254 (by decide) rfl ?_
  refine W.widen (k := cells + 6) (n := slots + 133) (by omega) (by omega) ?_
  exact kk L2 ad2 g2 H locs (va_up a1 31 h31) dn1 pn1 en1 qn1 mz1 nw1 lo1 tr1 hB (hP1.u31 h31) hX2 hM2 (e5.trans e2) (e6.trans e3)
set_option maxHeartbeats 4000000 in
set_option maxRecDepth 100000 in
theorem lc_version {p : Program} {l : Launch} {e : Env} {s : State} {m : MethodId} {below : List Frame} {meth : Method} {c : Code} {b N : Nat} {xs : Nat → Int32} (C0 : lw_At p s m meth c b N xs) {D : va_G} {ty : Nat → ClassId} {L : List Nat} {ad : Nat → Nat} {g : Nat → va_E} {H : Heap} {locs : List Loc} {a : Nat → FI} {dn pn en qn mz : Nat} {nw lo : Int32} {tr : Int64} {k cells slots i : Nat} {Q : State → Prop} {ls : Array Slot} (hi : i + 5 ≤ N) (hN : N ≤ 2560) (hk : k < 1000) (hB : m_B D ty (fun q => s.heap.size ≤ q) s L ad g H locs) (hP : PI a dn pn en qn nw k) (hX : RX ty L ad g a dn pn en qn nw lo tr) (hM : RM ty L ad g a dn pn en qn mz nw lo tr) (hl : lv_has ls 4 [(0, .ref b), (1, .ref (ad 0)), (2, .ref (ad 1000)), (3, .int (nI i))]) (hc : cells + 6 ≤ 600000) (hsl : slots + 133 ≤ 7302250) (kk : lc_K p l e s m below meth c b D ty k cells slots (ad 0) (ad 1000) Q ls) : W p l e room_1 s m #[Value.ref b] below meth c H locs cells slots Q (F0 m 259 ls []) := by
  obtain ⟨hx, hb, hr, hml, hown, hts, hS, hbl, hlocks, hgv⟩ := id C0
  have htsL : ∀ w ∈ wsL_law, w.before #[Value.ref b] s = true := fun w h => hts w (wsL_law_in w h)
  obtain ⟨v9, a1, dn1, pn1, en1, qn1, nw1, lo1, tr1, mc, ms, h6, h133, hP1, cx, cm⟩ := s_version l D ty (xs (i + 1)) hk hP hX hM
  refine lv_aload_n hx hb dL_law_259 rfl (lv_at hl 1 rfl) ?_
  refine lv_aload_n hx hb dL_law_260 rfl (lv_at hl 0 rfl) ?_
  refine lv_iload_n hx hb dL_law_261 rfl (lv_at hl 3 rfl) ?_
  refine lv_iconst (v := 1) hx hb dL_law_262 (by decide) ?_
  refine lv_iadd hx hb dL_law_263 ?_
  refine b_topi (w := nI (i + 1)) (nI_add i 1) ?_
  refine n_sld hx hb hS hbl hB (show i + 1 < N by omega) hN dL_law_264 ?_
  refine m_callV (C := RX8) (T := TX8) (N := 12) (ci := 8) (r := 0) (As := [.int (xs (i + 1))]) (rest := []) cx ⟨hx, hb, hml, hown, htsL⟩ (cwV 1 htsL gL_law_X8_version rfl rfl rfl (by decide +kernel) ⟨Nat.le_of_ble_eq_true rfl, Nat.le_of_ble_eq_true rfl⟩) hB (hX.1.1 0 (by decide)) hX.1.2 rfl rfl hl.1 rfl (Nat.le_of_ble_eq_true rfl) dL_law_265 ⟨by show cells + mc ≤ 600000; omega, by show slots + ms ≤ 7302250; omega⟩ (fun v1 L1 ad1 g1 H locs hp hB => ?_)
  obtain ⟨e1, e2, e3, hX1, hM1⟩ := hp
  refine W.eq (g2 := F0 m 268 ls [.int v9]) (by rw [e1]; rfl) ?_
  refine lv_aload_n hx hb dL_law_268 rfl (lv_at hl 2 rfl) ?_
  refine W.eq (g2 := F0 m 269 ls [.ref (ad1 1000), .int v9]) (by rw [e3]) ?_
  refine lv_aload_n hx hb dL_law_269 rfl (lv_at hl 0 rfl) ?_
  refine lv_iload_n hx hb dL_law_270 rfl (lv_at hl 3 rfl) ?_
  refine lv_iconst (v := 1) hx hb dL_law_271 (by decide) ?_
  refine lv_iadd hx hb dL_law_272 ?_
  refine b_topi (w := nI (i + 1)) (nI_add i 1) ?_
  refine n_sld hx hb hS hbl hB (show i + 1 < N by omega) hN dL_law_273 ?_
  refine m_callV (C := RX9) (T := TX9) (N := 33) (ci := 9) (r := 1000) (As := [.int (xs (i + 1))]) (rest := [.int v9]) (cm L1 ad1 g1 hX1 hM1) ⟨hx, hb, hml, hown, htsL⟩ (cwV 1 htsL gL_law_X9_version rfl rfl rfl (by decide +kernel) ⟨Nat.le_of_ble_eq_true rfl, Nat.le_of_ble_eq_true rfl⟩) hB (hM1.1 1000 (by decide)) hM1.2.1 rfl rfl hl.1 rfl (Nat.le_of_ble_eq_true rfl) dL_law_274 ⟨by show cells + mc + 0 ≤ 600000; omega, by show slots + ms + 0 ≤ 7302250; omega⟩ (fun v2 L2 ad2 g2 H locs hp hB => ?_)
  obtain ⟨e4, e5, e6, h31, mz1, hX2, hM2⟩ := hp
  refine W.eq (g2 := F0 m 277 ls [.int v9, .int v9]) (by rw [e4]; rfl) ?_
  refine b_icmp_eq_t 937 hx hb dL_law_277 (by decide) rfl ?_
  refine W.widen (k := cells + 6) (n := slots + 133) (by omega) (by omega) ?_
  exact kk L2 ad2 g2 H locs (va_up a1 31 h31) dn1 pn1 en1 qn1 mz1 nw1 lo1 tr1 hB (hP1.u31 h31) hX2 hM2 (e5.trans e2) (e6.trans e3)
set_option maxHeartbeats 4000000 in
set_option maxRecDepth 100000 in
theorem lc_blacken {p : Program} {l : Launch} {e : Env} {s : State} {m : MethodId} {below : List Frame} {meth : Method} {c : Code} {b N : Nat} {xs : Nat → Int32} (C0 : lw_At p s m meth c b N xs) {D : va_G} {ty : Nat → ClassId} {L : List Nat} {ad : Nat → Nat} {g : Nat → va_E} {H : Heap} {locs : List Loc} {a : Nat → FI} {dn pn en qn mz : Nat} {nw lo : Int32} {tr : Int64} {k cells slots i : Nat} {Q : State → Prop} {ls : Array Slot} (hi : i + 5 ≤ N) (hN : N ≤ 2560) (hk : k < 1000) (hB : m_B D ty (fun q => s.heap.size ≤ q) s L ad g H locs) (hP : PI a dn pn en qn nw k) (hX : RX ty L ad g a dn pn en qn nw lo tr) (hM : RM ty L ad g a dn pn en qn mz nw lo tr) (hl : lv_has ls 4 [(0, .ref b), (1, .ref (ad 0)), (2, .ref (ad 1000)), (3, .int (nI i))]) (hc : cells + 6 ≤ 600000) (hsl : slots + 133 ≤ 7302250) (kk : lc_K p l e s m below meth c b D ty k cells slots (ad 0) (ad 1000) Q ls) : W p l e room_1 s m #[Value.ref b] below meth c H locs cells slots Q (F0 m 282 ls []) := by
  obtain ⟨hx, hb, hr, hml, hown, hts, hS, hbl, hlocks, hgv⟩ := id C0
  have htsL : ∀ w ∈ wsL_law, w.before #[Value.ref b] s = true := fun w h => hts w (wsL_law_in w h)
  obtain ⟨v9, a1, dn1, pn1, en1, qn1, nw1, lo1, tr1, mc, ms, h6, h133, hP1, cx, cm⟩ := s_blacken l D ty (xs (i + 1)) (xs (i + 2)) (xs (i + 3)) (xs (i + 4)) hk hP hX hM
  refine lv_aload_n hx hb dL_law_282 rfl (lv_at hl 1 rfl) ?_
  refine lv_aload_n hx hb dL_law_283 rfl (lv_at hl 0 rfl) ?_
  refine lv_iload_n hx hb dL_law_284 rfl (lv_at hl 3 rfl) ?_
  refine lv_iconst (v := 1) hx hb dL_law_285 (by decide) ?_
  refine lv_iadd hx hb dL_law_286 ?_
  refine b_topi (w := nI (i + 1)) (nI_add i 1) ?_
  refine n_sld hx hb hS hbl hB (show i + 1 < N by omega) hN dL_law_287 ?_
  refine lv_aload_n hx hb dL_law_288 rfl (lv_at hl 0 rfl) ?_
  refine lv_iload_n hx hb dL_law_289 rfl (lv_at hl 3 rfl) ?_
  refine lv_iconst (v := 2) hx hb dL_law_290 (by decide) ?_
  refine lv_iadd hx hb dL_law_291 ?_
  refine b_topi (w := nI (i + 2)) (nI_add i 2) ?_
  refine n_sld hx hb hS hbl hB (show i + 2 < N by omega) hN dL_law_292 ?_
  refine lv_aload_n hx hb dL_law_293 rfl (lv_at hl 0 rfl) ?_
  refine lv_iload_n hx hb dL_law_294 rfl (lv_at hl 3 rfl) ?_
  refine lv_iconst (v := 3) hx hb dL_law_295 (by decide) ?_
  refine lv_iadd hx hb dL_law_296 ?_
  refine b_topi (w := nI (i + 3)) (nI_add i 3) ?_
  refine n_sld hx hb hS hbl hB (show i + 3 < N by omega) hN dL_law_297 ?_
  refine lv_aload_n hx hb dL_law_298 rfl (lv_at hl 0 rfl) ?_
  refine lv_iload_n hx hb dL_law_299 rfl (lv_at hl 3 rfl) ?_
  refine lv_iconst (v := 4) hx hb dL_law_300 (by decide) ?_
  refine lv_iadd hx hb dL_law_301 ?_
  refine b_topi (w := nI (i + 4)) (nI_add i 4) ?_
  refine n_sld hx hb hS hbl hB (show i + 4 < N by omega) hN dL_law_302 ?_
  refine m_callV (C := RX8) (T := TX8) (N := 12) (ci := 8) (r := 0) (As := [.int (xs (i + 1)), .int (xs (i + 2)), .int (xs (i + 3)), .int (xs (i + 4))]) (rest := []) cx ⟨hx, hb, hml, hown, htsL⟩ (cwV 4 htsL gL_law_X8_blacken rfl rfl rfl (by decide +kernel) ⟨Nat.le_of_ble_eq_true rfl, Nat.le_of_ble_eq_true rfl⟩) hB (hX.1.1 0 (by decide)) hX.1.2 rfl rfl hl.1 rfl (Nat.le_of_ble_eq_true rfl) dL_law_303 ⟨by show cells + mc ≤ 600000; omega, by show slots + ms ≤ 7302250; omega⟩ (fun v1 L1 ad1 g1 H locs hp hB => ?_)
  obtain ⟨e1, e2, e3, hX1, hM1⟩ := hp
  refine W.eq (g2 := F0 m 306 ls [.int v9]) (by rw [e1]; rfl) ?_
  refine lv_aload_n hx hb dL_law_306 rfl (lv_at hl 2 rfl) ?_
  refine W.eq (g2 := F0 m 307 ls [.ref (ad1 1000), .int v9]) (by rw [e3]) ?_
  refine lv_aload_n hx hb dL_law_307 rfl (lv_at hl 0 rfl) ?_
  refine lv_iload_n hx hb dL_law_308 rfl (lv_at hl 3 rfl) ?_
  refine lv_iconst (v := 1) hx hb dL_law_309 (by decide) ?_
  refine lv_iadd hx hb dL_law_310 ?_
  refine b_topi (w := nI (i + 1)) (nI_add i 1) ?_
  refine n_sld hx hb hS hbl hB (show i + 1 < N by omega) hN dL_law_311 ?_
  refine lv_aload_n hx hb dL_law_312 rfl (lv_at hl 0 rfl) ?_
  refine lv_iload_n hx hb dL_law_313 rfl (lv_at hl 3 rfl) ?_
  refine lv_iconst (v := 2) hx hb dL_law_314 (by decide) ?_
  refine lv_iadd hx hb dL_law_315 ?_
  refine b_topi (w := nI (i + 2)) (nI_add i 2) ?_
  refine n_sld hx hb hS hbl hB (show i + 2 < N by omega) hN dL_law_316 ?_
  refine lv_aload_n hx hb dL_law_317 rfl (lv_at hl 0 rfl) ?_
  refine lv_iload_n hx hb dL_law_318 rfl (lv_at hl 3 rfl) ?_
  refine lv_iconst (v := 3) hx hb dL_law_319 (by decide) ?_
  refine lv_iadd hx hb dL_law_320 ?_
  refine b_topi (w := nI (i + 3)) (nI_add i 3) ?_
  refine n_sld hx hb hS hbl hB (show i + 3 < N by omega) hN dL_law_321 ?_
  refine lv_aload_n hx hb dL_law_322 rfl (lv_at hl 0 rfl) ?_
  refine lv_iload_n hx hb dL_law_323 rfl (lv_at hl 3 rfl) ?_
  refine lv_iconst (v := 4) hx hb dL_law_324 (by decide) ?_
  refine lv_iadd hx hb dL_law_325 ?_
  refine b_topi (w := nI (i + 4)) (nI_add i 4) ?_
  refine n_sld hx hb hS hbl hB (show i + 4 < N by omega) hN dL_law_326 ?_
  refine m_callV (C := RX9) (T := TX9) (N := 33) (ci := 9) (r := 1000) (As := [.int (xs (i + 1)), .int (xs (i + 2)), .int (xs (i + 3)), .int (xs (i + 4))]) (rest := [.int v9]) (cm L1 ad1 g1 hX1 hM1) ⟨hx, hb, hml, hown, htsL⟩ (cwV 4 htsL gL_law_X9_blacken rfl rfl rfl (by decide +kernel) ⟨Nat.le_of_ble_eq_true rfl, Nat.le_of_ble_eq_true rfl⟩) hB (hM1.1 1000 (by decide)) hM1.2.1 rfl rfl hl.1 rfl (Nat.le_of_ble_eq_true rfl) dL_law_327 ⟨by show cells + mc + 0 ≤ 600000; omega, by show slots + ms + 0 ≤ 7302250; omega⟩ (fun v2 L2 ad2 g2 H locs hp hB => ?_)
  obtain ⟨e4, e5, e6, h31, mz1, hX2, hM2⟩ := hp
  refine W.eq (g2 := F0 m 330 ls [.int v9, .int v9]) (by rw [e4]; rfl) ?_
  refine b_icmp_eq_t 937 hx hb dL_law_330 (by decide) rfl ?_
  refine W.widen (k := cells + 6) (n := slots + 133) (by omega) (by omega) ?_
  exact kk L2 ad2 g2 H locs (va_up a1 31 h31) dn1 pn1 en1 qn1 mz1 nw1 lo1 tr1 hB (hP1.u31 h31) hX2 hM2 (e5.trans e2) (e6.trans e3)
set_option maxHeartbeats 4000000 in
set_option maxRecDepth 100000 in
theorem lc_withdraw {p : Program} {l : Launch} {e : Env} {s : State} {m : MethodId} {below : List Frame} {meth : Method} {c : Code} {b N : Nat} {xs : Nat → Int32} (C0 : lw_At p s m meth c b N xs) {D : va_G} {ty : Nat → ClassId} {L : List Nat} {ad : Nat → Nat} {g : Nat → va_E} {H : Heap} {locs : List Loc} {a : Nat → FI} {dn pn en qn mz : Nat} {nw lo : Int32} {tr : Int64} {k cells slots i : Nat} {Q : State → Prop} {ls : Array Slot} (hi : i + 5 ≤ N) (hN : N ≤ 2560) (hk : k < 1000) (hB : m_B D ty (fun q => s.heap.size ≤ q) s L ad g H locs) (hP : PI a dn pn en qn nw k) (hX : RX ty L ad g a dn pn en qn nw lo tr) (hM : RM ty L ad g a dn pn en qn mz nw lo tr) (hl : lv_has ls 4 [(0, .ref b), (1, .ref (ad 0)), (2, .ref (ad 1000)), (3, .int (nI i))]) (hc : cells + 6 ≤ 600000) (hsl : slots + 133 ≤ 7302250) (kk : lc_K p l e s m below meth c b D ty k cells slots (ad 0) (ad 1000) Q ls) : W p l e room_1 s m #[Value.ref b] below meth c H locs cells slots Q (F0 m 335 ls []) := by
  obtain ⟨hx, hb, hr, hml, hown, hts, hS, hbl, hlocks, hgv⟩ := id C0
  have htsL : ∀ w ∈ wsL_law, w.before #[Value.ref b] s = true := fun w h => hts w (wsL_law_in w h)
  obtain ⟨v9, a1, dn1, pn1, en1, qn1, nw1, lo1, tr1, mc, ms, h6, h133, hP1, cx, cm⟩ := s_withdraw l D ty (xs (i + 1)) hk hP hX hM
  refine lv_aload_n hx hb dL_law_335 rfl (lv_at hl 1 rfl) ?_
  refine lv_aload_n hx hb dL_law_336 rfl (lv_at hl 0 rfl) ?_
  refine lv_iload_n hx hb dL_law_337 rfl (lv_at hl 3 rfl) ?_
  refine lv_iconst (v := 1) hx hb dL_law_338 (by decide) ?_
  refine lv_iadd hx hb dL_law_339 ?_
  refine b_topi (w := nI (i + 1)) (nI_add i 1) ?_
  refine n_sld hx hb hS hbl hB (show i + 1 < N by omega) hN dL_law_340 ?_
  refine m_callV (C := RX8) (T := TX8) (N := 12) (ci := 8) (r := 0) (As := [.int (xs (i + 1))]) (rest := []) cx ⟨hx, hb, hml, hown, htsL⟩ (cwV 1 htsL gL_law_X8_withdraw rfl rfl rfl (by decide +kernel) ⟨Nat.le_of_ble_eq_true rfl, Nat.le_of_ble_eq_true rfl⟩) hB (hX.1.1 0 (by decide)) hX.1.2 rfl rfl hl.1 rfl (Nat.le_of_ble_eq_true rfl) dL_law_341 ⟨by show cells + mc ≤ 600000; omega, by show slots + ms ≤ 7302250; omega⟩ (fun v1 L1 ad1 g1 H locs hp hB => ?_)
  obtain ⟨e1, e2, e3, hX1, hM1⟩ := hp
  refine W.eq (g2 := F0 m 344 ls [.int v9]) (by rw [e1]; rfl) ?_
  refine lv_aload_n hx hb dL_law_344 rfl (lv_at hl 2 rfl) ?_
  refine W.eq (g2 := F0 m 345 ls [.ref (ad1 1000), .int v9]) (by rw [e3]) ?_
  refine lv_aload_n hx hb dL_law_345 rfl (lv_at hl 0 rfl) ?_
  refine lv_iload_n hx hb dL_law_346 rfl (lv_at hl 3 rfl) ?_
  refine lv_iconst (v := 1) hx hb dL_law_347 (by decide) ?_
  refine lv_iadd hx hb dL_law_348 ?_
  refine b_topi (w := nI (i + 1)) (nI_add i 1) ?_
  refine n_sld hx hb hS hbl hB (show i + 1 < N by omega) hN dL_law_349 ?_
  refine m_callV (C := RX9) (T := TX9) (N := 33) (ci := 9) (r := 1000) (As := [.int (xs (i + 1))]) (rest := [.int v9]) (cm L1 ad1 g1 hX1 hM1) ⟨hx, hb, hml, hown, htsL⟩ (cwV 1 htsL gL_law_X9_withdraw rfl rfl rfl (by decide +kernel) ⟨Nat.le_of_ble_eq_true rfl, Nat.le_of_ble_eq_true rfl⟩) hB (hM1.1 1000 (by decide)) hM1.2.1 rfl rfl hl.1 rfl (Nat.le_of_ble_eq_true rfl) dL_law_350 ⟨by show cells + mc + 0 ≤ 600000; omega, by show slots + ms + 0 ≤ 7302250; omega⟩ (fun v2 L2 ad2 g2 H locs hp hB => ?_)
  obtain ⟨e4, e5, e6, h31, mz1, hX2, hM2⟩ := hp
  refine W.eq (g2 := F0 m 353 ls [.int v9, .int v9]) (by rw [e4]; rfl) ?_
  refine b_icmp_eq_t 937 hx hb dL_law_353 (by decide) rfl ?_
  refine W.widen (k := cells + 6) (n := slots + 133) (by omega) (by omega) ?_
  exact kk L2 ad2 g2 H locs (va_up a1 31 h31) dn1 pn1 en1 qn1 mz1 nw1 lo1 tr1 hB (hP1.u31 h31) hX2 hM2 (e5.trans e2) (e6.trans e3)
set_option maxHeartbeats 4000000 in
set_option maxRecDepth 100000 in
theorem lc_rights {p : Program} {l : Launch} {e : Env} {s : State} {m : MethodId} {below : List Frame} {meth : Method} {c : Code} {b N : Nat} {xs : Nat → Int32} (C0 : lw_At p s m meth c b N xs) {D : va_G} {ty : Nat → ClassId} {L : List Nat} {ad : Nat → Nat} {g : Nat → va_E} {H : Heap} {locs : List Loc} {a : Nat → FI} {dn pn en qn mz : Nat} {nw lo : Int32} {tr : Int64} {k cells slots i : Nat} {Q : State → Prop} {ls : Array Slot} (hi : i + 5 ≤ N) (hN : N ≤ 2560) (hk : k < 1000) (hB : m_B D ty (fun q => s.heap.size ≤ q) s L ad g H locs) (hP : PI a dn pn en qn nw k) (hX : RX ty L ad g a dn pn en qn nw lo tr) (hM : RM ty L ad g a dn pn en qn mz nw lo tr) (hl : lv_has ls 4 [(0, .ref b), (1, .ref (ad 0)), (2, .ref (ad 1000)), (3, .int (nI i))]) (hc : cells + 6 ≤ 600000) (hsl : slots + 133 ≤ 7302250) (kk : lc_K p l e s m below meth c b D ty k cells slots (ad 0) (ad 1000) Q ls) : W p l e room_1 s m #[Value.ref b] below meth c H locs cells slots Q (F0 m 358 ls []) := by
  obtain ⟨hx, hb, hr, hml, hown, hts, hS, hbl, hlocks, hgv⟩ := id C0
  have htsL : ∀ w ∈ wsL_law, w.before #[Value.ref b] s = true := fun w h => hts w (wsL_law_in w h)
  obtain ⟨v9, a1, dn1, pn1, en1, qn1, nw1, lo1, tr1, mc, ms, h6, h133, hP1, cx, cm⟩ := s_rights l D ty (xs (i + 1)) (xs (i + 2)) (xs (i + 3)) (xs (i + 4)) hk hP hX hM
  refine lv_aload_n hx hb dL_law_358 rfl (lv_at hl 1 rfl) ?_
  refine lv_aload_n hx hb dL_law_359 rfl (lv_at hl 0 rfl) ?_
  refine lv_iload_n hx hb dL_law_360 rfl (lv_at hl 3 rfl) ?_
  refine lv_iconst (v := 1) hx hb dL_law_361 (by decide) ?_
  refine lv_iadd hx hb dL_law_362 ?_
  refine b_topi (w := nI (i + 1)) (nI_add i 1) ?_
  refine n_sld hx hb hS hbl hB (show i + 1 < N by omega) hN dL_law_363 ?_
  refine lv_aload_n hx hb dL_law_364 rfl (lv_at hl 0 rfl) ?_
  refine lv_iload_n hx hb dL_law_365 rfl (lv_at hl 3 rfl) ?_
  refine lv_iconst (v := 2) hx hb dL_law_366 (by decide) ?_
  refine lv_iadd hx hb dL_law_367 ?_
  refine b_topi (w := nI (i + 2)) (nI_add i 2) ?_
  refine n_sld hx hb hS hbl hB (show i + 2 < N by omega) hN dL_law_368 ?_
  refine lv_aload_n hx hb dL_law_369 rfl (lv_at hl 0 rfl) ?_
  refine lv_iload_n hx hb dL_law_370 rfl (lv_at hl 3 rfl) ?_
  refine lv_iconst (v := 3) hx hb dL_law_371 (by decide) ?_
  refine lv_iadd hx hb dL_law_372 ?_
  refine b_topi (w := nI (i + 3)) (nI_add i 3) ?_
  refine n_sld hx hb hS hbl hB (show i + 3 < N by omega) hN dL_law_373 ?_
  refine lv_aload_n hx hb dL_law_374 rfl (lv_at hl 0 rfl) ?_
  refine lv_iload_n hx hb dL_law_375 rfl (lv_at hl 3 rfl) ?_
  refine lv_iconst (v := 4) hx hb dL_law_376 (by decide) ?_
  refine lv_iadd hx hb dL_law_377 ?_
  refine b_topi (w := nI (i + 4)) (nI_add i 4) ?_
  refine n_sld hx hb hS hbl hB (show i + 4 < N by omega) hN dL_law_378 ?_
  refine m_callV (C := RX8) (T := TX8) (N := 12) (ci := 8) (r := 0) (As := [.int (xs (i + 1)), .int (xs (i + 2)), .int (xs (i + 3)), .int (xs (i + 4))]) (rest := []) cx ⟨hx, hb, hml, hown, htsL⟩ (cwV 4 htsL gL_law_X8_rights rfl rfl rfl (by decide +kernel) ⟨Nat.le_of_ble_eq_true rfl, Nat.le_of_ble_eq_true rfl⟩) hB (hX.1.1 0 (by decide)) hX.1.2 rfl rfl hl.1 rfl (Nat.le_of_ble_eq_true rfl) dL_law_379 ⟨by show cells + mc ≤ 600000; omega, by show slots + ms ≤ 7302250; omega⟩ (fun v1 L1 ad1 g1 H locs hp hB => ?_)
  obtain ⟨e1, e2, e3, hX1, hM1⟩ := hp
  refine W.eq (g2 := F0 m 382 ls [.int v9]) (by rw [e1]; rfl) ?_
  refine lv_aload_n hx hb dL_law_382 rfl (lv_at hl 2 rfl) ?_
  refine W.eq (g2 := F0 m 383 ls [.ref (ad1 1000), .int v9]) (by rw [e3]) ?_
  refine lv_aload_n hx hb dL_law_383 rfl (lv_at hl 0 rfl) ?_
  refine lv_iload_n hx hb dL_law_384 rfl (lv_at hl 3 rfl) ?_
  refine lv_iconst (v := 1) hx hb dL_law_385 (by decide) ?_
  refine lv_iadd hx hb dL_law_386 ?_
  refine b_topi (w := nI (i + 1)) (nI_add i 1) ?_
  refine n_sld hx hb hS hbl hB (show i + 1 < N by omega) hN dL_law_387 ?_
  refine lv_aload_n hx hb dL_law_388 rfl (lv_at hl 0 rfl) ?_
  refine lv_iload_n hx hb dL_law_389 rfl (lv_at hl 3 rfl) ?_
  refine lv_iconst (v := 2) hx hb dL_law_390 (by decide) ?_
  refine lv_iadd hx hb dL_law_391 ?_
  refine b_topi (w := nI (i + 2)) (nI_add i 2) ?_
  refine n_sld hx hb hS hbl hB (show i + 2 < N by omega) hN dL_law_392 ?_
  refine lv_aload_n hx hb dL_law_393 rfl (lv_at hl 0 rfl) ?_
  refine lv_iload_n hx hb dL_law_394 rfl (lv_at hl 3 rfl) ?_
  refine lv_iconst (v := 3) hx hb dL_law_395 (by decide) ?_
  refine lv_iadd hx hb dL_law_396 ?_
  refine b_topi (w := nI (i + 3)) (nI_add i 3) ?_
  refine n_sld hx hb hS hbl hB (show i + 3 < N by omega) hN dL_law_397 ?_
  refine lv_aload_n hx hb dL_law_398 rfl (lv_at hl 0 rfl) ?_
  refine lv_iload_n hx hb dL_law_399 rfl (lv_at hl 3 rfl) ?_
  refine lv_iconst (v := 4) hx hb dL_law_400 (by decide) ?_
  refine lv_iadd hx hb dL_law_401 ?_
  refine b_topi (w := nI (i + 4)) (nI_add i 4) ?_
  refine n_sld hx hb hS hbl hB (show i + 4 < N by omega) hN dL_law_402 ?_
  refine m_callV (C := RX9) (T := TX9) (N := 33) (ci := 9) (r := 1000) (As := [.int (xs (i + 1)), .int (xs (i + 2)), .int (xs (i + 3)), .int (xs (i + 4))]) (rest := [.int v9]) (cm L1 ad1 g1 hX1 hM1) ⟨hx, hb, hml, hown, htsL⟩ (cwV 4 htsL gL_law_X9_rights rfl rfl rfl (by decide +kernel) ⟨Nat.le_of_ble_eq_true rfl, Nat.le_of_ble_eq_true rfl⟩) hB (hM1.1 1000 (by decide)) hM1.2.1 rfl rfl hl.1 rfl (Nat.le_of_ble_eq_true rfl) dL_law_403 ⟨by show cells + mc + 0 ≤ 600000; omega, by show slots + ms + 0 ≤ 7302250; omega⟩ (fun v2 L2 ad2 g2 H locs hp hB => ?_)
  obtain ⟨e4, e5, e6, h31, mz1, hX2, hM2⟩ := hp
  refine W.eq (g2 := F0 m 406 ls [.int v9, .int v9]) (by rw [e4]; rfl) ?_
  refine b_icmp_eq_t 937 hx hb dL_law_406 (by decide) rfl ?_
  refine W.widen (k := cells + 6) (n := slots + 133) (by omega) (by omega) ?_
  exact kk L2 ad2 g2 H locs (va_up a1 31 h31) dn1 pn1 en1 qn1 mz1 nw1 lo1 tr1 hB (hP1.u31 h31) hX2 hM2 (e5.trans e2) (e6.trans e3)
set_option maxHeartbeats 4000000 in
set_option maxRecDepth 100000 in
theorem lc_tick {p : Program} {l : Launch} {e : Env} {s : State} {m : MethodId} {below : List Frame} {meth : Method} {c : Code} {b N : Nat} {xs : Nat → Int32} (C0 : lw_At p s m meth c b N xs) {D : va_G} {ty : Nat → ClassId} {L : List Nat} {ad : Nat → Nat} {g : Nat → va_E} {H : Heap} {locs : List Loc} {a : Nat → FI} {dn pn en qn mz : Nat} {nw lo : Int32} {tr : Int64} {k cells slots i : Nat} {Q : State → Prop} {ls : Array Slot} (hi : i + 5 ≤ N) (hN : N ≤ 2560) (hk : k < 1000) (hB : m_B D ty (fun q => s.heap.size ≤ q) s L ad g H locs) (hP : PI a dn pn en qn nw k) (hX : RX ty L ad g a dn pn en qn nw lo tr) (hM : RM ty L ad g a dn pn en qn mz nw lo tr) (hl : lv_has ls 4 [(0, .ref b), (1, .ref (ad 0)), (2, .ref (ad 1000)), (3, .int (nI i))]) (hc : cells + 6 ≤ 600000) (hsl : slots + 133 ≤ 7302250) (kk : lc_K p l e s m below meth c b D ty k cells slots (ad 0) (ad 1000) Q ls) : W p l e room_1 s m #[Value.ref b] below meth c H locs cells slots Q (F0 m 411 ls []) := by
  obtain ⟨hx, hb, hr, hml, hown, hts, hS, hbl, hlocks, hgv⟩ := id C0
  have htsL : ∀ w ∈ wsL_law, w.before #[Value.ref b] s = true := fun w h => hts w (wsL_law_in w h)
  obtain ⟨v9, a1, dn1, pn1, en1, qn1, nw1, lo1, tr1, mc, ms, h6, h133, hP1, cx, cm⟩ := s_tick l D ty (xs (i + 1)) hk hP hX hM
  refine lv_aload_n hx hb dL_law_411 rfl (lv_at hl 1 rfl) ?_
  refine lv_aload_n hx hb dL_law_412 rfl (lv_at hl 0 rfl) ?_
  refine lv_iload_n hx hb dL_law_413 rfl (lv_at hl 3 rfl) ?_
  refine lv_iconst (v := 1) hx hb dL_law_414 (by decide) ?_
  refine lv_iadd hx hb dL_law_415 ?_
  refine b_topi (w := nI (i + 1)) (nI_add i 1) ?_
  refine n_sld hx hb hS hbl hB (show i + 1 < N by omega) hN dL_law_416 ?_
  refine m_callV (C := RX8) (T := TX8) (N := 12) (ci := 8) (r := 0) (As := [.int (xs (i + 1))]) (rest := []) cx ⟨hx, hb, hml, hown, htsL⟩ (cwV 1 htsL gL_law_X8_tick rfl rfl rfl (by decide +kernel) ⟨Nat.le_of_ble_eq_true rfl, Nat.le_of_ble_eq_true rfl⟩) hB (hX.1.1 0 (by decide)) hX.1.2 rfl rfl hl.1 rfl (Nat.le_of_ble_eq_true rfl) dL_law_417 ⟨by show cells + mc ≤ 600000; omega, by show slots + ms ≤ 7302250; omega⟩ (fun v1 L1 ad1 g1 H locs hp hB => ?_)
  obtain ⟨e1, e2, e3, hX1, hM1⟩ := hp
  refine W.eq (g2 := F0 m 420 ls [.int v9]) (by rw [e1]; rfl) ?_
  refine lv_aload_n hx hb dL_law_420 rfl (lv_at hl 2 rfl) ?_
  refine W.eq (g2 := F0 m 421 ls [.ref (ad1 1000), .int v9]) (by rw [e3]) ?_
  refine lv_aload_n hx hb dL_law_421 rfl (lv_at hl 0 rfl) ?_
  refine lv_iload_n hx hb dL_law_422 rfl (lv_at hl 3 rfl) ?_
  refine lv_iconst (v := 1) hx hb dL_law_423 (by decide) ?_
  refine lv_iadd hx hb dL_law_424 ?_
  refine b_topi (w := nI (i + 1)) (nI_add i 1) ?_
  refine n_sld hx hb hS hbl hB (show i + 1 < N by omega) hN dL_law_425 ?_
  refine m_callV (C := RX9) (T := TX9) (N := 33) (ci := 9) (r := 1000) (As := [.int (xs (i + 1))]) (rest := [.int v9]) (cm L1 ad1 g1 hX1 hM1) ⟨hx, hb, hml, hown, htsL⟩ (cwV 1 htsL gL_law_X9_tick rfl rfl rfl (by decide +kernel) ⟨Nat.le_of_ble_eq_true rfl, Nat.le_of_ble_eq_true rfl⟩) hB (hM1.1 1000 (by decide)) hM1.2.1 rfl rfl hl.1 rfl (Nat.le_of_ble_eq_true rfl) dL_law_426 ⟨by show cells + mc + 0 ≤ 600000; omega, by show slots + ms + 0 ≤ 7302250; omega⟩ (fun v2 L2 ad2 g2 H locs hp hB => ?_)
  obtain ⟨e4, e5, e6, h31, mz1, hX2, hM2⟩ := hp
  refine W.eq (g2 := F0 m 429 ls [.int v9, .int v9]) (by rw [e4]; rfl) ?_
  refine b_icmp_eq_t 937 hx hb dL_law_429 (by decide) rfl ?_
  refine W.widen (k := cells + 6) (n := slots + 133) (by omega) (by omega) ?_
  exact kk L2 ad2 g2 H locs (va_up a1 31 h31) dn1 pn1 en1 qn1 mz1 nw1 lo1 tr1 hB (hP1.u31 h31) hX2 hM2 (e5.trans e2) (e6.trans e3)
set_option maxHeartbeats 4000000 in
set_option maxRecDepth 100000 in
theorem lc_about {p : Program} {l : Launch} {e : Env} {s : State} {m : MethodId} {below : List Frame} {meth : Method} {c : Code} {b N : Nat} {xs : Nat → Int32} (C0 : lw_At p s m meth c b N xs) {D : va_G} {ty : Nat → ClassId} {L : List Nat} {ad : Nat → Nat} {g : Nat → va_E} {H : Heap} {locs : List Loc} {a : Nat → FI} {dn pn en qn mz : Nat} {nw lo : Int32} {tr : Int64} {k cells slots i : Nat} {Q : State → Prop} {ls : Array Slot} (hi : i + 5 ≤ N) (hN : N ≤ 2560) (hk : k < 1000) (hB : m_B D ty (fun q => s.heap.size ≤ q) s L ad g H locs) (hP : PI a dn pn en qn nw k) (hX : RX ty L ad g a dn pn en qn nw lo tr) (hM : RM ty L ad g a dn pn en qn mz nw lo tr) (hl : lv_has ls 4 [(0, .ref b), (1, .ref (ad 0)), (2, .ref (ad 1000)), (3, .int (nI i))]) (hc : cells + 6 ≤ 600000) (hsl : slots + 133 ≤ 7302250) (kk : lc_K p l e s m below meth c b D ty k cells slots (ad 0) (ad 1000) Q ls) : W p l e room_1 s m #[Value.ref b] below meth c H locs cells slots Q (F0 m 434 ls []) := by
  obtain ⟨hx, hb, hr, hml, hown, hts, hS, hbl, hlocks, hgv⟩ := id C0
  have htsL : ∀ w ∈ wsL_law, w.before #[Value.ref b] s = true := fun w h => hts w (wsL_law_in w h)
  obtain ⟨v9, a1, dn1, pn1, en1, qn1, nw1, lo1, tr1, mc, ms, h6, h133, hP1, cx, cm⟩ := s_about l D ty (xs (i + 1)) (xs (i + 2)) hk hP hX hM
  refine lv_aload_n hx hb dL_law_434 rfl (lv_at hl 1 rfl) ?_
  refine lv_aload_n hx hb dL_law_435 rfl (lv_at hl 0 rfl) ?_
  refine lv_iload_n hx hb dL_law_436 rfl (lv_at hl 3 rfl) ?_
  refine lv_iconst (v := 1) hx hb dL_law_437 (by decide) ?_
  refine lv_iadd hx hb dL_law_438 ?_
  refine b_topi (w := nI (i + 1)) (nI_add i 1) ?_
  refine n_sld hx hb hS hbl hB (show i + 1 < N by omega) hN dL_law_439 ?_
  refine lv_aload_n hx hb dL_law_440 rfl (lv_at hl 0 rfl) ?_
  refine lv_iload_n hx hb dL_law_441 rfl (lv_at hl 3 rfl) ?_
  refine lv_iconst (v := 2) hx hb dL_law_442 (by decide) ?_
  refine lv_iadd hx hb dL_law_443 ?_
  refine b_topi (w := nI (i + 2)) (nI_add i 2) ?_
  refine n_sld hx hb hS hbl hB (show i + 2 < N by omega) hN dL_law_444 ?_
  refine m_callV (C := RX8) (T := TX8) (N := 12) (ci := 8) (r := 0) (As := [.int (xs (i + 1)), .int (xs (i + 2))]) (rest := []) cx ⟨hx, hb, hml, hown, htsL⟩ (cwV 2 htsL gL_law_X8_about rfl rfl rfl (by decide +kernel) ⟨Nat.le_of_ble_eq_true rfl, Nat.le_of_ble_eq_true rfl⟩) hB (hX.1.1 0 (by decide)) hX.1.2 rfl rfl hl.1 rfl (Nat.le_of_ble_eq_true rfl) dL_law_445 ⟨by show cells + mc ≤ 600000; omega, by show slots + ms ≤ 7302250; omega⟩ (fun v1 L1 ad1 g1 H locs hp hB => ?_)
  obtain ⟨e1, e2, e3, hX1, hM1⟩ := hp
  refine W.eq (g2 := F0 m 448 ls [.int v9]) (by rw [e1]; rfl) ?_
  refine lv_aload_n hx hb dL_law_448 rfl (lv_at hl 2 rfl) ?_
  refine W.eq (g2 := F0 m 449 ls [.ref (ad1 1000), .int v9]) (by rw [e3]) ?_
  refine lv_aload_n hx hb dL_law_449 rfl (lv_at hl 0 rfl) ?_
  refine lv_iload_n hx hb dL_law_450 rfl (lv_at hl 3 rfl) ?_
  refine lv_iconst (v := 1) hx hb dL_law_451 (by decide) ?_
  refine lv_iadd hx hb dL_law_452 ?_
  refine b_topi (w := nI (i + 1)) (nI_add i 1) ?_
  refine n_sld hx hb hS hbl hB (show i + 1 < N by omega) hN dL_law_453 ?_
  refine lv_aload_n hx hb dL_law_454 rfl (lv_at hl 0 rfl) ?_
  refine lv_iload_n hx hb dL_law_455 rfl (lv_at hl 3 rfl) ?_
  refine lv_iconst (v := 2) hx hb dL_law_456 (by decide) ?_
  refine lv_iadd hx hb dL_law_457 ?_
  refine b_topi (w := nI (i + 2)) (nI_add i 2) ?_
  refine n_sld hx hb hS hbl hB (show i + 2 < N by omega) hN dL_law_458 ?_
  refine m_callV (C := RX9) (T := TX9) (N := 33) (ci := 9) (r := 1000) (As := [.int (xs (i + 1)), .int (xs (i + 2))]) (rest := [.int v9]) (cm L1 ad1 g1 hX1 hM1) ⟨hx, hb, hml, hown, htsL⟩ (cwV 2 htsL gL_law_X9_about rfl rfl rfl (by decide +kernel) ⟨Nat.le_of_ble_eq_true rfl, Nat.le_of_ble_eq_true rfl⟩) hB (hM1.1 1000 (by decide)) hM1.2.1 rfl rfl hl.1 rfl (Nat.le_of_ble_eq_true rfl) dL_law_459 ⟨by show cells + mc + 0 ≤ 600000; omega, by show slots + ms + 0 ≤ 7302250; omega⟩ (fun v2 L2 ad2 g2 H locs hp hB => ?_)
  obtain ⟨e4, e5, e6, h31, mz1, hX2, hM2⟩ := hp
  refine W.eq (g2 := F0 m 462 ls [.int v9, .int v9]) (by rw [e4]; rfl) ?_
  refine b_icmp_eq_t 937 hx hb dL_law_462 (by decide) rfl ?_
  refine W.widen (k := cells + 6) (n := slots + 133) (by omega) (by omega) ?_
  exact kk L2 ad2 g2 H locs (va_up a1 31 h31) dn1 pn1 en1 qn1 mz1 nw1 lo1 tr1 hB (hP1.u31 h31) hX2 hM2 (e5.trans e2) (e6.trans e3)
set_option maxHeartbeats 4000000 in
set_option maxRecDepth 100000 in
theorem lc_may {p : Program} {l : Launch} {e : Env} {s : State} {m : MethodId} {below : List Frame} {meth : Method} {c : Code} {b N : Nat} {xs : Nat → Int32} (C0 : lw_At p s m meth c b N xs) {D : va_G} {ty : Nat → ClassId} {L : List Nat} {ad : Nat → Nat} {g : Nat → va_E} {H : Heap} {locs : List Loc} {a : Nat → FI} {dn pn en qn mz : Nat} {nw lo : Int32} {tr : Int64} {k cells slots i : Nat} {Q : State → Prop} {ls : Array Slot} (hi : i + 5 ≤ N) (hN : N ≤ 2560) (hk : k < 1000) (hB : m_B D ty (fun q => s.heap.size ≤ q) s L ad g H locs) (hP : PI a dn pn en qn nw k) (hX : RX ty L ad g a dn pn en qn nw lo tr) (hM : RM ty L ad g a dn pn en qn mz nw lo tr) (hl : lv_has ls 4 [(0, .ref b), (1, .ref (ad 0)), (2, .ref (ad 1000)), (3, .int (nI i))]) (hc : cells + 6 ≤ 600000) (hsl : slots + 133 ≤ 7302250) (kk : lc_K p l e s m below meth c b D ty k cells slots (ad 0) (ad 1000) Q ls) : W p l e room_1 s m #[Value.ref b] below meth c H locs cells slots Q (F0 m 467 ls []) := by
  obtain ⟨hx, hb, hr, hml, hown, hts, hS, hbl, hlocks, hgv⟩ := id C0
  have htsL : ∀ w ∈ wsL_law, w.before #[Value.ref b] s = true := fun w h => hts w (wsL_law_in w h)
  obtain ⟨v9, a1, dn1, pn1, en1, qn1, nw1, lo1, tr1, mc, ms, h6, h133, hP1, cx, cm⟩ := s_may l D ty (xs (i + 1)) (xs (i + 2)) hk hP hX hM
  refine lv_aload_n hx hb dL_law_467 rfl (lv_at hl 1 rfl) ?_
  refine lv_aload_n hx hb dL_law_468 rfl (lv_at hl 0 rfl) ?_
  refine lv_iload_n hx hb dL_law_469 rfl (lv_at hl 3 rfl) ?_
  refine lv_iconst (v := 1) hx hb dL_law_470 (by decide) ?_
  refine lv_iadd hx hb dL_law_471 ?_
  refine b_topi (w := nI (i + 1)) (nI_add i 1) ?_
  refine n_sld hx hb hS hbl hB (show i + 1 < N by omega) hN dL_law_472 ?_
  refine lv_aload_n hx hb dL_law_473 rfl (lv_at hl 0 rfl) ?_
  refine lv_iload_n hx hb dL_law_474 rfl (lv_at hl 3 rfl) ?_
  refine lv_iconst (v := 2) hx hb dL_law_475 (by decide) ?_
  refine lv_iadd hx hb dL_law_476 ?_
  refine b_topi (w := nI (i + 2)) (nI_add i 2) ?_
  refine n_sld hx hb hS hbl hB (show i + 2 < N by omega) hN dL_law_477 ?_
  refine m_callV (C := RX8) (T := TX8) (N := 12) (ci := 8) (r := 0) (As := [.int (xs (i + 1)), .int (xs (i + 2))]) (rest := []) cx ⟨hx, hb, hml, hown, htsL⟩ (cwV 2 htsL gL_law_X8_may rfl rfl rfl (by decide +kernel) ⟨Nat.le_of_ble_eq_true rfl, Nat.le_of_ble_eq_true rfl⟩) hB (hX.1.1 0 (by decide)) hX.1.2 rfl rfl hl.1 rfl (Nat.le_of_ble_eq_true rfl) dL_law_478 ⟨by show cells + mc ≤ 600000; omega, by show slots + ms ≤ 7302250; omega⟩ (fun v1 L1 ad1 g1 H locs hp hB => ?_)
  obtain ⟨e1, e2, e3, hX1, hM1⟩ := hp
  refine W.eq (g2 := F0 m 481 ls [.int v9]) (by rw [e1]; rfl) ?_
  refine lv_aload_n hx hb dL_law_481 rfl (lv_at hl 2 rfl) ?_
  refine W.eq (g2 := F0 m 482 ls [.ref (ad1 1000), .int v9]) (by rw [e3]) ?_
  refine lv_aload_n hx hb dL_law_482 rfl (lv_at hl 0 rfl) ?_
  refine lv_iload_n hx hb dL_law_483 rfl (lv_at hl 3 rfl) ?_
  refine lv_iconst (v := 1) hx hb dL_law_484 (by decide) ?_
  refine lv_iadd hx hb dL_law_485 ?_
  refine b_topi (w := nI (i + 1)) (nI_add i 1) ?_
  refine n_sld hx hb hS hbl hB (show i + 1 < N by omega) hN dL_law_486 ?_
  refine lv_aload_n hx hb dL_law_487 rfl (lv_at hl 0 rfl) ?_
  refine lv_iload_n hx hb dL_law_488 rfl (lv_at hl 3 rfl) ?_
  refine lv_iconst (v := 2) hx hb dL_law_489 (by decide) ?_
  refine lv_iadd hx hb dL_law_490 ?_
  refine b_topi (w := nI (i + 2)) (nI_add i 2) ?_
  refine n_sld hx hb hS hbl hB (show i + 2 < N by omega) hN dL_law_491 ?_
  refine m_callV (C := RX9) (T := TX9) (N := 33) (ci := 9) (r := 1000) (As := [.int (xs (i + 1)), .int (xs (i + 2))]) (rest := [.int v9]) (cm L1 ad1 g1 hX1 hM1) ⟨hx, hb, hml, hown, htsL⟩ (cwV 2 htsL gL_law_X9_may rfl rfl rfl (by decide +kernel) ⟨Nat.le_of_ble_eq_true rfl, Nat.le_of_ble_eq_true rfl⟩) hB (hM1.1 1000 (by decide)) hM1.2.1 rfl rfl hl.1 rfl (Nat.le_of_ble_eq_true rfl) dL_law_492 ⟨by show cells + mc + 0 ≤ 600000; omega, by show slots + ms + 0 ≤ 7302250; omega⟩ (fun v2 L2 ad2 g2 H locs hp hB => ?_)
  obtain ⟨e4, e5, e6, h31, mz1, hX2, hM2⟩ := hp
  refine W.eq (g2 := F0 m 495 ls [.int v9, .int v9]) (by rw [e4]; rfl) ?_
  refine b_icmp_eq_t 937 hx hb dL_law_495 (by decide) rfl ?_
  refine W.widen (k := cells + 6) (n := slots + 133) (by omega) (by omega) ?_
  exact kk L2 ad2 g2 H locs (va_up a1 31 h31) dn1 pn1 en1 qn1 mz1 nw1 lo1 tr1 hB (hP1.u31 h31) hX2 hM2 (e5.trans e2) (e6.trans e3)
set_option maxHeartbeats 4000000 in
set_option maxRecDepth 100000 in
theorem lc_read {p : Program} {l : Launch} {e : Env} {s : State} {m : MethodId} {below : List Frame} {meth : Method} {c : Code} {b N : Nat} {xs : Nat → Int32} (C0 : lw_At p s m meth c b N xs) {D : va_G} {ty : Nat → ClassId} {L : List Nat} {ad : Nat → Nat} {g : Nat → va_E} {H : Heap} {locs : List Loc} {a : Nat → FI} {dn pn en qn mz : Nat} {nw lo : Int32} {tr : Int64} {k cells slots i : Nat} {Q : State → Prop} {ls : Array Slot} (hi : i + 5 ≤ N) (hN : N ≤ 2560) (hk : k < 1000) (hB : m_B D ty (fun q => s.heap.size ≤ q) s L ad g H locs) (hP : PI a dn pn en qn nw k) (hX : RX ty L ad g a dn pn en qn nw lo tr) (hM : RM ty L ad g a dn pn en qn mz nw lo tr) (hl : lv_has ls 4 [(0, .ref b), (1, .ref (ad 0)), (2, .ref (ad 1000)), (3, .int (nI i))]) (hc : cells + 6 ≤ 600000) (hsl : slots + 133 ≤ 7302250) (kk : lc_K p l e s m below meth c b D ty k cells slots (ad 0) (ad 1000) Q ls) : W p l e room_1 s m #[Value.ref b] below meth c H locs cells slots Q (F0 m 500 ls []) := by
  obtain ⟨hx, hb, hr, hml, hown, hts, hS, hbl, hlocks, hgv⟩ := id C0
  have htsL : ∀ w ∈ wsL_law, w.before #[Value.ref b] s = true := fun w h => hts w (wsL_law_in w h)
  obtain ⟨v9, a1, dn1, pn1, en1, qn1, nw1, lo1, tr1, mc, ms, h6, h133, hP1, cx, cm⟩ := s_read l D ty (xs (i + 1)) (xs (i + 2)) (xs (i + 3)) hk hP hX hM
  refine lv_aload_n hx hb dL_law_500 rfl (lv_at hl 1 rfl) ?_
  refine lv_aload_n hx hb dL_law_501 rfl (lv_at hl 0 rfl) ?_
  refine lv_iload_n hx hb dL_law_502 rfl (lv_at hl 3 rfl) ?_
  refine lv_iconst (v := 1) hx hb dL_law_503 (by decide) ?_
  refine lv_iadd hx hb dL_law_504 ?_
  refine b_topi (w := nI (i + 1)) (nI_add i 1) ?_
  refine n_sld hx hb hS hbl hB (show i + 1 < N by omega) hN dL_law_505 ?_
  refine lv_aload_n hx hb dL_law_506 rfl (lv_at hl 0 rfl) ?_
  refine lv_iload_n hx hb dL_law_507 rfl (lv_at hl 3 rfl) ?_
  refine lv_iconst (v := 2) hx hb dL_law_508 (by decide) ?_
  refine lv_iadd hx hb dL_law_509 ?_
  refine b_topi (w := nI (i + 2)) (nI_add i 2) ?_
  refine n_sld hx hb hS hbl hB (show i + 2 < N by omega) hN dL_law_510 ?_
  refine lv_aload_n hx hb dL_law_511 rfl (lv_at hl 0 rfl) ?_
  refine lv_iload_n hx hb dL_law_512 rfl (lv_at hl 3 rfl) ?_
  refine lv_iconst (v := 3) hx hb dL_law_513 (by decide) ?_
  refine lv_iadd hx hb dL_law_514 ?_
  refine b_topi (w := nI (i + 3)) (nI_add i 3) ?_
  refine n_sld hx hb hS hbl hB (show i + 3 < N by omega) hN dL_law_515 ?_
  refine m_callV (C := RX8) (T := TX8) (N := 12) (ci := 8) (r := 0) (As := [.int (xs (i + 1)), .int (xs (i + 2)), .int (xs (i + 3))]) (rest := []) cx ⟨hx, hb, hml, hown, htsL⟩ (cwV 3 htsL gL_law_X8_read rfl rfl rfl (by decide +kernel) ⟨Nat.le_of_ble_eq_true rfl, Nat.le_of_ble_eq_true rfl⟩) hB (hX.1.1 0 (by decide)) hX.1.2 rfl rfl hl.1 rfl (Nat.le_of_ble_eq_true rfl) dL_law_516 ⟨by show cells + mc ≤ 600000; omega, by show slots + ms ≤ 7302250; omega⟩ (fun v1 L1 ad1 g1 H locs hp hB => ?_)
  obtain ⟨e1, e2, e3, hX1, hM1⟩ := hp
  refine W.eq (g2 := F0 m 519 ls [.int v9]) (by rw [e1]; rfl) ?_
  refine lv_aload_n hx hb dL_law_519 rfl (lv_at hl 2 rfl) ?_
  refine W.eq (g2 := F0 m 520 ls [.ref (ad1 1000), .int v9]) (by rw [e3]) ?_
  refine lv_aload_n hx hb dL_law_520 rfl (lv_at hl 0 rfl) ?_
  refine lv_iload_n hx hb dL_law_521 rfl (lv_at hl 3 rfl) ?_
  refine lv_iconst (v := 1) hx hb dL_law_522 (by decide) ?_
  refine lv_iadd hx hb dL_law_523 ?_
  refine b_topi (w := nI (i + 1)) (nI_add i 1) ?_
  refine n_sld hx hb hS hbl hB (show i + 1 < N by omega) hN dL_law_524 ?_
  refine lv_aload_n hx hb dL_law_525 rfl (lv_at hl 0 rfl) ?_
  refine lv_iload_n hx hb dL_law_526 rfl (lv_at hl 3 rfl) ?_
  refine lv_iconst (v := 2) hx hb dL_law_527 (by decide) ?_
  refine lv_iadd hx hb dL_law_528 ?_
  refine b_topi (w := nI (i + 2)) (nI_add i 2) ?_
  refine n_sld hx hb hS hbl hB (show i + 2 < N by omega) hN dL_law_529 ?_
  refine lv_aload_n hx hb dL_law_530 rfl (lv_at hl 0 rfl) ?_
  refine lv_iload_n hx hb dL_law_531 rfl (lv_at hl 3 rfl) ?_
  refine lv_iconst (v := 3) hx hb dL_law_532 (by decide) ?_
  refine lv_iadd hx hb dL_law_533 ?_
  refine b_topi (w := nI (i + 3)) (nI_add i 3) ?_
  refine n_sld hx hb hS hbl hB (show i + 3 < N by omega) hN dL_law_534 ?_
  refine m_callV (C := RX9) (T := TX9) (N := 33) (ci := 9) (r := 1000) (As := [.int (xs (i + 1)), .int (xs (i + 2)), .int (xs (i + 3))]) (rest := [.int v9]) (cm L1 ad1 g1 hX1 hM1) ⟨hx, hb, hml, hown, htsL⟩ (cwV 3 htsL gL_law_X9_read rfl rfl rfl (by decide +kernel) ⟨Nat.le_of_ble_eq_true rfl, Nat.le_of_ble_eq_true rfl⟩) hB (hM1.1 1000 (by decide)) hM1.2.1 rfl rfl hl.1 rfl (Nat.le_of_ble_eq_true rfl) dL_law_535 ⟨by show cells + mc + 0 ≤ 600000; omega, by show slots + ms + 0 ≤ 7302250; omega⟩ (fun v2 L2 ad2 g2 H locs hp hB => ?_)
  obtain ⟨e4, e5, e6, h31, mz1, hX2, hM2⟩ := hp
  refine W.eq (g2 := F0 m 538 ls [.int v9, .int v9]) (by rw [e4]; rfl) ?_
  refine b_icmp_eq_t 937 hx hb dL_law_538 (by decide) rfl ?_
  refine W.widen (k := cells + 6) (n := slots + 133) (by omega) (by omega) ?_
  exact kk L2 ad2 g2 H locs (va_up a1 31 h31) dn1 pn1 en1 qn1 mz1 nw1 lo1 tr1 hB (hP1.u31 h31) hX2 hM2 (e5.trans e2) (e6.trans e3)
set_option maxHeartbeats 4000000 in
set_option maxRecDepth 100000 in
theorem lc_at {p : Program} {l : Launch} {e : Env} {s : State} {m : MethodId} {below : List Frame} {meth : Method} {c : Code} {b N : Nat} {xs : Nat → Int32} (C0 : lw_At p s m meth c b N xs) {D : va_G} {ty : Nat → ClassId} {L : List Nat} {ad : Nat → Nat} {g : Nat → va_E} {H : Heap} {locs : List Loc} {a : Nat → FI} {dn pn en qn mz : Nat} {nw lo : Int32} {tr : Int64} {k cells slots i : Nat} {Q : State → Prop} {ls : Array Slot} (hi : i + 5 ≤ N) (hN : N ≤ 2560) (hk : k < 1000) (hB : m_B D ty (fun q => s.heap.size ≤ q) s L ad g H locs) (hP : PI a dn pn en qn nw k) (hX : RX ty L ad g a dn pn en qn nw lo tr) (hM : RM ty L ad g a dn pn en qn mz nw lo tr) (hl : lv_has ls 4 [(0, .ref b), (1, .ref (ad 0)), (2, .ref (ad 1000)), (3, .int (nI i))]) (hc : cells + 6 ≤ 600000) (hsl : slots + 133 ≤ 7302250) (kk : lc_K p l e s m below meth c b D ty k cells slots (ad 0) (ad 1000) Q ls) : W p l e room_1 s m #[Value.ref b] below meth c H locs cells slots Q (F0 m 543 ls []) := by
  obtain ⟨hx, hb, hr, hml, hown, hts, hS, hbl, hlocks, hgv⟩ := id C0
  have htsL : ∀ w ∈ wsL_law, w.before #[Value.ref b] s = true := fun w h => hts w (wsL_law_in w h)
  obtain ⟨v9, a1, dn1, pn1, en1, qn1, nw1, lo1, tr1, mc, ms, h6, h133, hP1, cx, cm⟩ := s_at l D ty (xs (i + 1)) (xs (i + 2)) hk hP hX hM
  refine lv_aload_n hx hb dL_law_543 rfl (lv_at hl 1 rfl) ?_
  refine lv_aload_n hx hb dL_law_544 rfl (lv_at hl 0 rfl) ?_
  refine lv_iload_n hx hb dL_law_545 rfl (lv_at hl 3 rfl) ?_
  refine lv_iconst (v := 1) hx hb dL_law_546 (by decide) ?_
  refine lv_iadd hx hb dL_law_547 ?_
  refine b_topi (w := nI (i + 1)) (nI_add i 1) ?_
  refine n_sld hx hb hS hbl hB (show i + 1 < N by omega) hN dL_law_548 ?_
  refine lv_aload_n hx hb dL_law_549 rfl (lv_at hl 0 rfl) ?_
  refine lv_iload_n hx hb dL_law_550 rfl (lv_at hl 3 rfl) ?_
  refine lv_iconst (v := 2) hx hb dL_law_551 (by decide) ?_
  refine lv_iadd hx hb dL_law_552 ?_
  refine b_topi (w := nI (i + 2)) (nI_add i 2) ?_
  refine n_sld hx hb hS hbl hB (show i + 2 < N by omega) hN dL_law_553 ?_
  refine m_callV (C := RX8) (T := TX8) (N := 12) (ci := 8) (r := 0) (As := [.int (xs (i + 1)), .int (xs (i + 2))]) (rest := []) cx ⟨hx, hb, hml, hown, htsL⟩ (cwV 2 htsL gL_law_X8_at rfl rfl rfl (by decide +kernel) ⟨Nat.le_of_ble_eq_true rfl, Nat.le_of_ble_eq_true rfl⟩) hB (hX.1.1 0 (by decide)) hX.1.2 rfl rfl hl.1 rfl (Nat.le_of_ble_eq_true rfl) dL_law_554 ⟨by show cells + mc ≤ 600000; omega, by show slots + ms ≤ 7302250; omega⟩ (fun v1 L1 ad1 g1 H locs hp hB => ?_)
  obtain ⟨e1, e2, e3, hX1, hM1⟩ := hp
  refine W.eq (g2 := F0 m 557 ls [.int v9]) (by rw [e1]; rfl) ?_
  refine lv_aload_n hx hb dL_law_557 rfl (lv_at hl 2 rfl) ?_
  refine W.eq (g2 := F0 m 558 ls [.ref (ad1 1000), .int v9]) (by rw [e3]) ?_
  refine lv_aload_n hx hb dL_law_558 rfl (lv_at hl 0 rfl) ?_
  refine lv_iload_n hx hb dL_law_559 rfl (lv_at hl 3 rfl) ?_
  refine lv_iconst (v := 1) hx hb dL_law_560 (by decide) ?_
  refine lv_iadd hx hb dL_law_561 ?_
  refine b_topi (w := nI (i + 1)) (nI_add i 1) ?_
  refine n_sld hx hb hS hbl hB (show i + 1 < N by omega) hN dL_law_562 ?_
  refine lv_aload_n hx hb dL_law_563 rfl (lv_at hl 0 rfl) ?_
  refine lv_iload_n hx hb dL_law_564 rfl (lv_at hl 3 rfl) ?_
  refine lv_iconst (v := 2) hx hb dL_law_565 (by decide) ?_
  refine lv_iadd hx hb dL_law_566 ?_
  refine b_topi (w := nI (i + 2)) (nI_add i 2) ?_
  refine n_sld hx hb hS hbl hB (show i + 2 < N by omega) hN dL_law_567 ?_
  refine m_callV (C := RX9) (T := TX9) (N := 33) (ci := 9) (r := 1000) (As := [.int (xs (i + 1)), .int (xs (i + 2))]) (rest := [.int v9]) (cm L1 ad1 g1 hX1 hM1) ⟨hx, hb, hml, hown, htsL⟩ (cwV 2 htsL gL_law_X9_at rfl rfl rfl (by decide +kernel) ⟨Nat.le_of_ble_eq_true rfl, Nat.le_of_ble_eq_true rfl⟩) hB (hM1.1 1000 (by decide)) hM1.2.1 rfl rfl hl.1 rfl (Nat.le_of_ble_eq_true rfl) dL_law_568 ⟨by show cells + mc + 0 ≤ 600000; omega, by show slots + ms + 0 ≤ 7302250; omega⟩ (fun v2 L2 ad2 g2 H locs hp hB => ?_)
  obtain ⟨e4, e5, e6, h31, mz1, hX2, hM2⟩ := hp
  refine W.eq (g2 := F0 m 571 ls [.int v9, .int v9]) (by rw [e4]; rfl) ?_
  refine b_icmp_eq_t 937 hx hb dL_law_571 (by decide) rfl ?_
  refine W.widen (k := cells + 6) (n := slots + 133) (by omega) (by omega) ?_
  exact kk L2 ad2 g2 H locs (va_up a1 31 h31) dn1 pn1 en1 qn1 mz1 nw1 lo1 tr1 hB (hP1.u31 h31) hX2 hM2 (e5.trans e2) (e6.trans e3)
set_option maxHeartbeats 4000000 in
set_option maxRecDepth 100000 in
theorem lc_search {p : Program} {l : Launch} {e : Env} {s : State} {m : MethodId} {below : List Frame} {meth : Method} {c : Code} {b N : Nat} {xs : Nat → Int32} (C0 : lw_At p s m meth c b N xs) {D : va_G} {ty : Nat → ClassId} {L : List Nat} {ad : Nat → Nat} {g : Nat → va_E} {H : Heap} {locs : List Loc} {a : Nat → FI} {dn pn en qn mz : Nat} {nw lo : Int32} {tr : Int64} {k cells slots i : Nat} {Q : State → Prop} {ls : Array Slot} (hi : i + 5 ≤ N) (hN : N ≤ 2560) (hk : k < 1000) (hB : m_B D ty (fun q => s.heap.size ≤ q) s L ad g H locs) (hP : PI a dn pn en qn nw k) (hX : RX ty L ad g a dn pn en qn nw lo tr) (hM : RM ty L ad g a dn pn en qn mz nw lo tr) (hl : lv_has ls 4 [(0, .ref b), (1, .ref (ad 0)), (2, .ref (ad 1000)), (3, .int (nI i))]) (hc : cells + 6 ≤ 600000) (hsl : slots + 133 ≤ 7302250) (kk : lc_K p l e s m below meth c b D ty k cells slots (ad 0) (ad 1000) Q ls) : W p l e room_1 s m #[Value.ref b] below meth c H locs cells slots Q (F0 m 576 ls []) := by
  obtain ⟨hx, hb, hr, hml, hown, hts, hS, hbl, hlocks, hgv⟩ := id C0
  have htsL : ∀ w ∈ wsL_law, w.before #[Value.ref b] s = true := fun w h => hts w (wsL_law_in w h)
  obtain ⟨v9, a1, dn1, pn1, en1, qn1, nw1, lo1, tr1, mc, ms, h6, h133, hP1, cx, cm⟩ := s_search l D ty (xs (i + 1)) hk hP hX hM
  refine lv_aload_n hx hb dL_law_576 rfl (lv_at hl 1 rfl) ?_
  refine lv_aload_n hx hb dL_law_577 rfl (lv_at hl 0 rfl) ?_
  refine lv_iload_n hx hb dL_law_578 rfl (lv_at hl 3 rfl) ?_
  refine lv_iconst (v := 1) hx hb dL_law_579 (by decide) ?_
  refine lv_iadd hx hb dL_law_580 ?_
  refine b_topi (w := nI (i + 1)) (nI_add i 1) ?_
  refine n_sld hx hb hS hbl hB (show i + 1 < N by omega) hN dL_law_581 ?_
  refine m_callV (C := RX8) (T := TX8) (N := 12) (ci := 8) (r := 0) (As := [.int (xs (i + 1))]) (rest := []) cx ⟨hx, hb, hml, hown, htsL⟩ (cwV 1 htsL gL_law_X8_search rfl rfl rfl (by decide +kernel) ⟨Nat.le_of_ble_eq_true rfl, Nat.le_of_ble_eq_true rfl⟩) hB (hX.1.1 0 (by decide)) hX.1.2 rfl rfl hl.1 rfl (Nat.le_of_ble_eq_true rfl) dL_law_582 ⟨by show cells + mc ≤ 600000; omega, by show slots + ms ≤ 7302250; omega⟩ (fun v1 L1 ad1 g1 H locs hp hB => ?_)
  obtain ⟨e1, e2, e3, hX1, hM1⟩ := hp
  refine W.eq (g2 := F0 m 585 ls [.int v9]) (by rw [e1]; rfl) ?_
  refine lv_aload_n hx hb dL_law_585 rfl (lv_at hl 2 rfl) ?_
  refine W.eq (g2 := F0 m 586 ls [.ref (ad1 1000), .int v9]) (by rw [e3]) ?_
  refine lv_aload_n hx hb dL_law_586 rfl (lv_at hl 0 rfl) ?_
  refine lv_iload_n hx hb dL_law_587 rfl (lv_at hl 3 rfl) ?_
  refine lv_iconst (v := 1) hx hb dL_law_588 (by decide) ?_
  refine lv_iadd hx hb dL_law_589 ?_
  refine b_topi (w := nI (i + 1)) (nI_add i 1) ?_
  refine n_sld hx hb hS hbl hB (show i + 1 < N by omega) hN dL_law_590 ?_
  refine m_callV (C := RX9) (T := TX9) (N := 33) (ci := 9) (r := 1000) (As := [.int (xs (i + 1))]) (rest := [.int v9]) (cm L1 ad1 g1 hX1 hM1) ⟨hx, hb, hml, hown, htsL⟩ (cwV 1 htsL gL_law_X9_search rfl rfl rfl (by decide +kernel) ⟨Nat.le_of_ble_eq_true rfl, Nat.le_of_ble_eq_true rfl⟩) hB (hM1.1 1000 (by decide)) hM1.2.1 rfl rfl hl.1 rfl (Nat.le_of_ble_eq_true rfl) dL_law_591 ⟨by show cells + mc + 0 ≤ 600000; omega, by show slots + ms + 0 ≤ 7302250; omega⟩ (fun v2 L2 ad2 g2 H locs hp hB => ?_)
  obtain ⟨e4, e5, e6, h31, mz1, hX2, hM2⟩ := hp
  refine W.eq (g2 := F0 m 594 ls [.int v9, .int v9]) (by rw [e4]; rfl) ?_
  refine b_icmp_eq_t 937 hx hb dL_law_594 (by decide) rfl ?_
  refine W.widen (k := cells + 6) (n := slots + 133) (by omega) (by omega) ?_
  exact kk L2 ad2 g2 H locs (va_up a1 31 h31) dn1 pn1 en1 qn1 mz1 nw1 lo1 tr1 hB (hP1.u31 h31) hX2 hM2 (e5.trans e2) (e6.trans e3)
set_option maxHeartbeats 4000000 in
set_option maxRecDepth 100000 in
theorem lc_named {p : Program} {l : Launch} {e : Env} {s : State} {m : MethodId} {below : List Frame} {meth : Method} {c : Code} {b N : Nat} {xs : Nat → Int32} (C0 : lw_At p s m meth c b N xs) {D : va_G} {ty : Nat → ClassId} {L : List Nat} {ad : Nat → Nat} {g : Nat → va_E} {H : Heap} {locs : List Loc} {a : Nat → FI} {dn pn en qn mz : Nat} {nw lo : Int32} {tr : Int64} {k cells slots i : Nat} {Q : State → Prop} {ls : Array Slot} (hi : i + 5 ≤ N) (hN : N ≤ 2560) (hk : k < 1000) (hB : m_B D ty (fun q => s.heap.size ≤ q) s L ad g H locs) (hP : PI a dn pn en qn nw k) (hX : RX ty L ad g a dn pn en qn nw lo tr) (hM : RM ty L ad g a dn pn en qn mz nw lo tr) (hl : lv_has ls 4 [(0, .ref b), (1, .ref (ad 0)), (2, .ref (ad 1000)), (3, .int (nI i))]) (hc : cells + 6 ≤ 600000) (hsl : slots + 133 ≤ 7302250) (kk : lc_K p l e s m below meth c b D ty k cells slots (ad 0) (ad 1000) Q ls) : W p l e room_1 s m #[Value.ref b] below meth c H locs cells slots Q (F0 m 599 ls []) := by
  obtain ⟨hx, hb, hr, hml, hown, hts, hS, hbl, hlocks, hgv⟩ := id C0
  have htsL : ∀ w ∈ wsL_law, w.before #[Value.ref b] s = true := fun w h => hts w (wsL_law_in w h)
  obtain ⟨v9, a1, dn1, pn1, en1, qn1, nw1, lo1, tr1, mc, ms, h6, h133, hP1, cx, cm⟩ := s_named l D ty (xs (i + 1)) (xs (i + 2)) hk hP hX hM
  refine lv_aload_n hx hb dL_law_599 rfl (lv_at hl 1 rfl) ?_
  refine lv_aload_n hx hb dL_law_600 rfl (lv_at hl 0 rfl) ?_
  refine lv_iload_n hx hb dL_law_601 rfl (lv_at hl 3 rfl) ?_
  refine lv_iconst (v := 1) hx hb dL_law_602 (by decide) ?_
  refine lv_iadd hx hb dL_law_603 ?_
  refine b_topi (w := nI (i + 1)) (nI_add i 1) ?_
  refine n_sld hx hb hS hbl hB (show i + 1 < N by omega) hN dL_law_604 ?_
  refine lv_aload_n hx hb dL_law_605 rfl (lv_at hl 0 rfl) ?_
  refine lv_iload_n hx hb dL_law_606 rfl (lv_at hl 3 rfl) ?_
  refine lv_iconst (v := 2) hx hb dL_law_607 (by decide) ?_
  refine lv_iadd hx hb dL_law_608 ?_
  refine b_topi (w := nI (i + 2)) (nI_add i 2) ?_
  refine n_sld hx hb hS hbl hB (show i + 2 < N by omega) hN dL_law_609 ?_
  refine m_callV (C := RX8) (T := TX8) (N := 12) (ci := 8) (r := 0) (As := [.int (xs (i + 1)), .int (xs (i + 2))]) (rest := []) cx ⟨hx, hb, hml, hown, htsL⟩ (cwV 2 htsL gL_law_X8_named rfl rfl rfl (by decide +kernel) ⟨Nat.le_of_ble_eq_true rfl, Nat.le_of_ble_eq_true rfl⟩) hB (hX.1.1 0 (by decide)) hX.1.2 rfl rfl hl.1 rfl (Nat.le_of_ble_eq_true rfl) dL_law_610 ⟨by show cells + mc ≤ 600000; omega, by show slots + ms ≤ 7302250; omega⟩ (fun v1 L1 ad1 g1 H locs hp hB => ?_)
  obtain ⟨e1, e2, e3, hX1, hM1⟩ := hp
  refine W.eq (g2 := F0 m 613 ls [.int v9]) (by rw [e1]; rfl) ?_
  refine lv_aload_n hx hb dL_law_613 rfl (lv_at hl 2 rfl) ?_
  refine W.eq (g2 := F0 m 614 ls [.ref (ad1 1000), .int v9]) (by rw [e3]) ?_
  refine lv_aload_n hx hb dL_law_614 rfl (lv_at hl 0 rfl) ?_
  refine lv_iload_n hx hb dL_law_615 rfl (lv_at hl 3 rfl) ?_
  refine lv_iconst (v := 1) hx hb dL_law_616 (by decide) ?_
  refine lv_iadd hx hb dL_law_617 ?_
  refine b_topi (w := nI (i + 1)) (nI_add i 1) ?_
  refine n_sld hx hb hS hbl hB (show i + 1 < N by omega) hN dL_law_618 ?_
  refine lv_aload_n hx hb dL_law_619 rfl (lv_at hl 0 rfl) ?_
  refine lv_iload_n hx hb dL_law_620 rfl (lv_at hl 3 rfl) ?_
  refine lv_iconst (v := 2) hx hb dL_law_621 (by decide) ?_
  refine lv_iadd hx hb dL_law_622 ?_
  refine b_topi (w := nI (i + 2)) (nI_add i 2) ?_
  refine n_sld hx hb hS hbl hB (show i + 2 < N by omega) hN dL_law_623 ?_
  refine m_callV (C := RX9) (T := TX9) (N := 33) (ci := 9) (r := 1000) (As := [.int (xs (i + 1)), .int (xs (i + 2))]) (rest := [.int v9]) (cm L1 ad1 g1 hX1 hM1) ⟨hx, hb, hml, hown, htsL⟩ (cwV 2 htsL gL_law_X9_named rfl rfl rfl (by decide +kernel) ⟨Nat.le_of_ble_eq_true rfl, Nat.le_of_ble_eq_true rfl⟩) hB (hM1.1 1000 (by decide)) hM1.2.1 rfl rfl hl.1 rfl (Nat.le_of_ble_eq_true rfl) dL_law_624 ⟨by show cells + mc + 0 ≤ 600000; omega, by show slots + ms + 0 ≤ 7302250; omega⟩ (fun v2 L2 ad2 g2 H locs hp hB => ?_)
  obtain ⟨e4, e5, e6, h31, mz1, hX2, hM2⟩ := hp
  refine W.eq (g2 := F0 m 627 ls [.int v9, .int v9]) (by rw [e4]; rfl) ?_
  refine b_icmp_eq_t 937 hx hb dL_law_627 (by decide) rfl ?_
  refine W.widen (k := cells + 6) (n := slots + 133) (by omega) (by omega) ?_
  exact kk L2 ad2 g2 H locs (va_up a1 31 h31) dn1 pn1 en1 qn1 mz1 nw1 lo1 tr1 hB (hP1.u31 h31) hX2 hM2 (e5.trans e2) (e6.trans e3)
set_option maxHeartbeats 4000000 in
set_option maxRecDepth 100000 in
theorem lc_log {p : Program} {l : Launch} {e : Env} {s : State} {m : MethodId} {below : List Frame} {meth : Method} {c : Code} {b N : Nat} {xs : Nat → Int32} (C0 : lw_At p s m meth c b N xs) {D : va_G} {ty : Nat → ClassId} {L : List Nat} {ad : Nat → Nat} {g : Nat → va_E} {H : Heap} {locs : List Loc} {a : Nat → FI} {dn pn en qn mz : Nat} {nw lo : Int32} {tr : Int64} {k cells slots i : Nat} {Q : State → Prop} {ls : Array Slot} (hi : i + 5 ≤ N) (hN : N ≤ 2560) (hk : k < 1000) (hB : m_B D ty (fun q => s.heap.size ≤ q) s L ad g H locs) (hP : PI a dn pn en qn nw k) (hX : RX ty L ad g a dn pn en qn nw lo tr) (hM : RM ty L ad g a dn pn en qn mz nw lo tr) (hl : lv_has ls 4 [(0, .ref b), (1, .ref (ad 0)), (2, .ref (ad 1000)), (3, .int (nI i))]) (hc : cells + 6 ≤ 600000) (hsl : slots + 133 ≤ 7302250) (kk : lc_K p l e s m below meth c b D ty k cells slots (ad 0) (ad 1000) Q ls) : W p l e room_1 s m #[Value.ref b] below meth c H locs cells slots Q (F0 m 632 ls []) := by
  obtain ⟨hx, hb, hr, hml, hown, hts, hS, hbl, hlocks, hgv⟩ := id C0
  have htsL : ∀ w ∈ wsL_law, w.before #[Value.ref b] s = true := fun w h => hts w (wsL_law_in w h)
  obtain ⟨v9, a1, dn1, pn1, en1, qn1, nw1, lo1, tr1, mc, ms, h6, h133, hP1, cx, cm⟩ := s_log l D ty (xs (i + 1)) (xs (i + 2)) hk hP hX hM
  refine lv_aload_n hx hb dL_law_632 rfl (lv_at hl 1 rfl) ?_
  refine lv_aload_n hx hb dL_law_633 rfl (lv_at hl 0 rfl) ?_
  refine lv_iload_n hx hb dL_law_634 rfl (lv_at hl 3 rfl) ?_
  refine lv_iconst (v := 1) hx hb dL_law_635 (by decide) ?_
  refine lv_iadd hx hb dL_law_636 ?_
  refine b_topi (w := nI (i + 1)) (nI_add i 1) ?_
  refine n_sld hx hb hS hbl hB (show i + 1 < N by omega) hN dL_law_637 ?_
  refine lv_aload_n hx hb dL_law_638 rfl (lv_at hl 0 rfl) ?_
  refine lv_iload_n hx hb dL_law_639 rfl (lv_at hl 3 rfl) ?_
  refine lv_iconst (v := 2) hx hb dL_law_640 (by decide) ?_
  refine lv_iadd hx hb dL_law_641 ?_
  refine b_topi (w := nI (i + 2)) (nI_add i 2) ?_
  refine n_sld hx hb hS hbl hB (show i + 2 < N by omega) hN dL_law_642 ?_
  refine m_callV (C := RX8) (T := TX8) (N := 12) (ci := 8) (r := 0) (As := [.int (xs (i + 1)), .int (xs (i + 2))]) (rest := []) cx ⟨hx, hb, hml, hown, htsL⟩ (cwV 2 htsL gL_law_X8_log rfl rfl rfl (by decide +kernel) ⟨Nat.le_of_ble_eq_true rfl, Nat.le_of_ble_eq_true rfl⟩) hB (hX.1.1 0 (by decide)) hX.1.2 rfl rfl hl.1 rfl (Nat.le_of_ble_eq_true rfl) dL_law_643 ⟨by show cells + mc ≤ 600000; omega, by show slots + ms ≤ 7302250; omega⟩ (fun v1 L1 ad1 g1 H locs hp hB => ?_)
  obtain ⟨e1, e2, e3, hX1, hM1⟩ := hp
  refine W.eq (g2 := F0 m 646 ls [.int v9]) (by rw [e1]; rfl) ?_
  refine lv_aload_n hx hb dL_law_646 rfl (lv_at hl 2 rfl) ?_
  refine W.eq (g2 := F0 m 647 ls [.ref (ad1 1000), .int v9]) (by rw [e3]) ?_
  refine lv_aload_n hx hb dL_law_647 rfl (lv_at hl 0 rfl) ?_
  refine lv_iload_n hx hb dL_law_648 rfl (lv_at hl 3 rfl) ?_
  refine lv_iconst (v := 1) hx hb dL_law_649 (by decide) ?_
  refine lv_iadd hx hb dL_law_650 ?_
  refine b_topi (w := nI (i + 1)) (nI_add i 1) ?_
  refine n_sld hx hb hS hbl hB (show i + 1 < N by omega) hN dL_law_651 ?_
  refine lv_aload_n hx hb dL_law_652 rfl (lv_at hl 0 rfl) ?_
  refine lv_iload_n hx hb dL_law_653 rfl (lv_at hl 3 rfl) ?_
  refine lv_iconst (v := 2) hx hb dL_law_654 (by decide) ?_
  refine lv_iadd hx hb dL_law_655 ?_
  refine b_topi (w := nI (i + 2)) (nI_add i 2) ?_
  refine n_sld hx hb hS hbl hB (show i + 2 < N by omega) hN dL_law_656 ?_
  refine m_callV (C := RX9) (T := TX9) (N := 33) (ci := 9) (r := 1000) (As := [.int (xs (i + 1)), .int (xs (i + 2))]) (rest := [.int v9]) (cm L1 ad1 g1 hX1 hM1) ⟨hx, hb, hml, hown, htsL⟩ (cwV 2 htsL gL_law_X9_log rfl rfl rfl (by decide +kernel) ⟨Nat.le_of_ble_eq_true rfl, Nat.le_of_ble_eq_true rfl⟩) hB (hM1.1 1000 (by decide)) hM1.2.1 rfl rfl hl.1 rfl (Nat.le_of_ble_eq_true rfl) dL_law_657 ⟨by show cells + mc + 0 ≤ 600000; omega, by show slots + ms + 0 ≤ 7302250; omega⟩ (fun v2 L2 ad2 g2 H locs hp hB => ?_)
  obtain ⟨e4, e5, e6, h31, mz1, hX2, hM2⟩ := hp
  refine W.eq (g2 := F0 m 660 ls [.int v9, .int v9]) (by rw [e4]; rfl) ?_
  refine b_icmp_eq_t 937 hx hb dL_law_660 (by decide) rfl ?_
  refine W.widen (k := cells + 6) (n := slots + 133) (by omega) (by omega) ?_
  exact kk L2 ad2 g2 H locs (va_up a1 31 h31) dn1 pn1 en1 qn1 mz1 nw1 lo1 tr1 hB (hP1.u31 h31) hX2 hM2 (e5.trans e2) (e6.trans e3)
set_option maxHeartbeats 4000000 in
set_option maxRecDepth 100000 in
theorem lc_chain {p : Program} {l : Launch} {e : Env} {s : State} {m : MethodId} {below : List Frame} {meth : Method} {c : Code} {b N : Nat} {xs : Nat → Int32} (C0 : lw_At p s m meth c b N xs) {D : va_G} {ty : Nat → ClassId} {L : List Nat} {ad : Nat → Nat} {g : Nat → va_E} {H : Heap} {locs : List Loc} {a : Nat → FI} {dn pn en qn mz : Nat} {nw lo : Int32} {tr : Int64} {k cells slots i : Nat} {Q : State → Prop} {ls : Array Slot} (hi : i + 5 ≤ N) (hN : N ≤ 2560) (hk : k < 1000) (hB : m_B D ty (fun q => s.heap.size ≤ q) s L ad g H locs) (hP : PI a dn pn en qn nw k) (hX : RX ty L ad g a dn pn en qn nw lo tr) (hM : RM ty L ad g a dn pn en qn mz nw lo tr) (hl : lv_has ls 4 [(0, .ref b), (1, .ref (ad 0)), (2, .ref (ad 1000)), (3, .int (nI i))]) (hc : cells + 6 ≤ 600000) (hsl : slots + 133 ≤ 7302250) (kk : lc_K p l e s m below meth c b D ty k cells slots (ad 0) (ad 1000) Q ls) : W p l e room_1 s m #[Value.ref b] below meth c H locs cells slots Q (F0 m 665 ls []) := by
  obtain ⟨hx, hb, hr, hml, hown, hts, hS, hbl, hlocks, hgv⟩ := id C0
  have htsL : ∀ w ∈ wsL_law, w.before #[Value.ref b] s = true := fun w h => hts w (wsL_law_in w h)
  obtain ⟨v9, a1, dn1, pn1, en1, qn1, nw1, lo1, tr1, mc, ms, h6, h133, hP1, cx, cm⟩ := s_chain l D ty (xs (i + 1)) hk hP hX hM
  refine lv_aload_n hx hb dL_law_665 rfl (lv_at hl 1 rfl) ?_
  refine lv_aload_n hx hb dL_law_666 rfl (lv_at hl 0 rfl) ?_
  refine lv_iload_n hx hb dL_law_667 rfl (lv_at hl 3 rfl) ?_
  refine lv_iconst (v := 1) hx hb dL_law_668 (by decide) ?_
  refine lv_iadd hx hb dL_law_669 ?_
  refine b_topi (w := nI (i + 1)) (nI_add i 1) ?_
  refine n_sld hx hb hS hbl hB (show i + 1 < N by omega) hN dL_law_670 ?_
  refine m_callV (C := RX8) (T := TX8) (N := 12) (ci := 8) (r := 0) (As := [.int (xs (i + 1))]) (rest := []) cx ⟨hx, hb, hml, hown, htsL⟩ (cwV 1 htsL gL_law_X8_chain rfl rfl rfl (by decide +kernel) ⟨Nat.le_of_ble_eq_true rfl, Nat.le_of_ble_eq_true rfl⟩) hB (hX.1.1 0 (by decide)) hX.1.2 rfl rfl hl.1 rfl (Nat.le_of_ble_eq_true rfl) dL_law_671 ⟨by show cells + mc ≤ 600000; omega, by show slots + ms ≤ 7302250; omega⟩ (fun v1 L1 ad1 g1 H locs hp hB => ?_)
  obtain ⟨e1, e2, e3, hX1, hM1⟩ := hp
  refine W.eq (g2 := F0 m 674 ls [.long v9]) (by rw [e1]; rfl) ?_
  refine lv_aload_n hx hb dL_law_674 rfl (lv_at hl 2 rfl) ?_
  refine W.eq (g2 := F0 m 675 ls [.ref (ad1 1000), .long v9]) (by rw [e3]) ?_
  refine lv_aload_n hx hb dL_law_675 rfl (lv_at hl 0 rfl) ?_
  refine lv_iload_n hx hb dL_law_676 rfl (lv_at hl 3 rfl) ?_
  refine lv_iconst (v := 1) hx hb dL_law_677 (by decide) ?_
  refine lv_iadd hx hb dL_law_678 ?_
  refine b_topi (w := nI (i + 1)) (nI_add i 1) ?_
  refine n_sld hx hb hS hbl hB (show i + 1 < N by omega) hN dL_law_679 ?_
  refine m_callV (C := RX9) (T := TX9) (N := 33) (ci := 9) (r := 1000) (As := [.int (xs (i + 1))]) (rest := [.long v9]) (cm L1 ad1 g1 hX1 hM1) ⟨hx, hb, hml, hown, htsL⟩ (cwV 1 htsL gL_law_X9_chain rfl rfl rfl (by decide +kernel) ⟨Nat.le_of_ble_eq_true rfl, Nat.le_of_ble_eq_true rfl⟩) hB (hM1.1 1000 (by decide)) hM1.2.1 rfl rfl hl.1 rfl (Nat.le_of_ble_eq_true rfl) dL_law_680 ⟨by show cells + mc + 0 ≤ 600000; omega, by show slots + ms + 0 ≤ 7302250; omega⟩ (fun v2 L2 ad2 g2 H locs hp hB => ?_)
  obtain ⟨e4, e5, e6, h31, mz1, hX2, hM2⟩ := hp
  refine W.eq (g2 := F0 m 683 ls [.long v9, .long v9]) (by rw [e4]; rfl) ?_
  refine W.lcmp hx hb dL_law_683 ?_
  refine b_if_eq_t 937 hx hb dL_law_684 (by decide) (lg_cmp_self v9) ?_
  refine W.widen (k := cells + 6) (n := slots + 133) (by omega) (by omega) ?_
  exact kk L2 ad2 g2 H locs (va_up a1 31 h31) dn1 pn1 en1 qn1 mz1 nw1 lo1 tr1 hB (hP1.u31 h31) hX2 hM2 (e5.trans e2) (e6.trans e3)
set_option maxHeartbeats 4000000 in
set_option maxRecDepth 100000 in
theorem lc_times {p : Program} {l : Launch} {e : Env} {s : State} {m : MethodId} {below : List Frame} {meth : Method} {c : Code} {b N : Nat} {xs : Nat → Int32} (C0 : lw_At p s m meth c b N xs) {D : va_G} {ty : Nat → ClassId} {L : List Nat} {ad : Nat → Nat} {g : Nat → va_E} {H : Heap} {locs : List Loc} {a : Nat → FI} {dn pn en qn mz : Nat} {nw lo : Int32} {tr : Int64} {k cells slots i : Nat} {Q : State → Prop} {ls : Array Slot} (hi : i + 5 ≤ N) (hN : N ≤ 2560) (hk : k < 1000) (hB : m_B D ty (fun q => s.heap.size ≤ q) s L ad g H locs) (hP : PI a dn pn en qn nw k) (hX : RX ty L ad g a dn pn en qn nw lo tr) (hM : RM ty L ad g a dn pn en qn mz nw lo tr) (hl : lv_has ls 4 [(0, .ref b), (1, .ref (ad 0)), (2, .ref (ad 1000)), (3, .int (nI i))]) (hc : cells + 6 ≤ 600000) (hsl : slots + 133 ≤ 7302250) (kk : lc_K p l e s m below meth c b D ty k cells slots (ad 0) (ad 1000) Q ls) : W p l e room_1 s m #[Value.ref b] below meth c H locs cells slots Q (F0 m 689 ls []) := by
  obtain ⟨hx, hb, hr, hml, hown, hts, hS, hbl, hlocks, hgv⟩ := id C0
  have htsL : ∀ w ∈ wsL_law, w.before #[Value.ref b] s = true := fun w h => hts w (wsL_law_in w h)
  obtain ⟨v9, a1, dn1, pn1, en1, qn1, nw1, lo1, tr1, mc, ms, h6, h133, hP1, cx, cm⟩ := s_times l D ty (xs (i + 1)) (xs (i + 2)) (xs (i + 3)) hk hP hX hM
  refine lv_aload_n hx hb dL_law_689 rfl (lv_at hl 1 rfl) ?_
  refine lv_aload_n hx hb dL_law_690 rfl (lv_at hl 0 rfl) ?_
  refine lv_iload_n hx hb dL_law_691 rfl (lv_at hl 3 rfl) ?_
  refine lv_iconst (v := 1) hx hb dL_law_692 (by decide) ?_
  refine lv_iadd hx hb dL_law_693 ?_
  refine b_topi (w := nI (i + 1)) (nI_add i 1) ?_
  refine n_sld hx hb hS hbl hB (show i + 1 < N by omega) hN dL_law_694 ?_
  refine lv_aload_n hx hb dL_law_695 rfl (lv_at hl 0 rfl) ?_
  refine lv_iload_n hx hb dL_law_696 rfl (lv_at hl 3 rfl) ?_
  refine lv_iconst (v := 2) hx hb dL_law_697 (by decide) ?_
  refine lv_iadd hx hb dL_law_698 ?_
  refine b_topi (w := nI (i + 2)) (nI_add i 2) ?_
  refine n_sld hx hb hS hbl hB (show i + 2 < N by omega) hN dL_law_699 ?_
  refine lv_aload_n hx hb dL_law_700 rfl (lv_at hl 0 rfl) ?_
  refine lv_iload_n hx hb dL_law_701 rfl (lv_at hl 3 rfl) ?_
  refine lv_iconst (v := 3) hx hb dL_law_702 (by decide) ?_
  refine lv_iadd hx hb dL_law_703 ?_
  refine b_topi (w := nI (i + 3)) (nI_add i 3) ?_
  refine n_sld hx hb hS hbl hB (show i + 3 < N by omega) hN dL_law_704 ?_
  refine m_callV (C := RX8) (T := TX8) (N := 12) (ci := 8) (r := 0) (As := [.int (xs (i + 1)), .int (xs (i + 2)), .int (xs (i + 3))]) (rest := []) cx ⟨hx, hb, hml, hown, htsL⟩ (cwV 3 htsL gL_law_X8_times rfl rfl rfl (by decide +kernel) ⟨Nat.le_of_ble_eq_true rfl, Nat.le_of_ble_eq_true rfl⟩) hB (hX.1.1 0 (by decide)) hX.1.2 rfl rfl hl.1 rfl (Nat.le_of_ble_eq_true rfl) dL_law_705 ⟨by show cells + mc ≤ 600000; omega, by show slots + ms ≤ 7302250; omega⟩ (fun v1 L1 ad1 g1 H locs hp hB => ?_)
  obtain ⟨e1, e2, e3, hX1, hM1⟩ := hp
  refine W.eq (g2 := F0 m 708 ls [.int v9]) (by rw [e1]; rfl) ?_
  refine lv_aload_n hx hb dL_law_708 rfl (lv_at hl 2 rfl) ?_
  refine W.eq (g2 := F0 m 709 ls [.ref (ad1 1000), .int v9]) (by rw [e3]) ?_
  refine lv_aload_n hx hb dL_law_709 rfl (lv_at hl 0 rfl) ?_
  refine lv_iload_n hx hb dL_law_710 rfl (lv_at hl 3 rfl) ?_
  refine lv_iconst (v := 1) hx hb dL_law_711 (by decide) ?_
  refine lv_iadd hx hb dL_law_712 ?_
  refine b_topi (w := nI (i + 1)) (nI_add i 1) ?_
  refine n_sld hx hb hS hbl hB (show i + 1 < N by omega) hN dL_law_713 ?_
  refine lv_aload_n hx hb dL_law_714 rfl (lv_at hl 0 rfl) ?_
  refine lv_iload_n hx hb dL_law_715 rfl (lv_at hl 3 rfl) ?_
  refine lv_iconst (v := 2) hx hb dL_law_716 (by decide) ?_
  refine lv_iadd hx hb dL_law_717 ?_
  refine b_topi (w := nI (i + 2)) (nI_add i 2) ?_
  refine n_sld hx hb hS hbl hB (show i + 2 < N by omega) hN dL_law_718 ?_
  refine lv_aload_n hx hb dL_law_719 rfl (lv_at hl 0 rfl) ?_
  refine lv_iload_n hx hb dL_law_720 rfl (lv_at hl 3 rfl) ?_
  refine lv_iconst (v := 3) hx hb dL_law_721 (by decide) ?_
  refine lv_iadd hx hb dL_law_722 ?_
  refine b_topi (w := nI (i + 3)) (nI_add i 3) ?_
  refine n_sld hx hb hS hbl hB (show i + 3 < N by omega) hN dL_law_723 ?_
  refine m_callV (C := RX9) (T := TX9) (N := 33) (ci := 9) (r := 1000) (As := [.int (xs (i + 1)), .int (xs (i + 2)), .int (xs (i + 3))]) (rest := [.int v9]) (cm L1 ad1 g1 hX1 hM1) ⟨hx, hb, hml, hown, htsL⟩ (cwV 3 htsL gL_law_X9_times rfl rfl rfl (by decide +kernel) ⟨Nat.le_of_ble_eq_true rfl, Nat.le_of_ble_eq_true rfl⟩) hB (hM1.1 1000 (by decide)) hM1.2.1 rfl rfl hl.1 rfl (Nat.le_of_ble_eq_true rfl) dL_law_724 ⟨by show cells + mc + 0 ≤ 600000; omega, by show slots + ms + 0 ≤ 7302250; omega⟩ (fun v2 L2 ad2 g2 H locs hp hB => ?_)
  obtain ⟨e4, e5, e6, h31, mz1, hX2, hM2⟩ := hp
  refine W.eq (g2 := F0 m 727 ls [.int v9, .int v9]) (by rw [e4]; rfl) ?_
  refine b_icmp_eq_t 937 hx hb dL_law_727 (by decide) rfl ?_
  refine W.widen (k := cells + 6) (n := slots + 133) (by omega) (by omega) ?_
  exact kk L2 ad2 g2 H locs (va_up a1 31 h31) dn1 pn1 en1 qn1 mz1 nw1 lo1 tr1 hB (hP1.u31 h31) hX2 hM2 (e5.trans e2) (e6.trans e3)
set_option maxHeartbeats 4000000 in
set_option maxRecDepth 100000 in
theorem lc_ask {p : Program} {l : Launch} {e : Env} {s : State} {m : MethodId} {below : List Frame} {meth : Method} {c : Code} {b N : Nat} {xs : Nat → Int32} (C0 : lw_At p s m meth c b N xs) {D : va_G} {ty : Nat → ClassId} {L : List Nat} {ad : Nat → Nat} {g : Nat → va_E} {H : Heap} {locs : List Loc} {a : Nat → FI} {dn pn en qn mz : Nat} {nw lo : Int32} {tr : Int64} {k cells slots i : Nat} {Q : State → Prop} {ls : Array Slot} (hi : i + 5 ≤ N) (hN : N ≤ 2560) (hk : k < 1000) (hB : m_B D ty (fun q => s.heap.size ≤ q) s L ad g H locs) (hP : PI a dn pn en qn nw k) (hX : RX ty L ad g a dn pn en qn nw lo tr) (hM : RM ty L ad g a dn pn en qn mz nw lo tr) (hl : lv_has ls 4 [(0, .ref b), (1, .ref (ad 0)), (2, .ref (ad 1000)), (3, .int (nI i))]) (hc : cells + 6 ≤ 600000) (hsl : slots + 133 ≤ 7302250) (kk : lc_K p l e s m below meth c b D ty k cells slots (ad 0) (ad 1000) Q ls) : W p l e room_1 s m #[Value.ref b] below meth c H locs cells slots Q (F0 m 732 ls []) := by
  obtain ⟨hx, hb, hr, hml, hown, hts, hS, hbl, hlocks, hgv⟩ := id C0
  have htsL : ∀ w ∈ wsL_law, w.before #[Value.ref b] s = true := fun w h => hts w (wsL_law_in w h)
  obtain ⟨v9, a1, dn1, pn1, en1, qn1, nw1, lo1, tr1, mc, ms, h6, h133, hP1, cx, cm⟩ := s_ask l D ty (xs (i + 1)) (xs (i + 2)) (xs (i + 3)) hk hP hX hM
  refine lv_aload_n hx hb dL_law_732 rfl (lv_at hl 1 rfl) ?_
  refine lv_aload_n hx hb dL_law_733 rfl (lv_at hl 0 rfl) ?_
  refine lv_iload_n hx hb dL_law_734 rfl (lv_at hl 3 rfl) ?_
  refine lv_iconst (v := 1) hx hb dL_law_735 (by decide) ?_
  refine lv_iadd hx hb dL_law_736 ?_
  refine b_topi (w := nI (i + 1)) (nI_add i 1) ?_
  refine n_sld hx hb hS hbl hB (show i + 1 < N by omega) hN dL_law_737 ?_
  refine lv_aload_n hx hb dL_law_738 rfl (lv_at hl 0 rfl) ?_
  refine lv_iload_n hx hb dL_law_739 rfl (lv_at hl 3 rfl) ?_
  refine lv_iconst (v := 2) hx hb dL_law_740 (by decide) ?_
  refine lv_iadd hx hb dL_law_741 ?_
  refine b_topi (w := nI (i + 2)) (nI_add i 2) ?_
  refine n_sld hx hb hS hbl hB (show i + 2 < N by omega) hN dL_law_742 ?_
  refine lv_aload_n hx hb dL_law_743 rfl (lv_at hl 0 rfl) ?_
  refine lv_iload_n hx hb dL_law_744 rfl (lv_at hl 3 rfl) ?_
  refine lv_iconst (v := 3) hx hb dL_law_745 (by decide) ?_
  refine lv_iadd hx hb dL_law_746 ?_
  refine b_topi (w := nI (i + 3)) (nI_add i 3) ?_
  refine n_sld hx hb hS hbl hB (show i + 3 < N by omega) hN dL_law_747 ?_
  refine m_callV (C := RX8) (T := TX8) (N := 12) (ci := 8) (r := 0) (As := [.int (xs (i + 1)), .int (xs (i + 2)), .int (xs (i + 3))]) (rest := []) cx ⟨hx, hb, hml, hown, htsL⟩ (cwV 3 htsL gL_law_X8_ask rfl rfl rfl (by decide +kernel) ⟨Nat.le_of_ble_eq_true rfl, Nat.le_of_ble_eq_true rfl⟩) hB (hX.1.1 0 (by decide)) hX.1.2 rfl rfl hl.1 rfl (Nat.le_of_ble_eq_true rfl) dL_law_748 ⟨by show cells + mc ≤ 600000; omega, by show slots + ms ≤ 7302250; omega⟩ (fun v1 L1 ad1 g1 H locs hp hB => ?_)
  obtain ⟨e1, e2, e3, hX1, hM1⟩ := hp
  refine W.eq (g2 := F0 m 751 ls [.int v9]) (by rw [e1]; rfl) ?_
  refine lv_aload_n hx hb dL_law_751 rfl (lv_at hl 2 rfl) ?_
  refine W.eq (g2 := F0 m 752 ls [.ref (ad1 1000), .int v9]) (by rw [e3]) ?_
  refine lv_aload_n hx hb dL_law_752 rfl (lv_at hl 0 rfl) ?_
  refine lv_iload_n hx hb dL_law_753 rfl (lv_at hl 3 rfl) ?_
  refine lv_iconst (v := 1) hx hb dL_law_754 (by decide) ?_
  refine lv_iadd hx hb dL_law_755 ?_
  refine b_topi (w := nI (i + 1)) (nI_add i 1) ?_
  refine n_sld hx hb hS hbl hB (show i + 1 < N by omega) hN dL_law_756 ?_
  refine lv_aload_n hx hb dL_law_757 rfl (lv_at hl 0 rfl) ?_
  refine lv_iload_n hx hb dL_law_758 rfl (lv_at hl 3 rfl) ?_
  refine lv_iconst (v := 2) hx hb dL_law_759 (by decide) ?_
  refine lv_iadd hx hb dL_law_760 ?_
  refine b_topi (w := nI (i + 2)) (nI_add i 2) ?_
  refine n_sld hx hb hS hbl hB (show i + 2 < N by omega) hN dL_law_761 ?_
  refine lv_aload_n hx hb dL_law_762 rfl (lv_at hl 0 rfl) ?_
  refine lv_iload_n hx hb dL_law_763 rfl (lv_at hl 3 rfl) ?_
  refine lv_iconst (v := 3) hx hb dL_law_764 (by decide) ?_
  refine lv_iadd hx hb dL_law_765 ?_
  refine b_topi (w := nI (i + 3)) (nI_add i 3) ?_
  refine n_sld hx hb hS hbl hB (show i + 3 < N by omega) hN dL_law_766 ?_
  refine m_callV (C := RX9) (T := TX9) (N := 33) (ci := 9) (r := 1000) (As := [.int (xs (i + 1)), .int (xs (i + 2)), .int (xs (i + 3))]) (rest := [.int v9]) (cm L1 ad1 g1 hX1 hM1) ⟨hx, hb, hml, hown, htsL⟩ (cwV 3 htsL gL_law_X9_ask rfl rfl rfl (by decide +kernel) ⟨Nat.le_of_ble_eq_true rfl, Nat.le_of_ble_eq_true rfl⟩) hB (hM1.1 1000 (by decide)) hM1.2.1 rfl rfl hl.1 rfl (Nat.le_of_ble_eq_true rfl) dL_law_767 ⟨by show cells + mc + 0 ≤ 600000; omega, by show slots + ms + 0 ≤ 7302250; omega⟩ (fun v2 L2 ad2 g2 H locs hp hB => ?_)
  obtain ⟨e4, e5, e6, h31, mz1, hX2, hM2⟩ := hp
  refine W.eq (g2 := F0 m 770 ls [.int v9, .int v9]) (by rw [e4]; rfl) ?_
  refine b_icmp_eq_t 937 hx hb dL_law_770 (by decide) rfl ?_
  refine W.widen (k := cells + 6) (n := slots + 133) (by omega) (by omega) ?_
  exact kk L2 ad2 g2 H locs (va_up a1 31 h31) dn1 pn1 en1 qn1 mz1 nw1 lo1 tr1 hB (hP1.u31 h31) hX2 hM2 (e5.trans e2) (e6.trans e3)
set_option maxHeartbeats 4000000 in
set_option maxRecDepth 100000 in
theorem lc_answer {p : Program} {l : Launch} {e : Env} {s : State} {m : MethodId} {below : List Frame} {meth : Method} {c : Code} {b N : Nat} {xs : Nat → Int32} (C0 : lw_At p s m meth c b N xs) {D : va_G} {ty : Nat → ClassId} {L : List Nat} {ad : Nat → Nat} {g : Nat → va_E} {H : Heap} {locs : List Loc} {a : Nat → FI} {dn pn en qn mz : Nat} {nw lo : Int32} {tr : Int64} {k cells slots i : Nat} {Q : State → Prop} {ls : Array Slot} (hi : i + 5 ≤ N) (hN : N ≤ 2560) (hk : k < 1000) (hB : m_B D ty (fun q => s.heap.size ≤ q) s L ad g H locs) (hP : PI a dn pn en qn nw k) (hX : RX ty L ad g a dn pn en qn nw lo tr) (hM : RM ty L ad g a dn pn en qn mz nw lo tr) (hl : lv_has ls 4 [(0, .ref b), (1, .ref (ad 0)), (2, .ref (ad 1000)), (3, .int (nI i))]) (hc : cells + 6 ≤ 600000) (hsl : slots + 133 ≤ 7302250) (kk : lc_K p l e s m below meth c b D ty k cells slots (ad 0) (ad 1000) Q ls) : W p l e room_1 s m #[Value.ref b] below meth c H locs cells slots Q (F0 m 775 ls []) := by
  obtain ⟨hx, hb, hr, hml, hown, hts, hS, hbl, hlocks, hgv⟩ := id C0
  have htsL : ∀ w ∈ wsL_law, w.before #[Value.ref b] s = true := fun w h => hts w (wsL_law_in w h)
  by_cases hz : (xs (i + 3)).toInt = 0
  · skip
    obtain ⟨v9, a1, dn1, pn1, en1, qn1, nw1, lo1, tr1, mc, ms, h6, h133, hP1, cx, cm⟩ := s_answer l D ty (xs (i + 1)) (xs (i + 2)) 0 (Or.inl rfl) hk hP hX hM
    refine lv_aload_n hx hb dL_law_775 rfl (lv_at hl 1 rfl) ?_
    refine lv_aload_n hx hb dL_law_776 rfl (lv_at hl 0 rfl) ?_
    refine lv_iload_n hx hb dL_law_777 rfl (lv_at hl 3 rfl) ?_
    refine lv_iconst (v := 1) hx hb dL_law_778 (by decide) ?_
    refine lv_iadd hx hb dL_law_779 ?_
    refine b_topi (w := nI (i + 1)) (nI_add i 1) ?_
    refine n_sld hx hb hS hbl hB (show i + 1 < N by omega) hN dL_law_780 ?_
    refine lv_aload_n hx hb dL_law_781 rfl (lv_at hl 0 rfl) ?_
    refine lv_iload_n hx hb dL_law_782 rfl (lv_at hl 3 rfl) ?_
    refine lv_iconst (v := 2) hx hb dL_law_783 (by decide) ?_
    refine lv_iadd hx hb dL_law_784 ?_
    refine b_topi (w := nI (i + 2)) (nI_add i 2) ?_
    refine n_sld hx hb hS hbl hB (show i + 2 < N by omega) hN dL_law_785 ?_
    refine lv_aload_n hx hb dL_law_786 rfl (lv_at hl 0 rfl) ?_
    refine lv_iload_n hx hb dL_law_787 rfl (lv_at hl 3 rfl) ?_
    refine lv_iconst (v := 3) hx hb dL_law_788 (by decide) ?_
    refine lv_iadd hx hb dL_law_789 ?_
    refine b_topi (w := nI (i + 3)) (nI_add i 3) ?_
    refine n_sld hx hb hS hbl hB (show i + 3 < N by omega) hN dL_law_790 ?_
    refine b_if_eq_t 798 hx hb dL_law_791 (by decide) hz ?_
    refine lv_iconst (v := 0) hx hb dL_law_798 (by decide) ?_
    refine m_callV (C := RX8) (T := TX8) (N := 12) (ci := 8) (r := 0) (As := [.int (xs (i + 1)), .int (xs (i + 2)), .int 0]) (rest := []) cx ⟨hx, hb, hml, hown, htsL⟩ (cwV 3 htsL gL_law_X8_answer rfl rfl rfl (by decide +kernel) ⟨Nat.le_of_ble_eq_true rfl, Nat.le_of_ble_eq_true rfl⟩) hB (hX.1.1 0 (by decide)) hX.1.2 rfl rfl hl.1 rfl (Nat.le_of_ble_eq_true rfl) dL_law_799 ⟨by show cells + mc ≤ 600000; omega, by show slots + ms ≤ 7302250; omega⟩ (fun v1 L1 ad1 g1 H locs hp hB => ?_)
    obtain ⟨e1, e2, e3, hX1, hM1⟩ := hp
    refine W.eq (g2 := F0 m 802 ls [.int v9]) (by rw [e1]; rfl) ?_
    refine lv_aload_n hx hb dL_law_802 rfl (lv_at hl 2 rfl) ?_
    refine W.eq (g2 := F0 m 803 ls [.ref (ad1 1000), .int v9]) (by rw [e3]) ?_
    refine lv_aload_n hx hb dL_law_803 rfl (lv_at hl 0 rfl) ?_
    refine lv_iload_n hx hb dL_law_804 rfl (lv_at hl 3 rfl) ?_
    refine lv_iconst (v := 1) hx hb dL_law_805 (by decide) ?_
    refine lv_iadd hx hb dL_law_806 ?_
    refine b_topi (w := nI (i + 1)) (nI_add i 1) ?_
    refine n_sld hx hb hS hbl hB (show i + 1 < N by omega) hN dL_law_807 ?_
    refine lv_aload_n hx hb dL_law_808 rfl (lv_at hl 0 rfl) ?_
    refine lv_iload_n hx hb dL_law_809 rfl (lv_at hl 3 rfl) ?_
    refine lv_iconst (v := 2) hx hb dL_law_810 (by decide) ?_
    refine lv_iadd hx hb dL_law_811 ?_
    refine b_topi (w := nI (i + 2)) (nI_add i 2) ?_
    refine n_sld hx hb hS hbl hB (show i + 2 < N by omega) hN dL_law_812 ?_
    refine lv_aload_n hx hb dL_law_813 rfl (lv_at hl 0 rfl) ?_
    refine lv_iload_n hx hb dL_law_814 rfl (lv_at hl 3 rfl) ?_
    refine lv_iconst (v := 3) hx hb dL_law_815 (by decide) ?_
    refine lv_iadd hx hb dL_law_816 ?_
    refine b_topi (w := nI (i + 3)) (nI_add i 3) ?_
    refine n_sld hx hb hS hbl hB (show i + 3 < N by omega) hN dL_law_817 ?_
    refine b_if_eq_t 825 hx hb dL_law_818 (by decide) hz ?_
    refine lv_iconst (v := 0) hx hb dL_law_825 (by decide) ?_
    refine m_callV (C := RX9) (T := TX9) (N := 33) (ci := 9) (r := 1000) (As := [.int (xs (i + 1)), .int (xs (i + 2)), .int 0]) (rest := [.int v9]) (cm L1 ad1 g1 hX1 hM1) ⟨hx, hb, hml, hown, htsL⟩ (cwV 3 htsL gL_law_X9_answer rfl rfl rfl (by decide +kernel) ⟨Nat.le_of_ble_eq_true rfl, Nat.le_of_ble_eq_true rfl⟩) hB (hM1.1 1000 (by decide)) hM1.2.1 rfl rfl hl.1 rfl (Nat.le_of_ble_eq_true rfl) dL_law_826 ⟨by show cells + mc + 0 ≤ 600000; omega, by show slots + ms + 0 ≤ 7302250; omega⟩ (fun v2 L2 ad2 g2 H locs hp hB => ?_)
    obtain ⟨e4, e5, e6, h31, mz1, hX2, hM2⟩ := hp
    refine W.eq (g2 := F0 m 829 ls [.int v9, .int v9]) (by rw [e4]; rfl) ?_
    refine b_icmp_eq_t 937 hx hb dL_law_829 (by decide) rfl ?_
    refine W.widen (k := cells + 6) (n := slots + 133) (by omega) (by omega) ?_
    exact kk L2 ad2 g2 H locs (va_up a1 31 h31) dn1 pn1 en1 qn1 mz1 nw1 lo1 tr1 hB (hP1.u31 h31) hX2 hM2 (e5.trans e2) (e6.trans e3)
  · skip
    obtain ⟨v9, a1, dn1, pn1, en1, qn1, nw1, lo1, tr1, mc, ms, h6, h133, hP1, cx, cm⟩ := s_answer l D ty (xs (i + 1)) (xs (i + 2)) 1 (Or.inr rfl) hk hP hX hM
    refine lv_aload_n hx hb dL_law_775 rfl (lv_at hl 1 rfl) ?_
    refine lv_aload_n hx hb dL_law_776 rfl (lv_at hl 0 rfl) ?_
    refine lv_iload_n hx hb dL_law_777 rfl (lv_at hl 3 rfl) ?_
    refine lv_iconst (v := 1) hx hb dL_law_778 (by decide) ?_
    refine lv_iadd hx hb dL_law_779 ?_
    refine b_topi (w := nI (i + 1)) (nI_add i 1) ?_
    refine n_sld hx hb hS hbl hB (show i + 1 < N by omega) hN dL_law_780 ?_
    refine lv_aload_n hx hb dL_law_781 rfl (lv_at hl 0 rfl) ?_
    refine lv_iload_n hx hb dL_law_782 rfl (lv_at hl 3 rfl) ?_
    refine lv_iconst (v := 2) hx hb dL_law_783 (by decide) ?_
    refine lv_iadd hx hb dL_law_784 ?_
    refine b_topi (w := nI (i + 2)) (nI_add i 2) ?_
    refine n_sld hx hb hS hbl hB (show i + 2 < N by omega) hN dL_law_785 ?_
    refine lv_aload_n hx hb dL_law_786 rfl (lv_at hl 0 rfl) ?_
    refine lv_iload_n hx hb dL_law_787 rfl (lv_at hl 3 rfl) ?_
    refine lv_iconst (v := 3) hx hb dL_law_788 (by decide) ?_
    refine lv_iadd hx hb dL_law_789 ?_
    refine b_topi (w := nI (i + 3)) (nI_add i 3) ?_
    refine n_sld hx hb hS hbl hB (show i + 3 < N by omega) hN dL_law_790 ?_
    refine b_if_eq_f 798 hx hb dL_law_791 (by decide) hz ?_
    refine lv_iconst (v := 1) hx hb dL_law_794 (by decide) ?_
    refine lv_goto (tgt := 799) hx hb dL_law_795 (by decide) ?_
    refine m_callV (C := RX8) (T := TX8) (N := 12) (ci := 8) (r := 0) (As := [.int (xs (i + 1)), .int (xs (i + 2)), .int 1]) (rest := []) cx ⟨hx, hb, hml, hown, htsL⟩ (cwV 3 htsL gL_law_X8_answer rfl rfl rfl (by decide +kernel) ⟨Nat.le_of_ble_eq_true rfl, Nat.le_of_ble_eq_true rfl⟩) hB (hX.1.1 0 (by decide)) hX.1.2 rfl rfl hl.1 rfl (Nat.le_of_ble_eq_true rfl) dL_law_799 ⟨by show cells + mc ≤ 600000; omega, by show slots + ms ≤ 7302250; omega⟩ (fun v1 L1 ad1 g1 H locs hp hB => ?_)
    obtain ⟨e1, e2, e3, hX1, hM1⟩ := hp
    refine W.eq (g2 := F0 m 802 ls [.int v9]) (by rw [e1]; rfl) ?_
    refine lv_aload_n hx hb dL_law_802 rfl (lv_at hl 2 rfl) ?_
    refine W.eq (g2 := F0 m 803 ls [.ref (ad1 1000), .int v9]) (by rw [e3]) ?_
    refine lv_aload_n hx hb dL_law_803 rfl (lv_at hl 0 rfl) ?_
    refine lv_iload_n hx hb dL_law_804 rfl (lv_at hl 3 rfl) ?_
    refine lv_iconst (v := 1) hx hb dL_law_805 (by decide) ?_
    refine lv_iadd hx hb dL_law_806 ?_
    refine b_topi (w := nI (i + 1)) (nI_add i 1) ?_
    refine n_sld hx hb hS hbl hB (show i + 1 < N by omega) hN dL_law_807 ?_
    refine lv_aload_n hx hb dL_law_808 rfl (lv_at hl 0 rfl) ?_
    refine lv_iload_n hx hb dL_law_809 rfl (lv_at hl 3 rfl) ?_
    refine lv_iconst (v := 2) hx hb dL_law_810 (by decide) ?_
    refine lv_iadd hx hb dL_law_811 ?_
    refine b_topi (w := nI (i + 2)) (nI_add i 2) ?_
    refine n_sld hx hb hS hbl hB (show i + 2 < N by omega) hN dL_law_812 ?_
    refine lv_aload_n hx hb dL_law_813 rfl (lv_at hl 0 rfl) ?_
    refine lv_iload_n hx hb dL_law_814 rfl (lv_at hl 3 rfl) ?_
    refine lv_iconst (v := 3) hx hb dL_law_815 (by decide) ?_
    refine lv_iadd hx hb dL_law_816 ?_
    refine b_topi (w := nI (i + 3)) (nI_add i 3) ?_
    refine n_sld hx hb hS hbl hB (show i + 3 < N by omega) hN dL_law_817 ?_
    refine b_if_eq_f 825 hx hb dL_law_818 (by decide) hz ?_
    refine lv_iconst (v := 1) hx hb dL_law_821 (by decide) ?_
    refine lv_goto (tgt := 826) hx hb dL_law_822 (by decide) ?_
    refine m_callV (C := RX9) (T := TX9) (N := 33) (ci := 9) (r := 1000) (As := [.int (xs (i + 1)), .int (xs (i + 2)), .int 1]) (rest := [.int v9]) (cm L1 ad1 g1 hX1 hM1) ⟨hx, hb, hml, hown, htsL⟩ (cwV 3 htsL gL_law_X9_answer rfl rfl rfl (by decide +kernel) ⟨Nat.le_of_ble_eq_true rfl, Nat.le_of_ble_eq_true rfl⟩) hB (hM1.1 1000 (by decide)) hM1.2.1 rfl rfl hl.1 rfl (Nat.le_of_ble_eq_true rfl) dL_law_826 ⟨by show cells + mc + 0 ≤ 600000; omega, by show slots + ms + 0 ≤ 7302250; omega⟩ (fun v2 L2 ad2 g2 H locs hp hB => ?_)
    obtain ⟨e4, e5, e6, h31, mz1, hX2, hM2⟩ := hp
    refine W.eq (g2 := F0 m 829 ls [.int v9, .int v9]) (by rw [e4]; rfl) ?_
    refine b_icmp_eq_t 937 hx hb dL_law_829 (by decide) rfl ?_
    refine W.widen (k := cells + 6) (n := slots + 133) (by omega) (by omega) ?_
    exact kk L2 ad2 g2 H locs (va_up a1 31 h31) dn1 pn1 en1 qn1 mz1 nw1 lo1 tr1 hB (hP1.u31 h31) hX2 hM2 (e5.trans e2) (e6.trans e3)
set_option maxHeartbeats 4000000 in
set_option maxRecDepth 100000 in
theorem lc_hear {p : Program} {l : Launch} {e : Env} {s : State} {m : MethodId} {below : List Frame} {meth : Method} {c : Code} {b N : Nat} {xs : Nat → Int32} (C0 : lw_At p s m meth c b N xs) {D : va_G} {ty : Nat → ClassId} {L : List Nat} {ad : Nat → Nat} {g : Nat → va_E} {H : Heap} {locs : List Loc} {a : Nat → FI} {dn pn en qn mz : Nat} {nw lo : Int32} {tr : Int64} {k cells slots i : Nat} {Q : State → Prop} {ls : Array Slot} (hi : i + 5 ≤ N) (hN : N ≤ 2560) (hk : k < 1000) (hB : m_B D ty (fun q => s.heap.size ≤ q) s L ad g H locs) (hP : PI a dn pn en qn nw k) (hX : RX ty L ad g a dn pn en qn nw lo tr) (hM : RM ty L ad g a dn pn en qn mz nw lo tr) (hl : lv_has ls 4 [(0, .ref b), (1, .ref (ad 0)), (2, .ref (ad 1000)), (3, .int (nI i))]) (hc : cells + 6 ≤ 600000) (hsl : slots + 133 ≤ 7302250) (kk : lc_K p l e s m below meth c b D ty k cells slots (ad 0) (ad 1000) Q ls) : W p l e room_1 s m #[Value.ref b] below meth c H locs cells slots Q (F0 m 834 ls []) := by
  obtain ⟨hx, hb, hr, hml, hown, hts, hS, hbl, hlocks, hgv⟩ := id C0
  have htsL : ∀ w ∈ wsL_law, w.before #[Value.ref b] s = true := fun w h => hts w (wsL_law_in w h)
  obtain ⟨v9, a1, dn1, pn1, en1, qn1, nw1, lo1, tr1, mc, ms, h6, h133, hP1, cx, cm⟩ := s_hear l D ty (xs (i + 1)) (xs (i + 2)) hk hP hX hM
  refine lv_aload_n hx hb dL_law_834 rfl (lv_at hl 1 rfl) ?_
  refine lv_aload_n hx hb dL_law_835 rfl (lv_at hl 0 rfl) ?_
  refine lv_iload_n hx hb dL_law_836 rfl (lv_at hl 3 rfl) ?_
  refine lv_iconst (v := 1) hx hb dL_law_837 (by decide) ?_
  refine lv_iadd hx hb dL_law_838 ?_
  refine b_topi (w := nI (i + 1)) (nI_add i 1) ?_
  refine n_sld hx hb hS hbl hB (show i + 1 < N by omega) hN dL_law_839 ?_
  refine lv_aload_n hx hb dL_law_840 rfl (lv_at hl 0 rfl) ?_
  refine lv_iload_n hx hb dL_law_841 rfl (lv_at hl 3 rfl) ?_
  refine lv_iconst (v := 2) hx hb dL_law_842 (by decide) ?_
  refine lv_iadd hx hb dL_law_843 ?_
  refine b_topi (w := nI (i + 2)) (nI_add i 2) ?_
  refine n_sld hx hb hS hbl hB (show i + 2 < N by omega) hN dL_law_844 ?_
  refine m_callV (C := RX8) (T := TX8) (N := 12) (ci := 8) (r := 0) (As := [.int (xs (i + 1)), .int (xs (i + 2))]) (rest := []) cx ⟨hx, hb, hml, hown, htsL⟩ (cwV 2 htsL gL_law_X8_hear rfl rfl rfl (by decide +kernel) ⟨Nat.le_of_ble_eq_true rfl, Nat.le_of_ble_eq_true rfl⟩) hB (hX.1.1 0 (by decide)) hX.1.2 rfl rfl hl.1 rfl (Nat.le_of_ble_eq_true rfl) dL_law_845 ⟨by show cells + mc ≤ 600000; omega, by show slots + ms ≤ 7302250; omega⟩ (fun v1 L1 ad1 g1 H locs hp hB => ?_)
  obtain ⟨e1, e2, e3, hX1, hM1⟩ := hp
  refine W.eq (g2 := F0 m 848 ls [.int v9]) (by rw [e1]; rfl) ?_
  refine lv_aload_n hx hb dL_law_848 rfl (lv_at hl 2 rfl) ?_
  refine W.eq (g2 := F0 m 849 ls [.ref (ad1 1000), .int v9]) (by rw [e3]) ?_
  refine lv_aload_n hx hb dL_law_849 rfl (lv_at hl 0 rfl) ?_
  refine lv_iload_n hx hb dL_law_850 rfl (lv_at hl 3 rfl) ?_
  refine lv_iconst (v := 1) hx hb dL_law_851 (by decide) ?_
  refine lv_iadd hx hb dL_law_852 ?_
  refine b_topi (w := nI (i + 1)) (nI_add i 1) ?_
  refine n_sld hx hb hS hbl hB (show i + 1 < N by omega) hN dL_law_853 ?_
  refine lv_aload_n hx hb dL_law_854 rfl (lv_at hl 0 rfl) ?_
  refine lv_iload_n hx hb dL_law_855 rfl (lv_at hl 3 rfl) ?_
  refine lv_iconst (v := 2) hx hb dL_law_856 (by decide) ?_
  refine lv_iadd hx hb dL_law_857 ?_
  refine b_topi (w := nI (i + 2)) (nI_add i 2) ?_
  refine n_sld hx hb hS hbl hB (show i + 2 < N by omega) hN dL_law_858 ?_
  refine m_callV (C := RX9) (T := TX9) (N := 33) (ci := 9) (r := 1000) (As := [.int (xs (i + 1)), .int (xs (i + 2))]) (rest := [.int v9]) (cm L1 ad1 g1 hX1 hM1) ⟨hx, hb, hml, hown, htsL⟩ (cwV 2 htsL gL_law_X9_hear rfl rfl rfl (by decide +kernel) ⟨Nat.le_of_ble_eq_true rfl, Nat.le_of_ble_eq_true rfl⟩) hB (hM1.1 1000 (by decide)) hM1.2.1 rfl rfl hl.1 rfl (Nat.le_of_ble_eq_true rfl) dL_law_859 ⟨by show cells + mc + 0 ≤ 600000; omega, by show slots + ms + 0 ≤ 7302250; omega⟩ (fun v2 L2 ad2 g2 H locs hp hB => ?_)
  obtain ⟨e4, e5, e6, h31, mz1, hX2, hM2⟩ := hp
  refine W.eq (g2 := F0 m 862 ls [.int v9, .int v9]) (by rw [e4]; rfl) ?_
  refine b_icmp_eq_t 937 hx hb dL_law_862 (by decide) rfl ?_
  refine W.widen (k := cells + 6) (n := slots + 133) (by omega) (by omega) ?_
  exact kk L2 ad2 g2 H locs (va_up a1 31 h31) dn1 pn1 en1 qn1 mz1 nw1 lo1 tr1 hB (hP1.u31 h31) hX2 hM2 (e5.trans e2) (e6.trans e3)
set_option maxHeartbeats 4000000 in
set_option maxRecDepth 100000 in
theorem lc_question {p : Program} {l : Launch} {e : Env} {s : State} {m : MethodId} {below : List Frame} {meth : Method} {c : Code} {b N : Nat} {xs : Nat → Int32} (C0 : lw_At p s m meth c b N xs) {D : va_G} {ty : Nat → ClassId} {L : List Nat} {ad : Nat → Nat} {g : Nat → va_E} {H : Heap} {locs : List Loc} {a : Nat → FI} {dn pn en qn mz : Nat} {nw lo : Int32} {tr : Int64} {k cells slots i : Nat} {Q : State → Prop} {ls : Array Slot} (hi : i + 5 ≤ N) (hN : N ≤ 2560) (hk : k < 1000) (hB : m_B D ty (fun q => s.heap.size ≤ q) s L ad g H locs) (hP : PI a dn pn en qn nw k) (hX : RX ty L ad g a dn pn en qn nw lo tr) (hM : RM ty L ad g a dn pn en qn mz nw lo tr) (hl : lv_has ls 4 [(0, .ref b), (1, .ref (ad 0)), (2, .ref (ad 1000)), (3, .int (nI i))]) (hc : cells + 6 ≤ 600000) (hsl : slots + 133 ≤ 7302250) (kk : lc_K p l e s m below meth c b D ty k cells slots (ad 0) (ad 1000) Q ls) : W p l e room_1 s m #[Value.ref b] below meth c H locs cells slots Q (F0 m 867 ls []) := by
  obtain ⟨hx, hb, hr, hml, hown, hts, hS, hbl, hlocks, hgv⟩ := id C0
  have htsL : ∀ w ∈ wsL_law, w.before #[Value.ref b] s = true := fun w h => hts w (wsL_law_in w h)
  obtain ⟨v9, a1, dn1, pn1, en1, qn1, nw1, lo1, tr1, mc, ms, h6, h133, hP1, cx, cm⟩ := s_question l D ty (xs (i + 1)) (xs (i + 2)) hk hP hX hM
  refine lv_aload_n hx hb dL_law_867 rfl (lv_at hl 1 rfl) ?_
  refine lv_aload_n hx hb dL_law_868 rfl (lv_at hl 0 rfl) ?_
  refine lv_iload_n hx hb dL_law_869 rfl (lv_at hl 3 rfl) ?_
  refine lv_iconst (v := 1) hx hb dL_law_870 (by decide) ?_
  refine lv_iadd hx hb dL_law_871 ?_
  refine b_topi (w := nI (i + 1)) (nI_add i 1) ?_
  refine n_sld hx hb hS hbl hB (show i + 1 < N by omega) hN dL_law_872 ?_
  refine lv_aload_n hx hb dL_law_873 rfl (lv_at hl 0 rfl) ?_
  refine lv_iload_n hx hb dL_law_874 rfl (lv_at hl 3 rfl) ?_
  refine lv_iconst (v := 2) hx hb dL_law_875 (by decide) ?_
  refine lv_iadd hx hb dL_law_876 ?_
  refine b_topi (w := nI (i + 2)) (nI_add i 2) ?_
  refine n_sld hx hb hS hbl hB (show i + 2 < N by omega) hN dL_law_877 ?_
  refine m_callV (C := RX8) (T := TX8) (N := 12) (ci := 8) (r := 0) (As := [.int (xs (i + 1)), .int (xs (i + 2))]) (rest := []) cx ⟨hx, hb, hml, hown, htsL⟩ (cwV 2 htsL gL_law_X8_question rfl rfl rfl (by decide +kernel) ⟨Nat.le_of_ble_eq_true rfl, Nat.le_of_ble_eq_true rfl⟩) hB (hX.1.1 0 (by decide)) hX.1.2 rfl rfl hl.1 rfl (Nat.le_of_ble_eq_true rfl) dL_law_878 ⟨by show cells + mc ≤ 600000; omega, by show slots + ms ≤ 7302250; omega⟩ (fun v1 L1 ad1 g1 H locs hp hB => ?_)
  obtain ⟨e1, e2, e3, hX1, hM1⟩ := hp
  refine W.eq (g2 := F0 m 881 ls [.int v9]) (by rw [e1]; rfl) ?_
  refine lv_aload_n hx hb dL_law_881 rfl (lv_at hl 2 rfl) ?_
  refine W.eq (g2 := F0 m 882 ls [.ref (ad1 1000), .int v9]) (by rw [e3]) ?_
  refine lv_aload_n hx hb dL_law_882 rfl (lv_at hl 0 rfl) ?_
  refine lv_iload_n hx hb dL_law_883 rfl (lv_at hl 3 rfl) ?_
  refine lv_iconst (v := 1) hx hb dL_law_884 (by decide) ?_
  refine lv_iadd hx hb dL_law_885 ?_
  refine b_topi (w := nI (i + 1)) (nI_add i 1) ?_
  refine n_sld hx hb hS hbl hB (show i + 1 < N by omega) hN dL_law_886 ?_
  refine lv_aload_n hx hb dL_law_887 rfl (lv_at hl 0 rfl) ?_
  refine lv_iload_n hx hb dL_law_888 rfl (lv_at hl 3 rfl) ?_
  refine lv_iconst (v := 2) hx hb dL_law_889 (by decide) ?_
  refine lv_iadd hx hb dL_law_890 ?_
  refine b_topi (w := nI (i + 2)) (nI_add i 2) ?_
  refine n_sld hx hb hS hbl hB (show i + 2 < N by omega) hN dL_law_891 ?_
  refine m_callV (C := RX9) (T := TX9) (N := 33) (ci := 9) (r := 1000) (As := [.int (xs (i + 1)), .int (xs (i + 2))]) (rest := [.int v9]) (cm L1 ad1 g1 hX1 hM1) ⟨hx, hb, hml, hown, htsL⟩ (cwV 2 htsL gL_law_X9_question rfl rfl rfl (by decide +kernel) ⟨Nat.le_of_ble_eq_true rfl, Nat.le_of_ble_eq_true rfl⟩) hB (hM1.1 1000 (by decide)) hM1.2.1 rfl rfl hl.1 rfl (Nat.le_of_ble_eq_true rfl) dL_law_892 ⟨by show cells + mc + 0 ≤ 600000; omega, by show slots + ms + 0 ≤ 7302250; omega⟩ (fun v2 L2 ad2 g2 H locs hp hB => ?_)
  obtain ⟨e4, e5, e6, h31, mz1, hX2, hM2⟩ := hp
  refine W.eq (g2 := F0 m 895 ls [.int v9, .int v9]) (by rw [e4]; rfl) ?_
  refine b_icmp_eq_t 937 hx hb dL_law_895 (by decide) rfl ?_
  refine W.widen (k := cells + 6) (n := slots + 133) (by omega) (by omega) ?_
  exact kk L2 ad2 g2 H locs (va_up a1 31 h31) dn1 pn1 en1 qn1 mz1 nw1 lo1 tr1 hB (hP1.u31 h31) hX2 hM2 (e5.trans e2) (e6.trans e3)
set_option maxHeartbeats 4000000 in
set_option maxRecDepth 100000 in
theorem lc_count {p : Program} {l : Launch} {e : Env} {s : State} {m : MethodId} {below : List Frame} {meth : Method} {c : Code} {b N : Nat} {xs : Nat → Int32} (C0 : lw_At p s m meth c b N xs) {D : va_G} {ty : Nat → ClassId} {L : List Nat} {ad : Nat → Nat} {g : Nat → va_E} {H : Heap} {locs : List Loc} {a : Nat → FI} {dn pn en qn mz : Nat} {nw lo : Int32} {tr : Int64} {k cells slots i : Nat} {Q : State → Prop} {ls : Array Slot} (hi : i + 5 ≤ N) (hN : N ≤ 2560) (hk : k < 1000) (hB : m_B D ty (fun q => s.heap.size ≤ q) s L ad g H locs) (hP : PI a dn pn en qn nw k) (hX : RX ty L ad g a dn pn en qn nw lo tr) (hM : RM ty L ad g a dn pn en qn mz nw lo tr) (hl : lv_has ls 4 [(0, .ref b), (1, .ref (ad 0)), (2, .ref (ad 1000)), (3, .int (nI i))]) (hc : cells + 6 ≤ 600000) (hsl : slots + 133 ≤ 7302250) (kk : lc_K p l e s m below meth c b D ty k cells slots (ad 0) (ad 1000) Q ls) : W p l e room_1 s m #[Value.ref b] below meth c H locs cells slots Q (F0 m 900 ls []) := by
  obtain ⟨hx, hb, hr, hml, hown, hts, hS, hbl, hlocks, hgv⟩ := id C0
  have htsL : ∀ w ∈ wsL_law, w.before #[Value.ref b] s = true := fun w h => hts w (wsL_law_in w h)
  obtain ⟨v9, a1, dn1, pn1, en1, qn1, nw1, lo1, tr1, mc, ms, h6, h133, hP1, cx, cm⟩ := s_count l D ty (xs (i + 1)) hk hP hX hM
  refine lv_aload_n hx hb dL_law_900 rfl (lv_at hl 1 rfl) ?_
  refine lv_aload_n hx hb dL_law_901 rfl (lv_at hl 0 rfl) ?_
  refine lv_iload_n hx hb dL_law_902 rfl (lv_at hl 3 rfl) ?_
  refine lv_iconst (v := 1) hx hb dL_law_903 (by decide) ?_
  refine lv_iadd hx hb dL_law_904 ?_
  refine b_topi (w := nI (i + 1)) (nI_add i 1) ?_
  refine n_sld hx hb hS hbl hB (show i + 1 < N by omega) hN dL_law_905 ?_
  refine m_callV (C := RX8) (T := TX8) (N := 12) (ci := 8) (r := 0) (As := [.int (xs (i + 1))]) (rest := []) cx ⟨hx, hb, hml, hown, htsL⟩ (cwV 1 htsL gL_law_X8_count rfl rfl rfl (by decide +kernel) ⟨Nat.le_of_ble_eq_true rfl, Nat.le_of_ble_eq_true rfl⟩) hB (hX.1.1 0 (by decide)) hX.1.2 rfl rfl hl.1 rfl (Nat.le_of_ble_eq_true rfl) dL_law_906 ⟨by show cells + mc ≤ 600000; omega, by show slots + ms ≤ 7302250; omega⟩ (fun v1 L1 ad1 g1 H locs hp hB => ?_)
  obtain ⟨e1, e2, e3, hX1, hM1⟩ := hp
  refine W.eq (g2 := F0 m 909 ls [.int v9]) (by rw [e1]; rfl) ?_
  refine lv_aload_n hx hb dL_law_909 rfl (lv_at hl 2 rfl) ?_
  refine W.eq (g2 := F0 m 910 ls [.ref (ad1 1000), .int v9]) (by rw [e3]) ?_
  refine lv_aload_n hx hb dL_law_910 rfl (lv_at hl 0 rfl) ?_
  refine lv_iload_n hx hb dL_law_911 rfl (lv_at hl 3 rfl) ?_
  refine lv_iconst (v := 1) hx hb dL_law_912 (by decide) ?_
  refine lv_iadd hx hb dL_law_913 ?_
  refine b_topi (w := nI (i + 1)) (nI_add i 1) ?_
  refine n_sld hx hb hS hbl hB (show i + 1 < N by omega) hN dL_law_914 ?_
  refine m_callV (C := RX9) (T := TX9) (N := 33) (ci := 9) (r := 1000) (As := [.int (xs (i + 1))]) (rest := [.int v9]) (cm L1 ad1 g1 hX1 hM1) ⟨hx, hb, hml, hown, htsL⟩ (cwV 1 htsL gL_law_X9_count rfl rfl rfl (by decide +kernel) ⟨Nat.le_of_ble_eq_true rfl, Nat.le_of_ble_eq_true rfl⟩) hB (hM1.1 1000 (by decide)) hM1.2.1 rfl rfl hl.1 rfl (Nat.le_of_ble_eq_true rfl) dL_law_915 ⟨by show cells + mc + 0 ≤ 600000; omega, by show slots + ms + 0 ≤ 7302250; omega⟩ (fun v2 L2 ad2 g2 H locs hp hB => ?_)
  obtain ⟨e4, e5, e6, h31, mz1, hX2, hM2⟩ := hp
  refine W.eq (g2 := F0 m 918 ls [.int v9, .int v9]) (by rw [e4]; rfl) ?_
  refine b_icmp_eq_t 937 hx hb dL_law_918 (by decide) rfl ?_
  refine W.widen (k := cells + 6) (n := slots + 133) (by omega) (by omega) ?_
  exact kk L2 ad2 g2 H locs (va_up a1 31 h31) dn1 pn1 en1 qn1 mz1 nw1 lo1 tr1 hB (hP1.u31 h31) hX2 hM2 (e5.trans e2) (e6.trans e3)
set_option maxHeartbeats 4000000 in
set_option maxRecDepth 100000 in
theorem lc_trace {p : Program} {l : Launch} {e : Env} {s : State} {m : MethodId} {below : List Frame} {meth : Method} {c : Code} {b N : Nat} {xs : Nat → Int32} (C0 : lw_At p s m meth c b N xs) {D : va_G} {ty : Nat → ClassId} {L : List Nat} {ad : Nat → Nat} {g : Nat → va_E} {H : Heap} {locs : List Loc} {a : Nat → FI} {dn pn en qn mz : Nat} {nw lo : Int32} {tr : Int64} {k cells slots i : Nat} {Q : State → Prop} {ls : Array Slot} (hi : i + 5 ≤ N) (hN : N ≤ 2560) (hk : k < 1000) (hB : m_B D ty (fun q => s.heap.size ≤ q) s L ad g H locs) (hP : PI a dn pn en qn nw k) (hX : RX ty L ad g a dn pn en qn nw lo tr) (hM : RM ty L ad g a dn pn en qn mz nw lo tr) (hl : lv_has ls 4 [(0, .ref b), (1, .ref (ad 0)), (2, .ref (ad 1000)), (3, .int (nI i))]) (hc : cells + 6 ≤ 600000) (hsl : slots + 133 ≤ 7302250) (kk : lc_K p l e s m below meth c b D ty k cells slots (ad 0) (ad 1000) Q ls) : W p l e room_1 s m #[Value.ref b] below meth c H locs cells slots Q (F0 m 923 ls []) := by
  obtain ⟨hx, hb, hr, hml, hown, hts, hS, hbl, hlocks, hgv⟩ := id C0
  have htsL : ∀ w ∈ wsL_law, w.before #[Value.ref b] s = true := fun w h => hts w (wsL_law_in w h)
  obtain ⟨v9, a1, dn1, pn1, en1, qn1, nw1, lo1, tr1, mc, ms, h6, h133, hP1, cx, cm⟩ := s_trace l D ty  hk hP hX hM
  refine lv_aload_n hx hb dL_law_923 rfl (lv_at hl 1 rfl) ?_
  refine m_callV (C := RX8) (T := TX8) (N := 12) (ci := 8) (r := 0) (As := []) (rest := []) cx ⟨hx, hb, hml, hown, htsL⟩ (cwV 0 htsL gL_law_X8_trace rfl rfl rfl (by decide +kernel) ⟨Nat.le_of_ble_eq_true rfl, Nat.le_of_ble_eq_true rfl⟩) hB (hX.1.1 0 (by decide)) hX.1.2 rfl rfl hl.1 rfl (Nat.le_of_ble_eq_true rfl) dL_law_924 ⟨by show cells + mc ≤ 600000; omega, by show slots + ms ≤ 7302250; omega⟩ (fun v1 L1 ad1 g1 H locs hp hB => ?_)
  obtain ⟨e1, e2, e3, hX1, hM1⟩ := hp
  refine W.eq (g2 := F0 m 927 ls [.long v9]) (by rw [e1]; rfl) ?_
  refine lv_aload_n hx hb dL_law_927 rfl (lv_at hl 2 rfl) ?_
  refine W.eq (g2 := F0 m 928 ls [.ref (ad1 1000), .long v9]) (by rw [e3]) ?_
  refine m_callV (C := RX9) (T := TX9) (N := 33) (ci := 9) (r := 1000) (As := []) (rest := [.long v9]) (cm L1 ad1 g1 hX1 hM1) ⟨hx, hb, hml, hown, htsL⟩ (cwV 0 htsL gL_law_X9_trace rfl rfl rfl (by decide +kernel) ⟨Nat.le_of_ble_eq_true rfl, Nat.le_of_ble_eq_true rfl⟩) hB (hM1.1 1000 (by decide)) hM1.2.1 rfl rfl hl.1 rfl (Nat.le_of_ble_eq_true rfl) dL_law_928 ⟨by show cells + mc + 0 ≤ 600000; omega, by show slots + ms + 0 ≤ 7302250; omega⟩ (fun v2 L2 ad2 g2 H locs hp hB => ?_)
  obtain ⟨e4, e5, e6, h31, mz1, hX2, hM2⟩ := hp
  refine W.eq (g2 := F0 m 931 ls [.long v9, .long v9]) (by rw [e4]; rfl) ?_
  refine W.lcmp hx hb dL_law_931 ?_
  refine b_if_eq_t 937 hx hb dL_law_932 (by decide) (lg_cmp_self v9) ?_
  refine W.widen (k := cells + 6) (n := slots + 133) (by omega) (by omega) ?_
  exact kk L2 ad2 g2 H locs (va_up a1 31 h31) dn1 pn1 en1 qn1 mz1 nw1 lo1 tr1 hB (hP1.u31 h31) hX2 hM2 (e5.trans e2) (e6.trans e3)
