/-! THE LAW'S CASES -/
set_option maxHeartbeats 4000000 in
set_option maxRecDepth 100000 in
theorem law_c0 {p : Program} {l : Launch} {e : Env} {s : State} {m : MethodId} {below : List Frame} {meth : Method} {c : Code} {b L : Nat} {xs : Nat → Int32} {G : gG} (hL : L ≤ 3072) (C0 : lw_At p s m meth c b L xs) (E : gEv p room_1 s m #[Value.ref b] c G (fun q : Nat => s.heap.size ≤ q) 11 code 4 20 84 4034) {i : Nat} {σ : gT} {H : Heap} {locs : List Loc} {ls : Array Slot} (hi : i + 6 ≤ L) (hR : gR σ) (hP : va_P G.2.2.1 gCl (gW G σ) H) (hS : va_S (fun q : Nat => s.heap.size ≤ q) s.heap H locs) (hl : lv_has ls 4 [(3, .int (nI i)), (2, .ref (G.1 10 0)), (1, .ref (G.1 9 0)), (0, .ref b)]) (kk : ∀ (σ2 : gT) (H2 : Heap) (locs2 : List Loc), gR σ2 → va_P G.2.2.1 gCl (gW G σ2) H2 → va_S (fun q : Nat => s.heap.size ≤ q) s.heap H2 locs2 → W p l e room_1 s m #[Value.ref b] below meth c H2 locs2 84 4034 (lw_Z below #[Value.ref b] s) (F0 m 1216 ls [])) : W p l e room_1 s m #[Value.ref b] below meth c H locs 84 4034 (lw_Z below #[Value.ref b] s) (F0 m 160 ls []) := by
  obtain ⟨hx, hb, hr, hml, hown, hts0, hX, hbl, hlocks, hgv⟩ := C0
  have hts := E.2.2.2.2.1
  have hbA : ¬ (fun q : Nat => s.heap.size ≤ q) b := Nat.not_le.mpr hbl
  have h1 : vp_in (nI i + 1) L := by rw [show nI i + 1 = nI (i + 1) from nI_add i 1]; exact vp_in_nI (by omega) (by omega)
  have h2 : vp_in (nI i + 2) L := by rw [show nI i + 2 = nI (i + 2) from nI_add i 2]; exact vp_in_nI (by omega) (by omega)
  have h3 : vp_in (nI i + 3) L := by rw [show nI i + 3 = nI (i + 3) from nI_add i 3]; exact vp_in_nI (by omega) (by omega)
  have h4 : vp_in (nI i + 4) L := by rw [show nI i + 4 = nI (i + 4) from nI_add i 4]; exact vp_in_nI (by omega) (by omega)
  have h5 : vp_in (nI i + 5) L := by rw [show nI i + 5 = nI (i + 5) from nI_add i 5]; exact vp_in_nI (by omega) (by omega)
  refine lv_aload_n hx hb dL_law_160 rfl (lv_at hl 2 rfl) ?_
  refine lv_aload_n hx hb dL_law_161 rfl (lv_at hl 3 rfl) ?_
  refine lv_iload_n hx hb dL_law_162 rfl (lv_at hl 0 rfl) ?_
  refine lv_iconst (v := 1) hx hb dL_law_163 (by decide) ?_
  refine lv_iadd hx hb dL_law_164 ?_
  refine va_sld hx hb hX hbl hbA hS h1 dL_law_165 ?_
  refine lv_aload_n hx hb dL_law_166 rfl (lv_at hl 3 rfl) ?_
  refine lv_iload_n hx hb dL_law_167 rfl (lv_at hl 0 rfl) ?_
  refine lv_iconst (v := 2) hx hb dL_law_168 (by decide) ?_
  refine lv_iadd hx hb dL_law_169 ?_
  refine va_sld hx hb hX hbl hbA hS h2 dL_law_170 ?_
  refine lv_aload_n hx hb dL_law_171 rfl (lv_at hl 3 rfl) ?_
  refine lv_iload_n hx hb dL_law_172 rfl (lv_at hl 0 rfl) ?_
  refine lv_iconst (v := 3) hx hb dL_law_173 (by decide) ?_
  refine lv_iadd hx hb dL_law_174 ?_
  refine va_sld hx hb hX hbl hbA hS h3 dL_law_175 ?_
  refine L_call (as := [.inl (xs (nI i + 1).toNatClampNeg), .inl (xs (nI i + 2).toNatClampNeg), .inl (xs (nI i + 3).toNatClampNeg)]) (f := 9) (rest := []) E dL_law_176 rfl (by decide) rfl rfl ⟨Nat.one_pos, trivial, trivial, trivial, trivial⟩ (KX9_sheet (l := l) (G := G) (A := (fun q : Nat => s.heap.size ≤ q)) (d := 17) (J_sheet (xs (nI i + 1).toNatClampNeg) (xs (nI i + 2).toNatClampNeg) (xs (nI i + 3).toNatClampNeg) hR)) (Nat.le_of_ble_eq_true rfl) hP hS hl.1 (fun r σ1 H locs hok hk hP hS => ?_)
  obtain ⟨v1, rfl, hk1⟩ := hk
  refine W.eq (g2 := F0 m 179 ls [.int v1]) rfl ?_
  refine lv_aload_n hx hb dL_law_179 rfl (lv_at hl 1 rfl) ?_
  refine lv_aload_n hx hb dL_law_180 rfl (lv_at hl 3 rfl) ?_
  refine lv_iload_n hx hb dL_law_181 rfl (lv_at hl 0 rfl) ?_
  refine lv_iconst (v := 1) hx hb dL_law_182 (by decide) ?_
  refine lv_iadd hx hb dL_law_183 ?_
  refine va_sld hx hb hX hbl hbA hS h1 dL_law_184 ?_
  refine lv_aload_n hx hb dL_law_185 rfl (lv_at hl 3 rfl) ?_
  refine lv_iload_n hx hb dL_law_186 rfl (lv_at hl 0 rfl) ?_
  refine lv_iconst (v := 2) hx hb dL_law_187 (by decide) ?_
  refine lv_iadd hx hb dL_law_188 ?_
  refine va_sld hx hb hX hbl hbA hS h2 dL_law_189 ?_
  refine lv_aload_n hx hb dL_law_190 rfl (lv_at hl 3 rfl) ?_
  refine lv_iload_n hx hb dL_law_191 rfl (lv_at hl 0 rfl) ?_
  refine lv_iconst (v := 3) hx hb dL_law_192 (by decide) ?_
  refine lv_iadd hx hb dL_law_193 ?_
  refine va_sld hx hb hX hbl hbA hS h3 dL_law_194 ?_
  refine L_call (as := [.inl (xs (nI i + 1).toNatClampNeg), .inl (xs (nI i + 2).toNatClampNeg), .inl (xs (nI i + 3).toNatClampNeg)]) (f := 10) (rest := [.int v1]) E dL_law_195 rfl (by decide) rfl rfl ⟨Nat.one_pos, trivial, trivial, trivial, trivial⟩ (KX10_sheet (l := l) (G := G) (A := (fun q : Nat => s.heap.size ≤ q)) (d := 17) hk1) (Nat.le_of_ble_eq_true rfl) hP hS hl.1 (fun r σ2 H locs hok hk hP hS => ?_)
  obtain ⟨v2, rfl, hk2⟩ := hk
  refine W.eq (g2 := F0 m 198 ls [.int v2, .int v1]) rfl ?_
  exact lv_icmp_eq (tgt := 1216) hx hb dL_law_198 (by decide) (fun _ => kk σ2 H locs hk2.2 hP hS) (fun c1 => absurd hk2.1 c1)
set_option maxHeartbeats 4000000 in
set_option maxRecDepth 100000 in
theorem law_c1 {p : Program} {l : Launch} {e : Env} {s : State} {m : MethodId} {below : List Frame} {meth : Method} {c : Code} {b L : Nat} {xs : Nat → Int32} {G : gG} (hL : L ≤ 3072) (C0 : lw_At p s m meth c b L xs) (E : gEv p room_1 s m #[Value.ref b] c G (fun q : Nat => s.heap.size ≤ q) 11 code 4 20 84 4034) {i : Nat} {σ : gT} {H : Heap} {locs : List Loc} {ls : Array Slot} (hi : i + 6 ≤ L) (hR : gR σ) (hP : va_P G.2.2.1 gCl (gW G σ) H) (hS : va_S (fun q : Nat => s.heap.size ≤ q) s.heap H locs) (hl : lv_has ls 4 [(3, .int (nI i)), (2, .ref (G.1 10 0)), (1, .ref (G.1 9 0)), (0, .ref b)]) (kk : ∀ (σ2 : gT) (H2 : Heap) (locs2 : List Loc), gR σ2 → va_P G.2.2.1 gCl (gW G σ2) H2 → va_S (fun q : Nat => s.heap.size ≤ q) s.heap H2 locs2 → W p l e room_1 s m #[Value.ref b] below meth c H2 locs2 84 4034 (lw_Z below #[Value.ref b] s) (F0 m 1216 ls [])) : W p l e room_1 s m #[Value.ref b] below meth c H locs 84 4034 (lw_Z below #[Value.ref b] s) (F0 m 203 ls []) := by
  obtain ⟨hx, hb, hr, hml, hown, hts0, hX, hbl, hlocks, hgv⟩ := C0
  have hts := E.2.2.2.2.1
  have hbA : ¬ (fun q : Nat => s.heap.size ≤ q) b := Nat.not_le.mpr hbl
  have h1 : vp_in (nI i + 1) L := by rw [show nI i + 1 = nI (i + 1) from nI_add i 1]; exact vp_in_nI (by omega) (by omega)
  have h2 : vp_in (nI i + 2) L := by rw [show nI i + 2 = nI (i + 2) from nI_add i 2]; exact vp_in_nI (by omega) (by omega)
  have h3 : vp_in (nI i + 3) L := by rw [show nI i + 3 = nI (i + 3) from nI_add i 3]; exact vp_in_nI (by omega) (by omega)
  have h4 : vp_in (nI i + 4) L := by rw [show nI i + 4 = nI (i + 4) from nI_add i 4]; exact vp_in_nI (by omega) (by omega)
  have h5 : vp_in (nI i + 5) L := by rw [show nI i + 5 = nI (i + 5) from nI_add i 5]; exact vp_in_nI (by omega) (by omega)
  refine lv_aload_n hx hb dL_law_203 rfl (lv_at hl 2 rfl) ?_
  refine lv_aload_n hx hb dL_law_204 rfl (lv_at hl 3 rfl) ?_
  refine lv_iload_n hx hb dL_law_205 rfl (lv_at hl 0 rfl) ?_
  refine lv_iconst (v := 1) hx hb dL_law_206 (by decide) ?_
  refine lv_iadd hx hb dL_law_207 ?_
  refine va_sld hx hb hX hbl hbA hS h1 dL_law_208 ?_
  refine lv_aload_n hx hb dL_law_209 rfl (lv_at hl 3 rfl) ?_
  refine lv_iload_n hx hb dL_law_210 rfl (lv_at hl 0 rfl) ?_
  refine lv_iconst (v := 2) hx hb dL_law_211 (by decide) ?_
  refine lv_iadd hx hb dL_law_212 ?_
  refine va_sld hx hb hX hbl hbA hS h2 dL_law_213 ?_
  refine lv_aload_n hx hb dL_law_214 rfl (lv_at hl 3 rfl) ?_
  refine lv_iload_n hx hb dL_law_215 rfl (lv_at hl 0 rfl) ?_
  refine lv_iconst (v := 3) hx hb dL_law_216 (by decide) ?_
  refine lv_iadd hx hb dL_law_217 ?_
  refine va_sld hx hb hX hbl hbA hS h3 dL_law_218 ?_
  refine L_call (as := [.inl (xs (nI i + 1).toNatClampNeg), .inl (xs (nI i + 2).toNatClampNeg), .inl (xs (nI i + 3).toNatClampNeg)]) (f := 9) (rest := []) E dL_law_219 rfl (by decide) rfl rfl ⟨Nat.one_pos, trivial, trivial, trivial, trivial⟩ (KX9_set (l := l) (G := G) (A := (fun q : Nat => s.heap.size ≤ q)) (d := 17) (J_set (xs (nI i + 1).toNatClampNeg) (xs (nI i + 2).toNatClampNeg) (xs (nI i + 3).toNatClampNeg) hR)) (Nat.le_of_ble_eq_true rfl) hP hS hl.1 (fun r σ1 H locs hok hk hP hS => ?_)
  obtain ⟨v1, rfl, hk1⟩ := hk
  refine W.eq (g2 := F0 m 222 ls [.int v1]) rfl ?_
  refine lv_aload_n hx hb dL_law_222 rfl (lv_at hl 1 rfl) ?_
  refine lv_aload_n hx hb dL_law_223 rfl (lv_at hl 3 rfl) ?_
  refine lv_iload_n hx hb dL_law_224 rfl (lv_at hl 0 rfl) ?_
  refine lv_iconst (v := 1) hx hb dL_law_225 (by decide) ?_
  refine lv_iadd hx hb dL_law_226 ?_
  refine va_sld hx hb hX hbl hbA hS h1 dL_law_227 ?_
  refine lv_aload_n hx hb dL_law_228 rfl (lv_at hl 3 rfl) ?_
  refine lv_iload_n hx hb dL_law_229 rfl (lv_at hl 0 rfl) ?_
  refine lv_iconst (v := 2) hx hb dL_law_230 (by decide) ?_
  refine lv_iadd hx hb dL_law_231 ?_
  refine va_sld hx hb hX hbl hbA hS h2 dL_law_232 ?_
  refine lv_aload_n hx hb dL_law_233 rfl (lv_at hl 3 rfl) ?_
  refine lv_iload_n hx hb dL_law_234 rfl (lv_at hl 0 rfl) ?_
  refine lv_iconst (v := 3) hx hb dL_law_235 (by decide) ?_
  refine lv_iadd hx hb dL_law_236 ?_
  refine va_sld hx hb hX hbl hbA hS h3 dL_law_237 ?_
  refine L_call (as := [.inl (xs (nI i + 1).toNatClampNeg), .inl (xs (nI i + 2).toNatClampNeg), .inl (xs (nI i + 3).toNatClampNeg)]) (f := 10) (rest := [.int v1]) E dL_law_238 rfl (by decide) rfl rfl ⟨Nat.one_pos, trivial, trivial, trivial, trivial⟩ (KX10_set (l := l) (G := G) (A := (fun q : Nat => s.heap.size ≤ q)) (d := 17) hk1) (Nat.le_of_ble_eq_true rfl) hP hS hl.1 (fun r σ2 H locs hok hk hP hS => ?_)
  obtain ⟨v2, rfl, hk2⟩ := hk
  refine W.eq (g2 := F0 m 241 ls [.int v2, .int v1]) rfl ?_
  exact lv_icmp_eq (tgt := 1216) hx hb dL_law_241 (by decide) (fun _ => kk σ2 H locs hk2.2 hP hS) (fun c1 => absurd hk2.1 c1)
set_option maxHeartbeats 4000000 in
set_option maxRecDepth 100000 in
theorem law_c2 {p : Program} {l : Launch} {e : Env} {s : State} {m : MethodId} {below : List Frame} {meth : Method} {c : Code} {b L : Nat} {xs : Nat → Int32} {G : gG} (hL : L ≤ 3072) (C0 : lw_At p s m meth c b L xs) (E : gEv p room_1 s m #[Value.ref b] c G (fun q : Nat => s.heap.size ≤ q) 11 code 4 20 84 4034) {i : Nat} {σ : gT} {H : Heap} {locs : List Loc} {ls : Array Slot} (hi : i + 6 ≤ L) (hR : gR σ) (hP : va_P G.2.2.1 gCl (gW G σ) H) (hS : va_S (fun q : Nat => s.heap.size ≤ q) s.heap H locs) (hl : lv_has ls 4 [(3, .int (nI i)), (2, .ref (G.1 10 0)), (1, .ref (G.1 9 0)), (0, .ref b)]) (kk : ∀ (σ2 : gT) (H2 : Heap) (locs2 : List Loc), gR σ2 → va_P G.2.2.1 gCl (gW G σ2) H2 → va_S (fun q : Nat => s.heap.size ≤ q) s.heap H2 locs2 → W p l e room_1 s m #[Value.ref b] below meth c H2 locs2 84 4034 (lw_Z below #[Value.ref b] s) (F0 m 1216 ls [])) : W p l e room_1 s m #[Value.ref b] below meth c H locs 84 4034 (lw_Z below #[Value.ref b] s) (F0 m 246 ls []) := by
  obtain ⟨hx, hb, hr, hml, hown, hts0, hX, hbl, hlocks, hgv⟩ := C0
  have hts := E.2.2.2.2.1
  have hbA : ¬ (fun q : Nat => s.heap.size ≤ q) b := Nat.not_le.mpr hbl
  have h1 : vp_in (nI i + 1) L := by rw [show nI i + 1 = nI (i + 1) from nI_add i 1]; exact vp_in_nI (by omega) (by omega)
  have h2 : vp_in (nI i + 2) L := by rw [show nI i + 2 = nI (i + 2) from nI_add i 2]; exact vp_in_nI (by omega) (by omega)
  have h3 : vp_in (nI i + 3) L := by rw [show nI i + 3 = nI (i + 3) from nI_add i 3]; exact vp_in_nI (by omega) (by omega)
  have h4 : vp_in (nI i + 4) L := by rw [show nI i + 4 = nI (i + 4) from nI_add i 4]; exact vp_in_nI (by omega) (by omega)
  have h5 : vp_in (nI i + 5) L := by rw [show nI i + 5 = nI (i + 5) from nI_add i 5]; exact vp_in_nI (by omega) (by omega)
  refine lv_aload_n hx hb dL_law_246 rfl (lv_at hl 2 rfl) ?_
  refine lv_aload_n hx hb dL_law_247 rfl (lv_at hl 3 rfl) ?_
  refine lv_iload_n hx hb dL_law_248 rfl (lv_at hl 0 rfl) ?_
  refine lv_iconst (v := 1) hx hb dL_law_249 (by decide) ?_
  refine lv_iadd hx hb dL_law_250 ?_
  refine va_sld hx hb hX hbl hbA hS h1 dL_law_251 ?_
  refine lv_aload_n hx hb dL_law_252 rfl (lv_at hl 3 rfl) ?_
  refine lv_iload_n hx hb dL_law_253 rfl (lv_at hl 0 rfl) ?_
  refine lv_iconst (v := 2) hx hb dL_law_254 (by decide) ?_
  refine lv_iadd hx hb dL_law_255 ?_
  refine va_sld hx hb hX hbl hbA hS h2 dL_law_256 ?_
  refine lv_aload_n hx hb dL_law_257 rfl (lv_at hl 3 rfl) ?_
  refine lv_iload_n hx hb dL_law_258 rfl (lv_at hl 0 rfl) ?_
  refine lv_iconst (v := 3) hx hb dL_law_259 (by decide) ?_
  refine lv_iadd hx hb dL_law_260 ?_
  refine va_sld hx hb hX hbl hbA hS h3 dL_law_261 ?_
  refine lv_aload_n hx hb dL_law_262 rfl (lv_at hl 3 rfl) ?_
  refine lv_iload_n hx hb dL_law_263 rfl (lv_at hl 0 rfl) ?_
  refine lv_iconst (v := 4) hx hb dL_law_264 (by decide) ?_
  refine lv_iadd hx hb dL_law_265 ?_
  refine va_sld hx hb hX hbl hbA hS h4 dL_law_266 ?_
  refine lv_aload_n hx hb dL_law_267 rfl (lv_at hl 3 rfl) ?_
  refine lv_iload_n hx hb dL_law_268 rfl (lv_at hl 0 rfl) ?_
  refine lv_iconst (v := 5) hx hb dL_law_269 (by decide) ?_
  refine lv_iadd hx hb dL_law_270 ?_
  refine va_sld hx hb hX hbl hbA hS h5 dL_law_271 ?_
  refine L_call (as := [.inl (xs (nI i + 1).toNatClampNeg), .inl (xs (nI i + 2).toNatClampNeg), .inl (xs (nI i + 3).toNatClampNeg), .inl (xs (nI i + 4).toNatClampNeg), .inl (xs (nI i + 5).toNatClampNeg)]) (f := 9) (rest := []) E dL_law_272 rfl (by decide) rfl rfl ⟨Nat.one_pos, trivial, trivial, trivial, trivial, trivial, trivial⟩ (KX9_copy (l := l) (G := G) (A := (fun q : Nat => s.heap.size ≤ q)) (d := 17) (J_copy (xs (nI i + 1).toNatClampNeg) (xs (nI i + 2).toNatClampNeg) (xs (nI i + 3).toNatClampNeg) (xs (nI i + 4).toNatClampNeg) (xs (nI i + 5).toNatClampNeg) hR)) (Nat.le_of_ble_eq_true rfl) hP hS hl.1 (fun r σ1 H locs hok hk hP hS => ?_)
  obtain ⟨v1, rfl, hk1⟩ := hk
  refine W.eq (g2 := F0 m 275 ls [.int v1]) rfl ?_
  refine lv_aload_n hx hb dL_law_275 rfl (lv_at hl 1 rfl) ?_
  refine lv_aload_n hx hb dL_law_276 rfl (lv_at hl 3 rfl) ?_
  refine lv_iload_n hx hb dL_law_277 rfl (lv_at hl 0 rfl) ?_
  refine lv_iconst (v := 1) hx hb dL_law_278 (by decide) ?_
  refine lv_iadd hx hb dL_law_279 ?_
  refine va_sld hx hb hX hbl hbA hS h1 dL_law_280 ?_
  refine lv_aload_n hx hb dL_law_281 rfl (lv_at hl 3 rfl) ?_
  refine lv_iload_n hx hb dL_law_282 rfl (lv_at hl 0 rfl) ?_
  refine lv_iconst (v := 2) hx hb dL_law_283 (by decide) ?_
  refine lv_iadd hx hb dL_law_284 ?_
  refine va_sld hx hb hX hbl hbA hS h2 dL_law_285 ?_
  refine lv_aload_n hx hb dL_law_286 rfl (lv_at hl 3 rfl) ?_
  refine lv_iload_n hx hb dL_law_287 rfl (lv_at hl 0 rfl) ?_
  refine lv_iconst (v := 3) hx hb dL_law_288 (by decide) ?_
  refine lv_iadd hx hb dL_law_289 ?_
  refine va_sld hx hb hX hbl hbA hS h3 dL_law_290 ?_
  refine lv_aload_n hx hb dL_law_291 rfl (lv_at hl 3 rfl) ?_
  refine lv_iload_n hx hb dL_law_292 rfl (lv_at hl 0 rfl) ?_
  refine lv_iconst (v := 4) hx hb dL_law_293 (by decide) ?_
  refine lv_iadd hx hb dL_law_294 ?_
  refine va_sld hx hb hX hbl hbA hS h4 dL_law_295 ?_
  refine lv_aload_n hx hb dL_law_296 rfl (lv_at hl 3 rfl) ?_
  refine lv_iload_n hx hb dL_law_297 rfl (lv_at hl 0 rfl) ?_
  refine lv_iconst (v := 5) hx hb dL_law_298 (by decide) ?_
  refine lv_iadd hx hb dL_law_299 ?_
  refine va_sld hx hb hX hbl hbA hS h5 dL_law_300 ?_
  refine L_call (as := [.inl (xs (nI i + 1).toNatClampNeg), .inl (xs (nI i + 2).toNatClampNeg), .inl (xs (nI i + 3).toNatClampNeg), .inl (xs (nI i + 4).toNatClampNeg), .inl (xs (nI i + 5).toNatClampNeg)]) (f := 10) (rest := [.int v1]) E dL_law_301 rfl (by decide) rfl rfl ⟨Nat.one_pos, trivial, trivial, trivial, trivial, trivial, trivial⟩ (KX10_copy (l := l) (G := G) (A := (fun q : Nat => s.heap.size ≤ q)) (d := 17) hk1) (Nat.le_of_ble_eq_true rfl) hP hS hl.1 (fun r σ2 H locs hok hk hP hS => ?_)
  obtain ⟨v2, rfl, hk2⟩ := hk
  refine W.eq (g2 := F0 m 304 ls [.int v2, .int v1]) rfl ?_
  exact lv_icmp_eq (tgt := 1216) hx hb dL_law_304 (by decide) (fun _ => kk σ2 H locs hk2.2 hP hS) (fun c1 => absurd hk2.1 c1)
set_option maxHeartbeats 4000000 in
set_option maxRecDepth 100000 in
theorem law_c3 {p : Program} {l : Launch} {e : Env} {s : State} {m : MethodId} {below : List Frame} {meth : Method} {c : Code} {b L : Nat} {xs : Nat → Int32} {G : gG} (hL : L ≤ 3072) (C0 : lw_At p s m meth c b L xs) (E : gEv p room_1 s m #[Value.ref b] c G (fun q : Nat => s.heap.size ≤ q) 11 code 4 20 84 4034) {i : Nat} {σ : gT} {H : Heap} {locs : List Loc} {ls : Array Slot} (hi : i + 6 ≤ L) (hR : gR σ) (hP : va_P G.2.2.1 gCl (gW G σ) H) (hS : va_S (fun q : Nat => s.heap.size ≤ q) s.heap H locs) (hl : lv_has ls 4 [(3, .int (nI i)), (2, .ref (G.1 10 0)), (1, .ref (G.1 9 0)), (0, .ref b)]) (kk : ∀ (σ2 : gT) (H2 : Heap) (locs2 : List Loc), gR σ2 → va_P G.2.2.1 gCl (gW G σ2) H2 → va_S (fun q : Nat => s.heap.size ≤ q) s.heap H2 locs2 → W p l e room_1 s m #[Value.ref b] below meth c H2 locs2 84 4034 (lw_Z below #[Value.ref b] s) (F0 m 1216 ls [])) : W p l e room_1 s m #[Value.ref b] below meth c H locs 84 4034 (lw_Z below #[Value.ref b] s) (F0 m 309 ls []) := by
  obtain ⟨hx, hb, hr, hml, hown, hts0, hX, hbl, hlocks, hgv⟩ := C0
  have hts := E.2.2.2.2.1
  have hbA : ¬ (fun q : Nat => s.heap.size ≤ q) b := Nat.not_le.mpr hbl
  have h1 : vp_in (nI i + 1) L := by rw [show nI i + 1 = nI (i + 1) from nI_add i 1]; exact vp_in_nI (by omega) (by omega)
  have h2 : vp_in (nI i + 2) L := by rw [show nI i + 2 = nI (i + 2) from nI_add i 2]; exact vp_in_nI (by omega) (by omega)
  have h3 : vp_in (nI i + 3) L := by rw [show nI i + 3 = nI (i + 3) from nI_add i 3]; exact vp_in_nI (by omega) (by omega)
  have h4 : vp_in (nI i + 4) L := by rw [show nI i + 4 = nI (i + 4) from nI_add i 4]; exact vp_in_nI (by omega) (by omega)
  have h5 : vp_in (nI i + 5) L := by rw [show nI i + 5 = nI (i + 5) from nI_add i 5]; exact vp_in_nI (by omega) (by omega)
  refine lv_aload_n hx hb dL_law_309 rfl (lv_at hl 2 rfl) ?_
  refine lv_aload_n hx hb dL_law_310 rfl (lv_at hl 3 rfl) ?_
  refine lv_iload_n hx hb dL_law_311 rfl (lv_at hl 0 rfl) ?_
  refine lv_iconst (v := 1) hx hb dL_law_312 (by decide) ?_
  refine lv_iadd hx hb dL_law_313 ?_
  refine va_sld hx hb hX hbl hbA hS h1 dL_law_314 ?_
  refine L_call (as := [.inl (xs (nI i + 1).toNatClampNeg)]) (f := 9) (rest := []) E dL_law_315 rfl (by decide) rfl rfl ⟨Nat.one_pos, trivial, trivial⟩ (KX9_drop (l := l) (G := G) (A := (fun q : Nat => s.heap.size ≤ q)) (d := 17) (J_drop (xs (nI i + 1).toNatClampNeg) hR)) (Nat.le_of_ble_eq_true rfl) hP hS hl.1 (fun r σ1 H locs hok hk hP hS => ?_)
  obtain ⟨v1, rfl, hk1⟩ := hk
  refine W.eq (g2 := F0 m 318 ls [.int v1]) rfl ?_
  refine lv_aload_n hx hb dL_law_318 rfl (lv_at hl 1 rfl) ?_
  refine lv_aload_n hx hb dL_law_319 rfl (lv_at hl 3 rfl) ?_
  refine lv_iload_n hx hb dL_law_320 rfl (lv_at hl 0 rfl) ?_
  refine lv_iconst (v := 1) hx hb dL_law_321 (by decide) ?_
  refine lv_iadd hx hb dL_law_322 ?_
  refine va_sld hx hb hX hbl hbA hS h1 dL_law_323 ?_
  refine L_call (as := [.inl (xs (nI i + 1).toNatClampNeg)]) (f := 10) (rest := [.int v1]) E dL_law_324 rfl (by decide) rfl rfl ⟨Nat.one_pos, trivial, trivial⟩ (KX10_drop (l := l) (G := G) (A := (fun q : Nat => s.heap.size ≤ q)) (d := 17) hk1) (Nat.le_of_ble_eq_true rfl) hP hS hl.1 (fun r σ2 H locs hok hk hP hS => ?_)
  obtain ⟨v2, rfl, hk2⟩ := hk
  refine W.eq (g2 := F0 m 327 ls [.int v2, .int v1]) rfl ?_
  exact lv_icmp_eq (tgt := 1216) hx hb dL_law_327 (by decide) (fun _ => kk σ2 H locs hk2.2 hP hS) (fun c1 => absurd hk2.1 c1)
set_option maxHeartbeats 4000000 in
set_option maxRecDepth 100000 in
theorem law_c4 {p : Program} {l : Launch} {e : Env} {s : State} {m : MethodId} {below : List Frame} {meth : Method} {c : Code} {b L : Nat} {xs : Nat → Int32} {G : gG} (hL : L ≤ 3072) (C0 : lw_At p s m meth c b L xs) (E : gEv p room_1 s m #[Value.ref b] c G (fun q : Nat => s.heap.size ≤ q) 11 code 4 20 84 4034) {i : Nat} {σ : gT} {H : Heap} {locs : List Loc} {ls : Array Slot} (hi : i + 6 ≤ L) (hR : gR σ) (hP : va_P G.2.2.1 gCl (gW G σ) H) (hS : va_S (fun q : Nat => s.heap.size ≤ q) s.heap H locs) (hl : lv_has ls 4 [(3, .int (nI i)), (2, .ref (G.1 10 0)), (1, .ref (G.1 9 0)), (0, .ref b)]) (kk : ∀ (σ2 : gT) (H2 : Heap) (locs2 : List Loc), gR σ2 → va_P G.2.2.1 gCl (gW G σ2) H2 → va_S (fun q : Nat => s.heap.size ≤ q) s.heap H2 locs2 → W p l e room_1 s m #[Value.ref b] below meth c H2 locs2 84 4034 (lw_Z below #[Value.ref b] s) (F0 m 1216 ls [])) : W p l e room_1 s m #[Value.ref b] below meth c H locs 84 4034 (lw_Z below #[Value.ref b] s) (F0 m 332 ls []) := by
  obtain ⟨hx, hb, hr, hml, hown, hts0, hX, hbl, hlocks, hgv⟩ := C0
  have hts := E.2.2.2.2.1
  have hbA : ¬ (fun q : Nat => s.heap.size ≤ q) b := Nat.not_le.mpr hbl
  have h1 : vp_in (nI i + 1) L := by rw [show nI i + 1 = nI (i + 1) from nI_add i 1]; exact vp_in_nI (by omega) (by omega)
  have h2 : vp_in (nI i + 2) L := by rw [show nI i + 2 = nI (i + 2) from nI_add i 2]; exact vp_in_nI (by omega) (by omega)
  have h3 : vp_in (nI i + 3) L := by rw [show nI i + 3 = nI (i + 3) from nI_add i 3]; exact vp_in_nI (by omega) (by omega)
  have h4 : vp_in (nI i + 4) L := by rw [show nI i + 4 = nI (i + 4) from nI_add i 4]; exact vp_in_nI (by omega) (by omega)
  have h5 : vp_in (nI i + 5) L := by rw [show nI i + 5 = nI (i + 5) from nI_add i 5]; exact vp_in_nI (by omega) (by omega)
  refine lv_aload_n hx hb dL_law_332 rfl (lv_at hl 2 rfl) ?_
  refine lv_aload_n hx hb dL_law_333 rfl (lv_at hl 3 rfl) ?_
  refine lv_iload_n hx hb dL_law_334 rfl (lv_at hl 0 rfl) ?_
  refine lv_iconst (v := 1) hx hb dL_law_335 (by decide) ?_
  refine lv_iadd hx hb dL_law_336 ?_
  refine va_sld hx hb hX hbl hbA hS h1 dL_law_337 ?_
  refine lv_i2l (v := (xs (nI i + 1).toNatClampNeg).toInt64) hx hb dL_law_338 rfl ?_
  refine lv_bipush (v := 32) hx hb dL_law_339 (by decide) ?_
  refine lv_lshl (v := ((xs (nI i + 1).toNatClampNeg).toInt64 <<< ((32 : Int32).toInt64 &&& 63))) hx hb dL_law_341 rfl ?_
  refine lv_aload_n hx hb dL_law_342 rfl (lv_at hl 3 rfl) ?_
  refine lv_iload_n hx hb dL_law_343 rfl (lv_at hl 0 rfl) ?_
  refine lv_iconst (v := 2) hx hb dL_law_344 (by decide) ?_
  refine lv_iadd hx hb dL_law_345 ?_
  refine va_sld hx hb hX hbl hbA hS h2 dL_law_346 ?_
  refine lv_i2l (v := (xs (nI i + 2).toNatClampNeg).toInt64) hx hb dL_law_347 rfl ?_
  refine lv_ldc2 (v := 4294967295) (own := RL) hx hb hown (hts _ (gin_ok (p := 1190) (by decide +kernel))) dL_law_348 ?_
  refine lv_land hx hb dL_law_351 ?_
  refine lv_lor hx hb dL_law_352 ?_
  refine lv_aload_n hx hb dL_law_353 rfl (lv_at hl 3 rfl) ?_
  refine lv_iload_n hx hb dL_law_354 rfl (lv_at hl 0 rfl) ?_
  refine lv_iconst (v := 3) hx hb dL_law_355 (by decide) ?_
  refine lv_iadd hx hb dL_law_356 ?_
  refine va_sld hx hb hX hbl hbA hS h3 dL_law_357 ?_
  refine L_call (as := [.inr (.inl (((xs (nI i + 1).toNatClampNeg).toInt64 <<< ((32 : Int32).toInt64 &&& 63)) ||| ((xs (nI i + 2).toNatClampNeg).toInt64 &&& (4294967295 : Int64)))), .inl (xs (nI i + 3).toNatClampNeg)]) (f := 9) (rest := []) E dL_law_358 rfl (by decide) rfl rfl ⟨Nat.one_pos, trivial, trivial, trivial⟩ (KX9_feed (l := l) (G := G) (A := (fun q : Nat => s.heap.size ≤ q)) (d := 18) (J_feed (((xs (nI i + 1).toNatClampNeg).toInt64 <<< ((32 : Int32).toInt64 &&& 63)) ||| ((xs (nI i + 2).toNatClampNeg).toInt64 &&& (4294967295 : Int64))) (xs (nI i + 3).toNatClampNeg) hR)) (Nat.le_of_ble_eq_true rfl) hP hS hl.1 (fun r σ1 H locs hok hk hP hS => ?_)
  obtain ⟨v1, rfl, hk1⟩ := hk
  refine W.eq (g2 := F0 m 361 ls [.int v1]) rfl ?_
  refine lv_aload_n hx hb dL_law_361 rfl (lv_at hl 1 rfl) ?_
  refine lv_aload_n hx hb dL_law_362 rfl (lv_at hl 3 rfl) ?_
  refine lv_iload_n hx hb dL_law_363 rfl (lv_at hl 0 rfl) ?_
  refine lv_iconst (v := 1) hx hb dL_law_364 (by decide) ?_
  refine lv_iadd hx hb dL_law_365 ?_
  refine va_sld hx hb hX hbl hbA hS h1 dL_law_366 ?_
  refine lv_i2l (v := (xs (nI i + 1).toNatClampNeg).toInt64) hx hb dL_law_367 rfl ?_
  refine lv_bipush (v := 32) hx hb dL_law_368 (by decide) ?_
  refine lv_lshl (v := ((xs (nI i + 1).toNatClampNeg).toInt64 <<< ((32 : Int32).toInt64 &&& 63))) hx hb dL_law_370 rfl ?_
  refine lv_aload_n hx hb dL_law_371 rfl (lv_at hl 3 rfl) ?_
  refine lv_iload_n hx hb dL_law_372 rfl (lv_at hl 0 rfl) ?_
  refine lv_iconst (v := 2) hx hb dL_law_373 (by decide) ?_
  refine lv_iadd hx hb dL_law_374 ?_
  refine va_sld hx hb hX hbl hbA hS h2 dL_law_375 ?_
  refine lv_i2l (v := (xs (nI i + 2).toNatClampNeg).toInt64) hx hb dL_law_376 rfl ?_
  refine lv_ldc2 (v := 4294967295) (own := RL) hx hb hown (hts _ (gin_ok (p := 1190) (by decide +kernel))) dL_law_377 ?_
  refine lv_land hx hb dL_law_380 ?_
  refine lv_lor hx hb dL_law_381 ?_
  refine lv_aload_n hx hb dL_law_382 rfl (lv_at hl 3 rfl) ?_
  refine lv_iload_n hx hb dL_law_383 rfl (lv_at hl 0 rfl) ?_
  refine lv_iconst (v := 3) hx hb dL_law_384 (by decide) ?_
  refine lv_iadd hx hb dL_law_385 ?_
  refine va_sld hx hb hX hbl hbA hS h3 dL_law_386 ?_
  refine L_call (as := [.inr (.inl (((xs (nI i + 1).toNatClampNeg).toInt64 <<< ((32 : Int32).toInt64 &&& 63)) ||| ((xs (nI i + 2).toNatClampNeg).toInt64 &&& (4294967295 : Int64)))), .inl (xs (nI i + 3).toNatClampNeg)]) (f := 10) (rest := [.int v1]) E dL_law_387 rfl (by decide) rfl rfl ⟨Nat.one_pos, trivial, trivial, trivial⟩ (KX10_feed (l := l) (G := G) (A := (fun q : Nat => s.heap.size ≤ q)) (d := 18) hk1) (Nat.le_of_ble_eq_true rfl) hP hS hl.1 (fun r σ2 H locs hok hk hP hS => ?_)
  obtain ⟨v2, rfl, hk2⟩ := hk
  refine W.eq (g2 := F0 m 390 ls [.int v2, .int v1]) rfl ?_
  exact lv_icmp_eq (tgt := 1216) hx hb dL_law_390 (by decide) (fun _ => kk σ2 H locs hk2.2 hP hS) (fun c1 => absurd hk2.1 c1)
set_option maxHeartbeats 4000000 in
set_option maxRecDepth 100000 in
theorem law_c5 {p : Program} {l : Launch} {e : Env} {s : State} {m : MethodId} {below : List Frame} {meth : Method} {c : Code} {b L : Nat} {xs : Nat → Int32} {G : gG} (hL : L ≤ 3072) (C0 : lw_At p s m meth c b L xs) (E : gEv p room_1 s m #[Value.ref b] c G (fun q : Nat => s.heap.size ≤ q) 11 code 4 20 84 4034) {i : Nat} {σ : gT} {H : Heap} {locs : List Loc} {ls : Array Slot} (hi : i + 6 ≤ L) (hR : gR σ) (hP : va_P G.2.2.1 gCl (gW G σ) H) (hS : va_S (fun q : Nat => s.heap.size ≤ q) s.heap H locs) (hl : lv_has ls 4 [(3, .int (nI i)), (2, .ref (G.1 10 0)), (1, .ref (G.1 9 0)), (0, .ref b)]) (kk : ∀ (σ2 : gT) (H2 : Heap) (locs2 : List Loc), gR σ2 → va_P G.2.2.1 gCl (gW G σ2) H2 → va_S (fun q : Nat => s.heap.size ≤ q) s.heap H2 locs2 → W p l e room_1 s m #[Value.ref b] below meth c H2 locs2 84 4034 (lw_Z below #[Value.ref b] s) (F0 m 1216 ls [])) : W p l e room_1 s m #[Value.ref b] below meth c H locs 84 4034 (lw_Z below #[Value.ref b] s) (F0 m 395 ls []) := by
  obtain ⟨hx, hb, hr, hml, hown, hts0, hX, hbl, hlocks, hgv⟩ := C0
  have hts := E.2.2.2.2.1
  have hbA : ¬ (fun q : Nat => s.heap.size ≤ q) b := Nat.not_le.mpr hbl
  have h1 : vp_in (nI i + 1) L := by rw [show nI i + 1 = nI (i + 1) from nI_add i 1]; exact vp_in_nI (by omega) (by omega)
  have h2 : vp_in (nI i + 2) L := by rw [show nI i + 2 = nI (i + 2) from nI_add i 2]; exact vp_in_nI (by omega) (by omega)
  have h3 : vp_in (nI i + 3) L := by rw [show nI i + 3 = nI (i + 3) from nI_add i 3]; exact vp_in_nI (by omega) (by omega)
  have h4 : vp_in (nI i + 4) L := by rw [show nI i + 4 = nI (i + 4) from nI_add i 4]; exact vp_in_nI (by omega) (by omega)
  have h5 : vp_in (nI i + 5) L := by rw [show nI i + 5 = nI (i + 5) from nI_add i 5]; exact vp_in_nI (by omega) (by omega)
  refine lv_aload_n hx hb dL_law_395 rfl (lv_at hl 2 rfl) ?_
  refine L_call (as := []) (f := 9) (rest := []) E dL_law_396 rfl (by decide) rfl rfl ⟨Nat.one_pos, trivial⟩ (KX9_run (l := l) (G := G) (A := (fun q : Nat => s.heap.size ≤ q)) (d := 11) (J_run  hR)) (Nat.le_of_ble_eq_true rfl) hP hS hl.1 (fun r σ1 H locs hok hk hP hS => ?_)
  obtain ⟨v1, rfl, hk1⟩ := hk
  refine W.eq (g2 := F0 m 399 ls [.int v1]) rfl ?_
  refine lv_aload_n hx hb dL_law_399 rfl (lv_at hl 1 rfl) ?_
  refine L_call (as := []) (f := 10) (rest := [.int v1]) E dL_law_400 rfl (by decide) rfl rfl ⟨Nat.one_pos, trivial⟩ (KX10_run (l := l) (G := G) (A := (fun q : Nat => s.heap.size ≤ q)) (d := 13) hk1) (Nat.le_of_ble_eq_true rfl) hP hS hl.1 (fun r σ2 H locs hok hk hP hS => ?_)
  obtain ⟨v2, rfl, hk2⟩ := hk
  refine W.eq (g2 := F0 m 403 ls [.int v2, .int v1]) rfl ?_
  exact lv_icmp_eq (tgt := 1216) hx hb dL_law_403 (by decide) (fun _ => kk σ2 H locs hk2.2 hP hS) (fun c1 => absurd hk2.1 c1)
set_option maxHeartbeats 4000000 in
set_option maxRecDepth 100000 in
theorem law_c6 {p : Program} {l : Launch} {e : Env} {s : State} {m : MethodId} {below : List Frame} {meth : Method} {c : Code} {b L : Nat} {xs : Nat → Int32} {G : gG} (hL : L ≤ 3072) (C0 : lw_At p s m meth c b L xs) (E : gEv p room_1 s m #[Value.ref b] c G (fun q : Nat => s.heap.size ≤ q) 11 code 4 20 84 4034) {i : Nat} {σ : gT} {H : Heap} {locs : List Loc} {ls : Array Slot} (hi : i + 6 ≤ L) (hR : gR σ) (hP : va_P G.2.2.1 gCl (gW G σ) H) (hS : va_S (fun q : Nat => s.heap.size ≤ q) s.heap H locs) (hl : lv_has ls 4 [(3, .int (nI i)), (2, .ref (G.1 10 0)), (1, .ref (G.1 9 0)), (0, .ref b)]) (kk : ∀ (σ2 : gT) (H2 : Heap) (locs2 : List Loc), gR σ2 → va_P G.2.2.1 gCl (gW G σ2) H2 → va_S (fun q : Nat => s.heap.size ≤ q) s.heap H2 locs2 → W p l e room_1 s m #[Value.ref b] below meth c H2 locs2 84 4034 (lw_Z below #[Value.ref b] s) (F0 m 1216 ls [])) : W p l e room_1 s m #[Value.ref b] below meth c H locs 84 4034 (lw_Z below #[Value.ref b] s) (F0 m 408 ls []) := by
  obtain ⟨hx, hb, hr, hml, hown, hts0, hX, hbl, hlocks, hgv⟩ := C0
  have hts := E.2.2.2.2.1
  have hbA : ¬ (fun q : Nat => s.heap.size ≤ q) b := Nat.not_le.mpr hbl
  have h1 : vp_in (nI i + 1) L := by rw [show nI i + 1 = nI (i + 1) from nI_add i 1]; exact vp_in_nI (by omega) (by omega)
  have h2 : vp_in (nI i + 2) L := by rw [show nI i + 2 = nI (i + 2) from nI_add i 2]; exact vp_in_nI (by omega) (by omega)
  have h3 : vp_in (nI i + 3) L := by rw [show nI i + 3 = nI (i + 3) from nI_add i 3]; exact vp_in_nI (by omega) (by omega)
  have h4 : vp_in (nI i + 4) L := by rw [show nI i + 4 = nI (i + 4) from nI_add i 4]; exact vp_in_nI (by omega) (by omega)
  have h5 : vp_in (nI i + 5) L := by rw [show nI i + 5 = nI (i + 5) from nI_add i 5]; exact vp_in_nI (by omega) (by omega)
  refine lv_aload_n hx hb dL_law_408 rfl (lv_at hl 2 rfl) ?_
  refine L_call (as := []) (f := 9) (rest := []) E dL_law_409 rfl (by decide) rfl rfl ⟨Nat.one_pos, trivial⟩ (KX9_fault (l := l) (G := G) (A := (fun q : Nat => s.heap.size ≤ q)) (d := 19) (J_fault  hR)) (Nat.le_of_ble_eq_true rfl) hP hS hl.1 (fun r σ1 H locs hok hk hP hS => ?_)
  obtain ⟨v1, rfl, hk1⟩ := hk
  refine W.eq (g2 := F0 m 412 ls [.int v1]) rfl ?_
  refine lv_aload_n hx hb dL_law_412 rfl (lv_at hl 1 rfl) ?_
  refine L_call (as := []) (f := 10) (rest := [.int v1]) E dL_law_413 rfl (by decide) rfl rfl ⟨Nat.one_pos, trivial⟩ (KX10_fault (l := l) (G := G) (A := (fun q : Nat => s.heap.size ≤ q)) (d := 19) hk1) (Nat.le_of_ble_eq_true rfl) hP hS hl.1 (fun r σ2 H locs hok hk hP hS => ?_)
  obtain ⟨v2, rfl, hk2⟩ := hk
  refine W.eq (g2 := F0 m 416 ls [.int v2, .int v1]) rfl ?_
  exact lv_icmp_eq (tgt := 1216) hx hb dL_law_416 (by decide) (fun _ => kk σ2 H locs hk2.2 hP hS) (fun c1 => absurd hk2.1 c1)
set_option maxHeartbeats 4000000 in
set_option maxRecDepth 100000 in
theorem law_c7 {p : Program} {l : Launch} {e : Env} {s : State} {m : MethodId} {below : List Frame} {meth : Method} {c : Code} {b L : Nat} {xs : Nat → Int32} {G : gG} (hL : L ≤ 3072) (C0 : lw_At p s m meth c b L xs) (E : gEv p room_1 s m #[Value.ref b] c G (fun q : Nat => s.heap.size ≤ q) 11 code 4 20 84 4034) {i : Nat} {σ : gT} {H : Heap} {locs : List Loc} {ls : Array Slot} (hi : i + 6 ≤ L) (hR : gR σ) (hP : va_P G.2.2.1 gCl (gW G σ) H) (hS : va_S (fun q : Nat => s.heap.size ≤ q) s.heap H locs) (hl : lv_has ls 4 [(3, .int (nI i)), (2, .ref (G.1 10 0)), (1, .ref (G.1 9 0)), (0, .ref b)]) (kk : ∀ (σ2 : gT) (H2 : Heap) (locs2 : List Loc), gR σ2 → va_P G.2.2.1 gCl (gW G σ2) H2 → va_S (fun q : Nat => s.heap.size ≤ q) s.heap H2 locs2 → W p l e room_1 s m #[Value.ref b] below meth c H2 locs2 84 4034 (lw_Z below #[Value.ref b] s) (F0 m 1216 ls [])) : W p l e room_1 s m #[Value.ref b] below meth c H locs 84 4034 (lw_Z below #[Value.ref b] s) (F0 m 421 ls []) := by
  obtain ⟨hx, hb, hr, hml, hown, hts0, hX, hbl, hlocks, hgv⟩ := C0
  have hts := E.2.2.2.2.1
  have hbA : ¬ (fun q : Nat => s.heap.size ≤ q) b := Nat.not_le.mpr hbl
  have h1 : vp_in (nI i + 1) L := by rw [show nI i + 1 = nI (i + 1) from nI_add i 1]; exact vp_in_nI (by omega) (by omega)
  have h2 : vp_in (nI i + 2) L := by rw [show nI i + 2 = nI (i + 2) from nI_add i 2]; exact vp_in_nI (by omega) (by omega)
  have h3 : vp_in (nI i + 3) L := by rw [show nI i + 3 = nI (i + 3) from nI_add i 3]; exact vp_in_nI (by omega) (by omega)
  have h4 : vp_in (nI i + 4) L := by rw [show nI i + 4 = nI (i + 4) from nI_add i 4]; exact vp_in_nI (by omega) (by omega)
  have h5 : vp_in (nI i + 5) L := by rw [show nI i + 5 = nI (i + 5) from nI_add i 5]; exact vp_in_nI (by omega) (by omega)
  refine lv_aload_n hx hb dL_law_421 rfl (lv_at hl 2 rfl) ?_
  refine lv_aload_n hx hb dL_law_422 rfl (lv_at hl 3 rfl) ?_
  refine lv_iload_n hx hb dL_law_423 rfl (lv_at hl 0 rfl) ?_
  refine lv_iconst (v := 1) hx hb dL_law_424 (by decide) ?_
  refine lv_iadd hx hb dL_law_425 ?_
  refine va_sld hx hb hX hbl hbA hS h1 dL_law_426 ?_
  refine lv_aload_n hx hb dL_law_427 rfl (lv_at hl 3 rfl) ?_
  refine lv_iload_n hx hb dL_law_428 rfl (lv_at hl 0 rfl) ?_
  refine lv_iconst (v := 2) hx hb dL_law_429 (by decide) ?_
  refine lv_iadd hx hb dL_law_430 ?_
  refine va_sld hx hb hX hbl hbA hS h2 dL_law_431 ?_
  refine L_call (as := [.inl (xs (nI i + 1).toNatClampNeg), .inl (xs (nI i + 2).toNatClampNeg)]) (f := 9) (rest := []) E dL_law_432 rfl (by decide) rfl rfl ⟨Nat.one_pos, trivial, trivial, trivial⟩ (KX9_way (l := l) (G := G) (A := (fun q : Nat => s.heap.size ≤ q)) (d := 16) (J_way (xs (nI i + 1).toNatClampNeg) (xs (nI i + 2).toNatClampNeg) hR)) (Nat.le_of_ble_eq_true rfl) hP hS hl.1 (fun r σ1 H locs hok hk hP hS => ?_)
  obtain ⟨v1, rfl, hk1⟩ := hk
  refine W.eq (g2 := F0 m 435 ls [.int v1]) rfl ?_
  refine lv_aload_n hx hb dL_law_435 rfl (lv_at hl 1 rfl) ?_
  refine lv_aload_n hx hb dL_law_436 rfl (lv_at hl 3 rfl) ?_
  refine lv_iload_n hx hb dL_law_437 rfl (lv_at hl 0 rfl) ?_
  refine lv_iconst (v := 1) hx hb dL_law_438 (by decide) ?_
  refine lv_iadd hx hb dL_law_439 ?_
  refine va_sld hx hb hX hbl hbA hS h1 dL_law_440 ?_
  refine lv_aload_n hx hb dL_law_441 rfl (lv_at hl 3 rfl) ?_
  refine lv_iload_n hx hb dL_law_442 rfl (lv_at hl 0 rfl) ?_
  refine lv_iconst (v := 2) hx hb dL_law_443 (by decide) ?_
  refine lv_iadd hx hb dL_law_444 ?_
  refine va_sld hx hb hX hbl hbA hS h2 dL_law_445 ?_
  refine L_call (as := [.inl (xs (nI i + 1).toNatClampNeg), .inl (xs (nI i + 2).toNatClampNeg)]) (f := 10) (rest := [.int v1]) E dL_law_446 rfl (by decide) rfl rfl ⟨Nat.one_pos, trivial, trivial, trivial⟩ (KX10_way (l := l) (G := G) (A := (fun q : Nat => s.heap.size ≤ q)) (d := 17) hk1) (Nat.le_of_ble_eq_true rfl) hP hS hl.1 (fun r σ2 H locs hok hk hP hS => ?_)
  obtain ⟨v2, rfl, hk2⟩ := hk
  refine W.eq (g2 := F0 m 449 ls [.int v2, .int v1]) rfl ?_
  exact lv_icmp_eq (tgt := 1216) hx hb dL_law_449 (by decide) (fun _ => kk σ2 H locs hk2.2 hP hS) (fun c1 => absurd hk2.1 c1)
set_option maxHeartbeats 4000000 in
set_option maxRecDepth 100000 in
theorem law_c8 {p : Program} {l : Launch} {e : Env} {s : State} {m : MethodId} {below : List Frame} {meth : Method} {c : Code} {b L : Nat} {xs : Nat → Int32} {G : gG} (hL : L ≤ 3072) (C0 : lw_At p s m meth c b L xs) (E : gEv p room_1 s m #[Value.ref b] c G (fun q : Nat => s.heap.size ≤ q) 11 code 4 20 84 4034) {i : Nat} {σ : gT} {H : Heap} {locs : List Loc} {ls : Array Slot} (hi : i + 6 ≤ L) (hR : gR σ) (hP : va_P G.2.2.1 gCl (gW G σ) H) (hS : va_S (fun q : Nat => s.heap.size ≤ q) s.heap H locs) (hl : lv_has ls 4 [(3, .int (nI i)), (2, .ref (G.1 10 0)), (1, .ref (G.1 9 0)), (0, .ref b)]) (kk : ∀ (σ2 : gT) (H2 : Heap) (locs2 : List Loc), gR σ2 → va_P G.2.2.1 gCl (gW G σ2) H2 → va_S (fun q : Nat => s.heap.size ≤ q) s.heap H2 locs2 → W p l e room_1 s m #[Value.ref b] below meth c H2 locs2 84 4034 (lw_Z below #[Value.ref b] s) (F0 m 1216 ls [])) : W p l e room_1 s m #[Value.ref b] below meth c H locs 84 4034 (lw_Z below #[Value.ref b] s) (F0 m 454 ls []) := by
  obtain ⟨hx, hb, hr, hml, hown, hts0, hX, hbl, hlocks, hgv⟩ := C0
  have hts := E.2.2.2.2.1
  have hbA : ¬ (fun q : Nat => s.heap.size ≤ q) b := Nat.not_le.mpr hbl
  have h1 : vp_in (nI i + 1) L := by rw [show nI i + 1 = nI (i + 1) from nI_add i 1]; exact vp_in_nI (by omega) (by omega)
  have h2 : vp_in (nI i + 2) L := by rw [show nI i + 2 = nI (i + 2) from nI_add i 2]; exact vp_in_nI (by omega) (by omega)
  have h3 : vp_in (nI i + 3) L := by rw [show nI i + 3 = nI (i + 3) from nI_add i 3]; exact vp_in_nI (by omega) (by omega)
  have h4 : vp_in (nI i + 4) L := by rw [show nI i + 4 = nI (i + 4) from nI_add i 4]; exact vp_in_nI (by omega) (by omega)
  have h5 : vp_in (nI i + 5) L := by rw [show nI i + 5 = nI (i + 5) from nI_add i 5]; exact vp_in_nI (by omega) (by omega)
  refine lv_aload_n hx hb dL_law_454 rfl (lv_at hl 2 rfl) ?_
  refine lv_aload_n hx hb dL_law_455 rfl (lv_at hl 3 rfl) ?_
  refine lv_iload_n hx hb dL_law_456 rfl (lv_at hl 0 rfl) ?_
  refine lv_iconst (v := 1) hx hb dL_law_457 (by decide) ?_
  refine lv_iadd hx hb dL_law_458 ?_
  refine va_sld hx hb hX hbl hbA hS h1 dL_law_459 ?_
  refine lv_aload_n hx hb dL_law_460 rfl (lv_at hl 3 rfl) ?_
  refine lv_iload_n hx hb dL_law_461 rfl (lv_at hl 0 rfl) ?_
  refine lv_iconst (v := 2) hx hb dL_law_462 (by decide) ?_
  refine lv_iadd hx hb dL_law_463 ?_
  refine va_sld hx hb hX hbl hbA hS h2 dL_law_464 ?_
  refine lv_aload_n hx hb dL_law_465 rfl (lv_at hl 3 rfl) ?_
  refine lv_iload_n hx hb dL_law_466 rfl (lv_at hl 0 rfl) ?_
  refine lv_iconst (v := 3) hx hb dL_law_467 (by decide) ?_
  refine lv_iadd hx hb dL_law_468 ?_
  refine va_sld hx hb hX hbl hbA hS h3 dL_law_469 ?_
  refine L_call (as := [.inl (xs (nI i + 1).toNatClampNeg), .inl (xs (nI i + 2).toNatClampNeg), .inl (xs (nI i + 3).toNatClampNeg)]) (f := 9) (rest := []) E dL_law_470 rfl (by decide) rfl rfl ⟨Nat.one_pos, trivial, trivial, trivial, trivial⟩ (KX9_lay (l := l) (G := G) (A := (fun q : Nat => s.heap.size ≤ q)) (d := 17) (J_lay (xs (nI i + 1).toNatClampNeg) (xs (nI i + 2).toNatClampNeg) (xs (nI i + 3).toNatClampNeg) hR)) (Nat.le_of_ble_eq_true rfl) hP hS hl.1 (fun r σ1 H locs hok hk hP hS => ?_)
  obtain ⟨v1, rfl, hk1⟩ := hk
  refine W.eq (g2 := F0 m 473 ls [.int v1]) rfl ?_
  refine lv_aload_n hx hb dL_law_473 rfl (lv_at hl 1 rfl) ?_
  refine lv_aload_n hx hb dL_law_474 rfl (lv_at hl 3 rfl) ?_
  refine lv_iload_n hx hb dL_law_475 rfl (lv_at hl 0 rfl) ?_
  refine lv_iconst (v := 1) hx hb dL_law_476 (by decide) ?_
  refine lv_iadd hx hb dL_law_477 ?_
  refine va_sld hx hb hX hbl hbA hS h1 dL_law_478 ?_
  refine lv_aload_n hx hb dL_law_479 rfl (lv_at hl 3 rfl) ?_
  refine lv_iload_n hx hb dL_law_480 rfl (lv_at hl 0 rfl) ?_
  refine lv_iconst (v := 2) hx hb dL_law_481 (by decide) ?_
  refine lv_iadd hx hb dL_law_482 ?_
  refine va_sld hx hb hX hbl hbA hS h2 dL_law_483 ?_
  refine lv_aload_n hx hb dL_law_484 rfl (lv_at hl 3 rfl) ?_
  refine lv_iload_n hx hb dL_law_485 rfl (lv_at hl 0 rfl) ?_
  refine lv_iconst (v := 3) hx hb dL_law_486 (by decide) ?_
  refine lv_iadd hx hb dL_law_487 ?_
  refine va_sld hx hb hX hbl hbA hS h3 dL_law_488 ?_
  refine L_call (as := [.inl (xs (nI i + 1).toNatClampNeg), .inl (xs (nI i + 2).toNatClampNeg), .inl (xs (nI i + 3).toNatClampNeg)]) (f := 10) (rest := [.int v1]) E dL_law_489 rfl (by decide) rfl rfl ⟨Nat.one_pos, trivial, trivial, trivial, trivial⟩ (KX10_lay (l := l) (G := G) (A := (fun q : Nat => s.heap.size ≤ q)) (d := 17) hk1) (Nat.le_of_ble_eq_true rfl) hP hS hl.1 (fun r σ2 H locs hok hk hP hS => ?_)
  obtain ⟨v2, rfl, hk2⟩ := hk
  refine W.eq (g2 := F0 m 492 ls [.int v2, .int v1]) rfl ?_
  exact lv_icmp_eq (tgt := 1216) hx hb dL_law_492 (by decide) (fun _ => kk σ2 H locs hk2.2 hP hS) (fun c1 => absurd hk2.1 c1)
set_option maxHeartbeats 4000000 in
set_option maxRecDepth 100000 in
theorem law_c9 {p : Program} {l : Launch} {e : Env} {s : State} {m : MethodId} {below : List Frame} {meth : Method} {c : Code} {b L : Nat} {xs : Nat → Int32} {G : gG} (hL : L ≤ 3072) (C0 : lw_At p s m meth c b L xs) (E : gEv p room_1 s m #[Value.ref b] c G (fun q : Nat => s.heap.size ≤ q) 11 code 4 20 84 4034) {i : Nat} {σ : gT} {H : Heap} {locs : List Loc} {ls : Array Slot} (hi : i + 6 ≤ L) (hR : gR σ) (hP : va_P G.2.2.1 gCl (gW G σ) H) (hS : va_S (fun q : Nat => s.heap.size ≤ q) s.heap H locs) (hl : lv_has ls 4 [(3, .int (nI i)), (2, .ref (G.1 10 0)), (1, .ref (G.1 9 0)), (0, .ref b)]) (kk : ∀ (σ2 : gT) (H2 : Heap) (locs2 : List Loc), gR σ2 → va_P G.2.2.1 gCl (gW G σ2) H2 → va_S (fun q : Nat => s.heap.size ≤ q) s.heap H2 locs2 → W p l e room_1 s m #[Value.ref b] below meth c H2 locs2 84 4034 (lw_Z below #[Value.ref b] s) (F0 m 1216 ls [])) : W p l e room_1 s m #[Value.ref b] below meth c H locs 84 4034 (lw_Z below #[Value.ref b] s) (F0 m 497 ls []) := by
  obtain ⟨hx, hb, hr, hml, hown, hts0, hX, hbl, hlocks, hgv⟩ := C0
  have hts := E.2.2.2.2.1
  have hbA : ¬ (fun q : Nat => s.heap.size ≤ q) b := Nat.not_le.mpr hbl
  have h1 : vp_in (nI i + 1) L := by rw [show nI i + 1 = nI (i + 1) from nI_add i 1]; exact vp_in_nI (by omega) (by omega)
  have h2 : vp_in (nI i + 2) L := by rw [show nI i + 2 = nI (i + 2) from nI_add i 2]; exact vp_in_nI (by omega) (by omega)
  have h3 : vp_in (nI i + 3) L := by rw [show nI i + 3 = nI (i + 3) from nI_add i 3]; exact vp_in_nI (by omega) (by omega)
  have h4 : vp_in (nI i + 4) L := by rw [show nI i + 4 = nI (i + 4) from nI_add i 4]; exact vp_in_nI (by omega) (by omega)
  have h5 : vp_in (nI i + 5) L := by rw [show nI i + 5 = nI (i + 5) from nI_add i 5]; exact vp_in_nI (by omega) (by omega)
  refine lv_aload_n hx hb dL_law_497 rfl (lv_at hl 2 rfl) ?_
  refine lv_aload_n hx hb dL_law_498 rfl (lv_at hl 3 rfl) ?_
  refine lv_iload_n hx hb dL_law_499 rfl (lv_at hl 0 rfl) ?_
  refine lv_iconst (v := 1) hx hb dL_law_500 (by decide) ?_
  refine lv_iadd hx hb dL_law_501 ?_
  refine va_sld hx hb hX hbl hbA hS h1 dL_law_502 ?_
  refine lv_aload_n hx hb dL_law_503 rfl (lv_at hl 3 rfl) ?_
  refine lv_iload_n hx hb dL_law_504 rfl (lv_at hl 0 rfl) ?_
  refine lv_iconst (v := 2) hx hb dL_law_505 (by decide) ?_
  refine lv_iadd hx hb dL_law_506 ?_
  refine va_sld hx hb hX hbl hbA hS h2 dL_law_507 ?_
  refine lv_aload_n hx hb dL_law_508 rfl (lv_at hl 3 rfl) ?_
  refine lv_iload_n hx hb dL_law_509 rfl (lv_at hl 0 rfl) ?_
  refine lv_iconst (v := 3) hx hb dL_law_510 (by decide) ?_
  refine lv_iadd hx hb dL_law_511 ?_
  refine va_sld hx hb hX hbl hbA hS h3 dL_law_512 ?_
  refine L_call (as := [.inl (xs (nI i + 1).toNatClampNeg), .inl (xs (nI i + 2).toNatClampNeg), .inl (xs (nI i + 3).toNatClampNeg)]) (f := 9) (rest := []) E dL_law_513 rfl (by decide) rfl rfl ⟨Nat.one_pos, trivial, trivial, trivial, trivial⟩ (KX9_part (l := l) (G := G) (A := (fun q : Nat => s.heap.size ≤ q)) (d := 17) (J_part (xs (nI i + 1).toNatClampNeg) (xs (nI i + 2).toNatClampNeg) (xs (nI i + 3).toNatClampNeg) hR)) (Nat.le_of_ble_eq_true rfl) hP hS hl.1 (fun r σ1 H locs hok hk hP hS => ?_)
  obtain ⟨v1, rfl, hk1⟩ := hk
  refine W.eq (g2 := F0 m 516 ls [.int v1]) rfl ?_
  refine lv_aload_n hx hb dL_law_516 rfl (lv_at hl 1 rfl) ?_
  refine lv_aload_n hx hb dL_law_517 rfl (lv_at hl 3 rfl) ?_
  refine lv_iload_n hx hb dL_law_518 rfl (lv_at hl 0 rfl) ?_
  refine lv_iconst (v := 1) hx hb dL_law_519 (by decide) ?_
  refine lv_iadd hx hb dL_law_520 ?_
  refine va_sld hx hb hX hbl hbA hS h1 dL_law_521 ?_
  refine lv_aload_n hx hb dL_law_522 rfl (lv_at hl 3 rfl) ?_
  refine lv_iload_n hx hb dL_law_523 rfl (lv_at hl 0 rfl) ?_
  refine lv_iconst (v := 2) hx hb dL_law_524 (by decide) ?_
  refine lv_iadd hx hb dL_law_525 ?_
  refine va_sld hx hb hX hbl hbA hS h2 dL_law_526 ?_
  refine lv_aload_n hx hb dL_law_527 rfl (lv_at hl 3 rfl) ?_
  refine lv_iload_n hx hb dL_law_528 rfl (lv_at hl 0 rfl) ?_
  refine lv_iconst (v := 3) hx hb dL_law_529 (by decide) ?_
  refine lv_iadd hx hb dL_law_530 ?_
  refine va_sld hx hb hX hbl hbA hS h3 dL_law_531 ?_
  refine L_call (as := [.inl (xs (nI i + 1).toNatClampNeg), .inl (xs (nI i + 2).toNatClampNeg), .inl (xs (nI i + 3).toNatClampNeg)]) (f := 10) (rest := [.int v1]) E dL_law_532 rfl (by decide) rfl rfl ⟨Nat.one_pos, trivial, trivial, trivial, trivial⟩ (KX10_part (l := l) (G := G) (A := (fun q : Nat => s.heap.size ≤ q)) (d := 17) hk1) (Nat.le_of_ble_eq_true rfl) hP hS hl.1 (fun r σ2 H locs hok hk hP hS => ?_)
  obtain ⟨v2, rfl, hk2⟩ := hk
  refine W.eq (g2 := F0 m 535 ls [.int v2, .int v1]) rfl ?_
  exact lv_icmp_eq (tgt := 1216) hx hb dL_law_535 (by decide) (fun _ => kk σ2 H locs hk2.2 hP hS) (fun c1 => absurd hk2.1 c1)
set_option maxHeartbeats 4000000 in
set_option maxRecDepth 100000 in
theorem law_c10 {p : Program} {l : Launch} {e : Env} {s : State} {m : MethodId} {below : List Frame} {meth : Method} {c : Code} {b L : Nat} {xs : Nat → Int32} {G : gG} (hL : L ≤ 3072) (C0 : lw_At p s m meth c b L xs) (E : gEv p room_1 s m #[Value.ref b] c G (fun q : Nat => s.heap.size ≤ q) 11 code 4 20 84 4034) {i : Nat} {σ : gT} {H : Heap} {locs : List Loc} {ls : Array Slot} (hi : i + 6 ≤ L) (hR : gR σ) (hP : va_P G.2.2.1 gCl (gW G σ) H) (hS : va_S (fun q : Nat => s.heap.size ≤ q) s.heap H locs) (hl : lv_has ls 4 [(3, .int (nI i)), (2, .ref (G.1 10 0)), (1, .ref (G.1 9 0)), (0, .ref b)]) (kk : ∀ (σ2 : gT) (H2 : Heap) (locs2 : List Loc), gR σ2 → va_P G.2.2.1 gCl (gW G σ2) H2 → va_S (fun q : Nat => s.heap.size ≤ q) s.heap H2 locs2 → W p l e room_1 s m #[Value.ref b] below meth c H2 locs2 84 4034 (lw_Z below #[Value.ref b] s) (F0 m 1216 ls [])) : W p l e room_1 s m #[Value.ref b] below meth c H locs 84 4034 (lw_Z below #[Value.ref b] s) (F0 m 540 ls []) := by
  obtain ⟨hx, hb, hr, hml, hown, hts0, hX, hbl, hlocks, hgv⟩ := C0
  have hts := E.2.2.2.2.1
  have hbA : ¬ (fun q : Nat => s.heap.size ≤ q) b := Nat.not_le.mpr hbl
  have h1 : vp_in (nI i + 1) L := by rw [show nI i + 1 = nI (i + 1) from nI_add i 1]; exact vp_in_nI (by omega) (by omega)
  have h2 : vp_in (nI i + 2) L := by rw [show nI i + 2 = nI (i + 2) from nI_add i 2]; exact vp_in_nI (by omega) (by omega)
  have h3 : vp_in (nI i + 3) L := by rw [show nI i + 3 = nI (i + 3) from nI_add i 3]; exact vp_in_nI (by omega) (by omega)
  have h4 : vp_in (nI i + 4) L := by rw [show nI i + 4 = nI (i + 4) from nI_add i 4]; exact vp_in_nI (by omega) (by omega)
  have h5 : vp_in (nI i + 5) L := by rw [show nI i + 5 = nI (i + 5) from nI_add i 5]; exact vp_in_nI (by omega) (by omega)
  refine lv_aload_n hx hb dL_law_540 rfl (lv_at hl 2 rfl) ?_
  refine lv_aload_n hx hb dL_law_541 rfl (lv_at hl 3 rfl) ?_
  refine lv_iload_n hx hb dL_law_542 rfl (lv_at hl 0 rfl) ?_
  refine lv_iconst (v := 1) hx hb dL_law_543 (by decide) ?_
  refine lv_iadd hx hb dL_law_544 ?_
  refine va_sld hx hb hX hbl hbA hS h1 dL_law_545 ?_
  refine lv_aload_n hx hb dL_law_546 rfl (lv_at hl 3 rfl) ?_
  refine lv_iload_n hx hb dL_law_547 rfl (lv_at hl 0 rfl) ?_
  refine lv_iconst (v := 2) hx hb dL_law_548 (by decide) ?_
  refine lv_iadd hx hb dL_law_549 ?_
  refine va_sld hx hb hX hbl hbA hS h2 dL_law_550 ?_
  refine L_call (as := [.inl (xs (nI i + 1).toNatClampNeg), .inl (xs (nI i + 2).toNatClampNeg)]) (f := 9) (rest := []) E dL_law_551 rfl (by decide) rfl rfl ⟨Nat.one_pos, trivial, trivial, trivial⟩ (KX9_bright (l := l) (G := G) (A := (fun q : Nat => s.heap.size ≤ q)) (d := 17) (J_bright (xs (nI i + 1).toNatClampNeg) (xs (nI i + 2).toNatClampNeg) hR)) (Nat.le_of_ble_eq_true rfl) hP hS hl.1 (fun r σ1 H locs hok hk hP hS => ?_)
  obtain ⟨v1, rfl, hk1⟩ := hk
  refine W.eq (g2 := F0 m 554 ls [.long v1]) rfl ?_
  refine lv_aload_n hx hb dL_law_554 rfl (lv_at hl 1 rfl) ?_
  refine lv_aload_n hx hb dL_law_555 rfl (lv_at hl 3 rfl) ?_
  refine lv_iload_n hx hb dL_law_556 rfl (lv_at hl 0 rfl) ?_
  refine lv_iconst (v := 1) hx hb dL_law_557 (by decide) ?_
  refine lv_iadd hx hb dL_law_558 ?_
  refine va_sld hx hb hX hbl hbA hS h1 dL_law_559 ?_
  refine lv_aload_n hx hb dL_law_560 rfl (lv_at hl 3 rfl) ?_
  refine lv_iload_n hx hb dL_law_561 rfl (lv_at hl 0 rfl) ?_
  refine lv_iconst (v := 2) hx hb dL_law_562 (by decide) ?_
  refine lv_iadd hx hb dL_law_563 ?_
  refine va_sld hx hb hX hbl hbA hS h2 dL_law_564 ?_
  refine L_call (as := [.inl (xs (nI i + 1).toNatClampNeg), .inl (xs (nI i + 2).toNatClampNeg)]) (f := 10) (rest := [.long v1]) E dL_law_565 rfl (by decide) rfl rfl ⟨Nat.one_pos, trivial, trivial, trivial⟩ (KX10_bright (l := l) (G := G) (A := (fun q : Nat => s.heap.size ≤ q)) (d := 17) hk1) (Nat.le_of_ble_eq_true rfl) hP hS hl.1 (fun r σ2 H locs hok hk hP hS => ?_)
  obtain ⟨v2, rfl, hk2⟩ := hk
  refine W.eq (g2 := F0 m 568 ls [.long v2, .long v1]) rfl ?_
  refine W.lcmp hx hb dL_law_568 ?_
  exact lv_if_eq (tgt := 1216) hx hb dL_law_569 (by decide) (fun _ => kk σ2 H locs hk2.2 hP hS) (fun c1 => absurd ((cmp_eq0 v1 v2).mpr hk2.1) c1)
set_option maxHeartbeats 4000000 in
set_option maxRecDepth 100000 in
theorem law_c11 {p : Program} {l : Launch} {e : Env} {s : State} {m : MethodId} {below : List Frame} {meth : Method} {c : Code} {b L : Nat} {xs : Nat → Int32} {G : gG} (hL : L ≤ 3072) (C0 : lw_At p s m meth c b L xs) (E : gEv p room_1 s m #[Value.ref b] c G (fun q : Nat => s.heap.size ≤ q) 11 code 4 20 84 4034) {i : Nat} {σ : gT} {H : Heap} {locs : List Loc} {ls : Array Slot} (hi : i + 6 ≤ L) (hR : gR σ) (hP : va_P G.2.2.1 gCl (gW G σ) H) (hS : va_S (fun q : Nat => s.heap.size ≤ q) s.heap H locs) (hl : lv_has ls 4 [(3, .int (nI i)), (2, .ref (G.1 10 0)), (1, .ref (G.1 9 0)), (0, .ref b)]) (kk : ∀ (σ2 : gT) (H2 : Heap) (locs2 : List Loc), gR σ2 → va_P G.2.2.1 gCl (gW G σ2) H2 → va_S (fun q : Nat => s.heap.size ≤ q) s.heap H2 locs2 → W p l e room_1 s m #[Value.ref b] below meth c H2 locs2 84 4034 (lw_Z below #[Value.ref b] s) (F0 m 1216 ls [])) : W p l e room_1 s m #[Value.ref b] below meth c H locs 84 4034 (lw_Z below #[Value.ref b] s) (F0 m 574 ls []) := by
  obtain ⟨hx, hb, hr, hml, hown, hts0, hX, hbl, hlocks, hgv⟩ := C0
  have hts := E.2.2.2.2.1
  have hbA : ¬ (fun q : Nat => s.heap.size ≤ q) b := Nat.not_le.mpr hbl
  have h1 : vp_in (nI i + 1) L := by rw [show nI i + 1 = nI (i + 1) from nI_add i 1]; exact vp_in_nI (by omega) (by omega)
  have h2 : vp_in (nI i + 2) L := by rw [show nI i + 2 = nI (i + 2) from nI_add i 2]; exact vp_in_nI (by omega) (by omega)
  have h3 : vp_in (nI i + 3) L := by rw [show nI i + 3 = nI (i + 3) from nI_add i 3]; exact vp_in_nI (by omega) (by omega)
  have h4 : vp_in (nI i + 4) L := by rw [show nI i + 4 = nI (i + 4) from nI_add i 4]; exact vp_in_nI (by omega) (by omega)
  have h5 : vp_in (nI i + 5) L := by rw [show nI i + 5 = nI (i + 5) from nI_add i 5]; exact vp_in_nI (by omega) (by omega)
  refine lv_aload_n hx hb dL_law_574 rfl (lv_at hl 2 rfl) ?_
  refine lv_aload_n hx hb dL_law_575 rfl (lv_at hl 3 rfl) ?_
  refine lv_iload_n hx hb dL_law_576 rfl (lv_at hl 0 rfl) ?_
  refine lv_iconst (v := 1) hx hb dL_law_577 (by decide) ?_
  refine lv_iadd hx hb dL_law_578 ?_
  refine va_sld hx hb hX hbl hbA hS h1 dL_law_579 ?_
  refine lv_aload_n hx hb dL_law_580 rfl (lv_at hl 3 rfl) ?_
  refine lv_iload_n hx hb dL_law_581 rfl (lv_at hl 0 rfl) ?_
  refine lv_iconst (v := 2) hx hb dL_law_582 (by decide) ?_
  refine lv_iadd hx hb dL_law_583 ?_
  refine va_sld hx hb hX hbl hbA hS h2 dL_law_584 ?_
  refine lv_aload_n hx hb dL_law_585 rfl (lv_at hl 3 rfl) ?_
  refine lv_iload_n hx hb dL_law_586 rfl (lv_at hl 0 rfl) ?_
  refine lv_iconst (v := 3) hx hb dL_law_587 (by decide) ?_
  refine lv_iadd hx hb dL_law_588 ?_
  refine va_sld hx hb hX hbl hbA hS h3 dL_law_589 ?_
  refine L_call (as := [.inl (xs (nI i + 1).toNatClampNeg), .inl (xs (nI i + 2).toNatClampNeg), .inl (xs (nI i + 3).toNatClampNeg)]) (f := 9) (rest := []) E dL_law_590 rfl (by decide) rfl rfl ⟨Nat.one_pos, trivial, trivial, trivial, trivial⟩ (KX9_moved (l := l) (G := G) (A := (fun q : Nat => s.heap.size ≤ q)) (d := 17) (J_moved (xs (nI i + 1).toNatClampNeg) (xs (nI i + 2).toNatClampNeg) (xs (nI i + 3).toNatClampNeg) hR)) (Nat.le_of_ble_eq_true rfl) hP hS hl.1 (fun r σ1 H locs hok hk hP hS => ?_)
  obtain ⟨v1, rfl, hk1⟩ := hk
  refine W.eq (g2 := F0 m 593 ls [.int v1]) rfl ?_
  refine lv_aload_n hx hb dL_law_593 rfl (lv_at hl 1 rfl) ?_
  refine lv_aload_n hx hb dL_law_594 rfl (lv_at hl 3 rfl) ?_
  refine lv_iload_n hx hb dL_law_595 rfl (lv_at hl 0 rfl) ?_
  refine lv_iconst (v := 1) hx hb dL_law_596 (by decide) ?_
  refine lv_iadd hx hb dL_law_597 ?_
  refine va_sld hx hb hX hbl hbA hS h1 dL_law_598 ?_
  refine lv_aload_n hx hb dL_law_599 rfl (lv_at hl 3 rfl) ?_
  refine lv_iload_n hx hb dL_law_600 rfl (lv_at hl 0 rfl) ?_
  refine lv_iconst (v := 2) hx hb dL_law_601 (by decide) ?_
  refine lv_iadd hx hb dL_law_602 ?_
  refine va_sld hx hb hX hbl hbA hS h2 dL_law_603 ?_
  refine lv_aload_n hx hb dL_law_604 rfl (lv_at hl 3 rfl) ?_
  refine lv_iload_n hx hb dL_law_605 rfl (lv_at hl 0 rfl) ?_
  refine lv_iconst (v := 3) hx hb dL_law_606 (by decide) ?_
  refine lv_iadd hx hb dL_law_607 ?_
  refine va_sld hx hb hX hbl hbA hS h3 dL_law_608 ?_
  refine L_call (as := [.inl (xs (nI i + 1).toNatClampNeg), .inl (xs (nI i + 2).toNatClampNeg), .inl (xs (nI i + 3).toNatClampNeg)]) (f := 10) (rest := [.int v1]) E dL_law_609 rfl (by decide) rfl rfl ⟨Nat.one_pos, trivial, trivial, trivial, trivial⟩ (KX10_moved (l := l) (G := G) (A := (fun q : Nat => s.heap.size ≤ q)) (d := 17) hk1) (Nat.le_of_ble_eq_true rfl) hP hS hl.1 (fun r σ2 H locs hok hk hP hS => ?_)
  obtain ⟨v2, rfl, hk2⟩ := hk
  refine W.eq (g2 := F0 m 612 ls [.int v2, .int v1]) rfl ?_
  exact lv_icmp_eq (tgt := 1216) hx hb dL_law_612 (by decide) (fun _ => kk σ2 H locs hk2.2 hP hS) (fun c1 => absurd hk2.1 c1)
set_option maxHeartbeats 4000000 in
set_option maxRecDepth 100000 in
theorem law_c12 {p : Program} {l : Launch} {e : Env} {s : State} {m : MethodId} {below : List Frame} {meth : Method} {c : Code} {b L : Nat} {xs : Nat → Int32} {G : gG} (hL : L ≤ 3072) (C0 : lw_At p s m meth c b L xs) (E : gEv p room_1 s m #[Value.ref b] c G (fun q : Nat => s.heap.size ≤ q) 11 code 4 20 84 4034) {i : Nat} {σ : gT} {H : Heap} {locs : List Loc} {ls : Array Slot} (hi : i + 6 ≤ L) (hR : gR σ) (hP : va_P G.2.2.1 gCl (gW G σ) H) (hS : va_S (fun q : Nat => s.heap.size ≤ q) s.heap H locs) (hl : lv_has ls 4 [(3, .int (nI i)), (2, .ref (G.1 10 0)), (1, .ref (G.1 9 0)), (0, .ref b)]) (kk : ∀ (σ2 : gT) (H2 : Heap) (locs2 : List Loc), gR σ2 → va_P G.2.2.1 gCl (gW G σ2) H2 → va_S (fun q : Nat => s.heap.size ≤ q) s.heap H2 locs2 → W p l e room_1 s m #[Value.ref b] below meth c H2 locs2 84 4034 (lw_Z below #[Value.ref b] s) (F0 m 1216 ls [])) : W p l e room_1 s m #[Value.ref b] below meth c H locs 84 4034 (lw_Z below #[Value.ref b] s) (F0 m 617 ls []) := by
  obtain ⟨hx, hb, hr, hml, hown, hts0, hX, hbl, hlocks, hgv⟩ := C0
  have hts := E.2.2.2.2.1
  have hbA : ¬ (fun q : Nat => s.heap.size ≤ q) b := Nat.not_le.mpr hbl
  have h1 : vp_in (nI i + 1) L := by rw [show nI i + 1 = nI (i + 1) from nI_add i 1]; exact vp_in_nI (by omega) (by omega)
  have h2 : vp_in (nI i + 2) L := by rw [show nI i + 2 = nI (i + 2) from nI_add i 2]; exact vp_in_nI (by omega) (by omega)
  have h3 : vp_in (nI i + 3) L := by rw [show nI i + 3 = nI (i + 3) from nI_add i 3]; exact vp_in_nI (by omega) (by omega)
  have h4 : vp_in (nI i + 4) L := by rw [show nI i + 4 = nI (i + 4) from nI_add i 4]; exact vp_in_nI (by omega) (by omega)
  have h5 : vp_in (nI i + 5) L := by rw [show nI i + 5 = nI (i + 5) from nI_add i 5]; exact vp_in_nI (by omega) (by omega)
  refine lv_aload_n hx hb dL_law_617 rfl (lv_at hl 2 rfl) ?_
  refine lv_aload_n hx hb dL_law_618 rfl (lv_at hl 3 rfl) ?_
  refine lv_iload_n hx hb dL_law_619 rfl (lv_at hl 0 rfl) ?_
  refine lv_iconst (v := 1) hx hb dL_law_620 (by decide) ?_
  refine lv_iadd hx hb dL_law_621 ?_
  refine va_sld hx hb hX hbl hbA hS h1 dL_law_622 ?_
  refine lv_aload_n hx hb dL_law_623 rfl (lv_at hl 3 rfl) ?_
  refine lv_iload_n hx hb dL_law_624 rfl (lv_at hl 0 rfl) ?_
  refine lv_iconst (v := 2) hx hb dL_law_625 (by decide) ?_
  refine lv_iadd hx hb dL_law_626 ?_
  refine va_sld hx hb hX hbl hbA hS h2 dL_law_627 ?_
  refine lv_aload_n hx hb dL_law_628 rfl (lv_at hl 3 rfl) ?_
  refine lv_iload_n hx hb dL_law_629 rfl (lv_at hl 0 rfl) ?_
  refine lv_iconst (v := 3) hx hb dL_law_630 (by decide) ?_
  refine lv_iadd hx hb dL_law_631 ?_
  refine va_sld hx hb hX hbl hbA hS h3 dL_law_632 ?_
  refine lv_aload_n hx hb dL_law_633 rfl (lv_at hl 3 rfl) ?_
  refine lv_iload_n hx hb dL_law_634 rfl (lv_at hl 0 rfl) ?_
  refine lv_iconst (v := 4) hx hb dL_law_635 (by decide) ?_
  refine lv_iadd hx hb dL_law_636 ?_
  refine va_sld hx hb hX hbl hbA hS h4 dL_law_637 ?_
  refine L_call (as := [.inl (xs (nI i + 1).toNatClampNeg), .inl (xs (nI i + 2).toNatClampNeg), .inl (xs (nI i + 3).toNatClampNeg), .inl (xs (nI i + 4).toNatClampNeg)]) (f := 9) (rest := []) E dL_law_638 rfl (by decide) rfl rfl ⟨Nat.one_pos, trivial, trivial, trivial, trivial, trivial⟩ (KX9_take (l := l) (G := G) (A := (fun q : Nat => s.heap.size ≤ q)) (d := 17) (J_take (xs (nI i + 1).toNatClampNeg) (xs (nI i + 2).toNatClampNeg) (xs (nI i + 3).toNatClampNeg) (xs (nI i + 4).toNatClampNeg) hR)) (Nat.le_of_ble_eq_true rfl) hP hS hl.1 (fun r σ1 H locs hok hk hP hS => ?_)
  obtain ⟨v1, rfl, hk1⟩ := hk
  refine W.eq (g2 := F0 m 641 ls [.int v1]) rfl ?_
  refine lv_aload_n hx hb dL_law_641 rfl (lv_at hl 1 rfl) ?_
  refine lv_aload_n hx hb dL_law_642 rfl (lv_at hl 3 rfl) ?_
  refine lv_iload_n hx hb dL_law_643 rfl (lv_at hl 0 rfl) ?_
  refine lv_iconst (v := 1) hx hb dL_law_644 (by decide) ?_
  refine lv_iadd hx hb dL_law_645 ?_
  refine va_sld hx hb hX hbl hbA hS h1 dL_law_646 ?_
  refine lv_aload_n hx hb dL_law_647 rfl (lv_at hl 3 rfl) ?_
  refine lv_iload_n hx hb dL_law_648 rfl (lv_at hl 0 rfl) ?_
  refine lv_iconst (v := 2) hx hb dL_law_649 (by decide) ?_
  refine lv_iadd hx hb dL_law_650 ?_
  refine va_sld hx hb hX hbl hbA hS h2 dL_law_651 ?_
  refine lv_aload_n hx hb dL_law_652 rfl (lv_at hl 3 rfl) ?_
  refine lv_iload_n hx hb dL_law_653 rfl (lv_at hl 0 rfl) ?_
  refine lv_iconst (v := 3) hx hb dL_law_654 (by decide) ?_
  refine lv_iadd hx hb dL_law_655 ?_
  refine va_sld hx hb hX hbl hbA hS h3 dL_law_656 ?_
  refine lv_aload_n hx hb dL_law_657 rfl (lv_at hl 3 rfl) ?_
  refine lv_iload_n hx hb dL_law_658 rfl (lv_at hl 0 rfl) ?_
  refine lv_iconst (v := 4) hx hb dL_law_659 (by decide) ?_
  refine lv_iadd hx hb dL_law_660 ?_
  refine va_sld hx hb hX hbl hbA hS h4 dL_law_661 ?_
  refine L_call (as := [.inl (xs (nI i + 1).toNatClampNeg), .inl (xs (nI i + 2).toNatClampNeg), .inl (xs (nI i + 3).toNatClampNeg), .inl (xs (nI i + 4).toNatClampNeg)]) (f := 10) (rest := [.int v1]) E dL_law_662 rfl (by decide) rfl rfl ⟨Nat.one_pos, trivial, trivial, trivial, trivial, trivial⟩ (KX10_take (l := l) (G := G) (A := (fun q : Nat => s.heap.size ≤ q)) (d := 17) hk1) (Nat.le_of_ble_eq_true rfl) hP hS hl.1 (fun r σ2 H locs hok hk hP hS => ?_)
  obtain ⟨v2, rfl, hk2⟩ := hk
  refine W.eq (g2 := F0 m 665 ls [.int v2, .int v1]) rfl ?_
  exact lv_icmp_eq (tgt := 1216) hx hb dL_law_665 (by decide) (fun _ => kk σ2 H locs hk2.2 hP hS) (fun c1 => absurd hk2.1 c1)
set_option maxHeartbeats 4000000 in
set_option maxRecDepth 100000 in
theorem law_c13 {p : Program} {l : Launch} {e : Env} {s : State} {m : MethodId} {below : List Frame} {meth : Method} {c : Code} {b L : Nat} {xs : Nat → Int32} {G : gG} (hL : L ≤ 3072) (C0 : lw_At p s m meth c b L xs) (E : gEv p room_1 s m #[Value.ref b] c G (fun q : Nat => s.heap.size ≤ q) 11 code 4 20 84 4034) {i : Nat} {σ : gT} {H : Heap} {locs : List Loc} {ls : Array Slot} (hi : i + 6 ≤ L) (hR : gR σ) (hP : va_P G.2.2.1 gCl (gW G σ) H) (hS : va_S (fun q : Nat => s.heap.size ≤ q) s.heap H locs) (hl : lv_has ls 4 [(3, .int (nI i)), (2, .ref (G.1 10 0)), (1, .ref (G.1 9 0)), (0, .ref b)]) (kk : ∀ (σ2 : gT) (H2 : Heap) (locs2 : List Loc), gR σ2 → va_P G.2.2.1 gCl (gW G σ2) H2 → va_S (fun q : Nat => s.heap.size ≤ q) s.heap H2 locs2 → W p l e room_1 s m #[Value.ref b] below meth c H2 locs2 84 4034 (lw_Z below #[Value.ref b] s) (F0 m 1216 ls [])) : W p l e room_1 s m #[Value.ref b] below meth c H locs 84 4034 (lw_Z below #[Value.ref b] s) (F0 m 670 ls []) := by
  obtain ⟨hx, hb, hr, hml, hown, hts0, hX, hbl, hlocks, hgv⟩ := C0
  have hts := E.2.2.2.2.1
  have hbA : ¬ (fun q : Nat => s.heap.size ≤ q) b := Nat.not_le.mpr hbl
  have h1 : vp_in (nI i + 1) L := by rw [show nI i + 1 = nI (i + 1) from nI_add i 1]; exact vp_in_nI (by omega) (by omega)
  have h2 : vp_in (nI i + 2) L := by rw [show nI i + 2 = nI (i + 2) from nI_add i 2]; exact vp_in_nI (by omega) (by omega)
  have h3 : vp_in (nI i + 3) L := by rw [show nI i + 3 = nI (i + 3) from nI_add i 3]; exact vp_in_nI (by omega) (by omega)
  have h4 : vp_in (nI i + 4) L := by rw [show nI i + 4 = nI (i + 4) from nI_add i 4]; exact vp_in_nI (by omega) (by omega)
  have h5 : vp_in (nI i + 5) L := by rw [show nI i + 5 = nI (i + 5) from nI_add i 5]; exact vp_in_nI (by omega) (by omega)
  refine lv_aload_n hx hb dL_law_670 rfl (lv_at hl 2 rfl) ?_
  refine lv_aload_n hx hb dL_law_671 rfl (lv_at hl 3 rfl) ?_
  refine lv_iload_n hx hb dL_law_672 rfl (lv_at hl 0 rfl) ?_
  refine lv_iconst (v := 1) hx hb dL_law_673 (by decide) ?_
  refine lv_iadd hx hb dL_law_674 ?_
  refine va_sld hx hb hX hbl hbA hS h1 dL_law_675 ?_
  refine lv_aload_n hx hb dL_law_676 rfl (lv_at hl 3 rfl) ?_
  refine lv_iload_n hx hb dL_law_677 rfl (lv_at hl 0 rfl) ?_
  refine lv_iconst (v := 2) hx hb dL_law_678 (by decide) ?_
  refine lv_iadd hx hb dL_law_679 ?_
  refine va_sld hx hb hX hbl hbA hS h2 dL_law_680 ?_
  refine L_call (as := [.inl (xs (nI i + 1).toNatClampNeg), .inl (xs (nI i + 2).toNatClampNeg)]) (f := 9) (rest := []) E dL_law_681 rfl (by decide) rfl rfl ⟨Nat.one_pos, trivial, trivial, trivial⟩ (KX9_lose (l := l) (G := G) (A := (fun q : Nat => s.heap.size ≤ q)) (d := 17) (J_lose (xs (nI i + 1).toNatClampNeg) (xs (nI i + 2).toNatClampNeg) hR)) (Nat.le_of_ble_eq_true rfl) hP hS hl.1 (fun r σ1 H locs hok hk hP hS => ?_)
  obtain ⟨v1, rfl, hk1⟩ := hk
  refine W.eq (g2 := F0 m 684 ls [.int v1]) rfl ?_
  refine lv_aload_n hx hb dL_law_684 rfl (lv_at hl 1 rfl) ?_
  refine lv_aload_n hx hb dL_law_685 rfl (lv_at hl 3 rfl) ?_
  refine lv_iload_n hx hb dL_law_686 rfl (lv_at hl 0 rfl) ?_
  refine lv_iconst (v := 1) hx hb dL_law_687 (by decide) ?_
  refine lv_iadd hx hb dL_law_688 ?_
  refine va_sld hx hb hX hbl hbA hS h1 dL_law_689 ?_
  refine lv_aload_n hx hb dL_law_690 rfl (lv_at hl 3 rfl) ?_
  refine lv_iload_n hx hb dL_law_691 rfl (lv_at hl 0 rfl) ?_
  refine lv_iconst (v := 2) hx hb dL_law_692 (by decide) ?_
  refine lv_iadd hx hb dL_law_693 ?_
  refine va_sld hx hb hX hbl hbA hS h2 dL_law_694 ?_
  refine L_call (as := [.inl (xs (nI i + 1).toNatClampNeg), .inl (xs (nI i + 2).toNatClampNeg)]) (f := 10) (rest := [.int v1]) E dL_law_695 rfl (by decide) rfl rfl ⟨Nat.one_pos, trivial, trivial, trivial⟩ (KX10_lose (l := l) (G := G) (A := (fun q : Nat => s.heap.size ≤ q)) (d := 17) hk1) (Nat.le_of_ble_eq_true rfl) hP hS hl.1 (fun r σ2 H locs hok hk hP hS => ?_)
  obtain ⟨v2, rfl, hk2⟩ := hk
  refine W.eq (g2 := F0 m 698 ls [.int v2, .int v1]) rfl ?_
  exact lv_icmp_eq (tgt := 1216) hx hb dL_law_698 (by decide) (fun _ => kk σ2 H locs hk2.2 hP hS) (fun c1 => absurd hk2.1 c1)
set_option maxHeartbeats 4000000 in
set_option maxRecDepth 100000 in
theorem law_c14 {p : Program} {l : Launch} {e : Env} {s : State} {m : MethodId} {below : List Frame} {meth : Method} {c : Code} {b L : Nat} {xs : Nat → Int32} {G : gG} (hL : L ≤ 3072) (C0 : lw_At p s m meth c b L xs) (E : gEv p room_1 s m #[Value.ref b] c G (fun q : Nat => s.heap.size ≤ q) 11 code 4 20 84 4034) {i : Nat} {σ : gT} {H : Heap} {locs : List Loc} {ls : Array Slot} (hi : i + 6 ≤ L) (hR : gR σ) (hP : va_P G.2.2.1 gCl (gW G σ) H) (hS : va_S (fun q : Nat => s.heap.size ≤ q) s.heap H locs) (hl : lv_has ls 4 [(3, .int (nI i)), (2, .ref (G.1 10 0)), (1, .ref (G.1 9 0)), (0, .ref b)]) (kk : ∀ (σ2 : gT) (H2 : Heap) (locs2 : List Loc), gR σ2 → va_P G.2.2.1 gCl (gW G σ2) H2 → va_S (fun q : Nat => s.heap.size ≤ q) s.heap H2 locs2 → W p l e room_1 s m #[Value.ref b] below meth c H2 locs2 84 4034 (lw_Z below #[Value.ref b] s) (F0 m 1216 ls [])) : W p l e room_1 s m #[Value.ref b] below meth c H locs 84 4034 (lw_Z below #[Value.ref b] s) (F0 m 703 ls []) := by
  obtain ⟨hx, hb, hr, hml, hown, hts0, hX, hbl, hlocks, hgv⟩ := C0
  have hts := E.2.2.2.2.1
  have hbA : ¬ (fun q : Nat => s.heap.size ≤ q) b := Nat.not_le.mpr hbl
  have h1 : vp_in (nI i + 1) L := by rw [show nI i + 1 = nI (i + 1) from nI_add i 1]; exact vp_in_nI (by omega) (by omega)
  have h2 : vp_in (nI i + 2) L := by rw [show nI i + 2 = nI (i + 2) from nI_add i 2]; exact vp_in_nI (by omega) (by omega)
  have h3 : vp_in (nI i + 3) L := by rw [show nI i + 3 = nI (i + 3) from nI_add i 3]; exact vp_in_nI (by omega) (by omega)
  have h4 : vp_in (nI i + 4) L := by rw [show nI i + 4 = nI (i + 4) from nI_add i 4]; exact vp_in_nI (by omega) (by omega)
  have h5 : vp_in (nI i + 5) L := by rw [show nI i + 5 = nI (i + 5) from nI_add i 5]; exact vp_in_nI (by omega) (by omega)
  refine lv_aload_n hx hb dL_law_703 rfl (lv_at hl 2 rfl) ?_
  refine lv_aload_n hx hb dL_law_704 rfl (lv_at hl 3 rfl) ?_
  refine lv_iload_n hx hb dL_law_705 rfl (lv_at hl 0 rfl) ?_
  refine lv_iconst (v := 1) hx hb dL_law_706 (by decide) ?_
  refine lv_iadd hx hb dL_law_707 ?_
  refine va_sld hx hb hX hbl hbA hS h1 dL_law_708 ?_
  refine lv_aload_n hx hb dL_law_709 rfl (lv_at hl 3 rfl) ?_
  refine lv_iload_n hx hb dL_law_710 rfl (lv_at hl 0 rfl) ?_
  refine lv_iconst (v := 2) hx hb dL_law_711 (by decide) ?_
  refine lv_iadd hx hb dL_law_712 ?_
  refine va_sld hx hb hX hbl hbA hS h2 dL_law_713 ?_
  refine L_call (as := [.inl (xs (nI i + 1).toNatClampNeg), .inl (xs (nI i + 2).toNatClampNeg)]) (f := 9) (rest := []) E dL_law_714 rfl (by decide) rfl rfl ⟨Nat.one_pos, trivial, trivial, trivial⟩ (KX9_grain (l := l) (G := G) (A := (fun q : Nat => s.heap.size ≤ q)) (d := 17) (J_grain (xs (nI i + 1).toNatClampNeg) (xs (nI i + 2).toNatClampNeg) hR)) (Nat.le_of_ble_eq_true rfl) hP hS hl.1 (fun r σ1 H locs hok hk hP hS => ?_)
  obtain ⟨v1, rfl, hk1⟩ := hk
  refine W.eq (g2 := F0 m 717 ls [.int v1]) rfl ?_
  refine lv_aload_n hx hb dL_law_717 rfl (lv_at hl 1 rfl) ?_
  refine lv_aload_n hx hb dL_law_718 rfl (lv_at hl 3 rfl) ?_
  refine lv_iload_n hx hb dL_law_719 rfl (lv_at hl 0 rfl) ?_
  refine lv_iconst (v := 1) hx hb dL_law_720 (by decide) ?_
  refine lv_iadd hx hb dL_law_721 ?_
  refine va_sld hx hb hX hbl hbA hS h1 dL_law_722 ?_
  refine lv_aload_n hx hb dL_law_723 rfl (lv_at hl 3 rfl) ?_
  refine lv_iload_n hx hb dL_law_724 rfl (lv_at hl 0 rfl) ?_
  refine lv_iconst (v := 2) hx hb dL_law_725 (by decide) ?_
  refine lv_iadd hx hb dL_law_726 ?_
  refine va_sld hx hb hX hbl hbA hS h2 dL_law_727 ?_
  refine L_call (as := [.inl (xs (nI i + 1).toNatClampNeg), .inl (xs (nI i + 2).toNatClampNeg)]) (f := 10) (rest := [.int v1]) E dL_law_728 rfl (by decide) rfl rfl ⟨Nat.one_pos, trivial, trivial, trivial⟩ (KX10_grain (l := l) (G := G) (A := (fun q : Nat => s.heap.size ≤ q)) (d := 17) hk1) (Nat.le_of_ble_eq_true rfl) hP hS hl.1 (fun r σ2 H locs hok hk hP hS => ?_)
  obtain ⟨v2, rfl, hk2⟩ := hk
  refine W.eq (g2 := F0 m 731 ls [.int v2, .int v1]) rfl ?_
  exact lv_icmp_eq (tgt := 1216) hx hb dL_law_731 (by decide) (fun _ => kk σ2 H locs hk2.2 hP hS) (fun c1 => absurd hk2.1 c1)
set_option maxHeartbeats 4000000 in
set_option maxRecDepth 100000 in
theorem law_c15 {p : Program} {l : Launch} {e : Env} {s : State} {m : MethodId} {below : List Frame} {meth : Method} {c : Code} {b L : Nat} {xs : Nat → Int32} {G : gG} (hL : L ≤ 3072) (C0 : lw_At p s m meth c b L xs) (E : gEv p room_1 s m #[Value.ref b] c G (fun q : Nat => s.heap.size ≤ q) 11 code 4 20 84 4034) {i : Nat} {σ : gT} {H : Heap} {locs : List Loc} {ls : Array Slot} (hi : i + 6 ≤ L) (hR : gR σ) (hP : va_P G.2.2.1 gCl (gW G σ) H) (hS : va_S (fun q : Nat => s.heap.size ≤ q) s.heap H locs) (hl : lv_has ls 4 [(3, .int (nI i)), (2, .ref (G.1 10 0)), (1, .ref (G.1 9 0)), (0, .ref b)]) (kk : ∀ (σ2 : gT) (H2 : Heap) (locs2 : List Loc), gR σ2 → va_P G.2.2.1 gCl (gW G σ2) H2 → va_S (fun q : Nat => s.heap.size ≤ q) s.heap H2 locs2 → W p l e room_1 s m #[Value.ref b] below meth c H2 locs2 84 4034 (lw_Z below #[Value.ref b] s) (F0 m 1216 ls [])) : W p l e room_1 s m #[Value.ref b] below meth c H locs 84 4034 (lw_Z below #[Value.ref b] s) (F0 m 736 ls []) := by
  obtain ⟨hx, hb, hr, hml, hown, hts0, hX, hbl, hlocks, hgv⟩ := C0
  have hts := E.2.2.2.2.1
  have hbA : ¬ (fun q : Nat => s.heap.size ≤ q) b := Nat.not_le.mpr hbl
  have h1 : vp_in (nI i + 1) L := by rw [show nI i + 1 = nI (i + 1) from nI_add i 1]; exact vp_in_nI (by omega) (by omega)
  have h2 : vp_in (nI i + 2) L := by rw [show nI i + 2 = nI (i + 2) from nI_add i 2]; exact vp_in_nI (by omega) (by omega)
  have h3 : vp_in (nI i + 3) L := by rw [show nI i + 3 = nI (i + 3) from nI_add i 3]; exact vp_in_nI (by omega) (by omega)
  have h4 : vp_in (nI i + 4) L := by rw [show nI i + 4 = nI (i + 4) from nI_add i 4]; exact vp_in_nI (by omega) (by omega)
  have h5 : vp_in (nI i + 5) L := by rw [show nI i + 5 = nI (i + 5) from nI_add i 5]; exact vp_in_nI (by omega) (by omega)
  refine lv_aload_n hx hb dL_law_736 rfl (lv_at hl 2 rfl) ?_
  refine lv_aload_n hx hb dL_law_737 rfl (lv_at hl 3 rfl) ?_
  refine lv_iload_n hx hb dL_law_738 rfl (lv_at hl 0 rfl) ?_
  refine lv_iconst (v := 1) hx hb dL_law_739 (by decide) ?_
  refine lv_iadd hx hb dL_law_740 ?_
  refine va_sld hx hb hX hbl hbA hS h1 dL_law_741 ?_
  refine lv_aload_n hx hb dL_law_742 rfl (lv_at hl 3 rfl) ?_
  refine lv_iload_n hx hb dL_law_743 rfl (lv_at hl 0 rfl) ?_
  refine lv_iconst (v := 2) hx hb dL_law_744 (by decide) ?_
  refine lv_iadd hx hb dL_law_745 ?_
  refine va_sld hx hb hX hbl hbA hS h2 dL_law_746 ?_
  refine lv_aload_n hx hb dL_law_747 rfl (lv_at hl 3 rfl) ?_
  refine lv_iload_n hx hb dL_law_748 rfl (lv_at hl 0 rfl) ?_
  refine lv_iconst (v := 3) hx hb dL_law_749 (by decide) ?_
  refine lv_iadd hx hb dL_law_750 ?_
  refine va_sld hx hb hX hbl hbA hS h3 dL_law_751 ?_
  refine L_call (as := [.inl (xs (nI i + 1).toNatClampNeg), .inl (xs (nI i + 2).toNatClampNeg), .inl (xs (nI i + 3).toNatClampNeg)]) (f := 9) (rest := []) E dL_law_752 rfl (by decide) rfl rfl ⟨Nat.one_pos, trivial, trivial, trivial, trivial⟩ (KX9_read (l := l) (G := G) (A := (fun q : Nat => s.heap.size ≤ q)) (d := 17) (J_read (xs (nI i + 1).toNatClampNeg) (xs (nI i + 2).toNatClampNeg) (xs (nI i + 3).toNatClampNeg) hR)) (Nat.le_of_ble_eq_true rfl) hP hS hl.1 (fun r σ1 H locs hok hk hP hS => ?_)
  obtain ⟨v1, rfl, hk1⟩ := hk
  refine W.eq (g2 := F0 m 755 ls [.int v1]) rfl ?_
  refine lv_aload_n hx hb dL_law_755 rfl (lv_at hl 1 rfl) ?_
  refine lv_aload_n hx hb dL_law_756 rfl (lv_at hl 3 rfl) ?_
  refine lv_iload_n hx hb dL_law_757 rfl (lv_at hl 0 rfl) ?_
  refine lv_iconst (v := 1) hx hb dL_law_758 (by decide) ?_
  refine lv_iadd hx hb dL_law_759 ?_
  refine va_sld hx hb hX hbl hbA hS h1 dL_law_760 ?_
  refine lv_aload_n hx hb dL_law_761 rfl (lv_at hl 3 rfl) ?_
  refine lv_iload_n hx hb dL_law_762 rfl (lv_at hl 0 rfl) ?_
  refine lv_iconst (v := 2) hx hb dL_law_763 (by decide) ?_
  refine lv_iadd hx hb dL_law_764 ?_
  refine va_sld hx hb hX hbl hbA hS h2 dL_law_765 ?_
  refine lv_aload_n hx hb dL_law_766 rfl (lv_at hl 3 rfl) ?_
  refine lv_iload_n hx hb dL_law_767 rfl (lv_at hl 0 rfl) ?_
  refine lv_iconst (v := 3) hx hb dL_law_768 (by decide) ?_
  refine lv_iadd hx hb dL_law_769 ?_
  refine va_sld hx hb hX hbl hbA hS h3 dL_law_770 ?_
  refine L_call (as := [.inl (xs (nI i + 1).toNatClampNeg), .inl (xs (nI i + 2).toNatClampNeg), .inl (xs (nI i + 3).toNatClampNeg)]) (f := 10) (rest := [.int v1]) E dL_law_771 rfl (by decide) rfl rfl ⟨Nat.one_pos, trivial, trivial, trivial, trivial⟩ (KX10_read (l := l) (G := G) (A := (fun q : Nat => s.heap.size ≤ q)) (d := 17) hk1) (Nat.le_of_ble_eq_true rfl) hP hS hl.1 (fun r σ2 H locs hok hk hP hS => ?_)
  obtain ⟨v2, rfl, hk2⟩ := hk
  refine W.eq (g2 := F0 m 774 ls [.int v2, .int v1]) rfl ?_
  exact lv_icmp_eq (tgt := 1216) hx hb dL_law_774 (by decide) (fun _ => kk σ2 H locs hk2.2 hP hS) (fun c1 => absurd hk2.1 c1)
set_option maxHeartbeats 4000000 in
set_option maxRecDepth 100000 in
theorem law_c16 {p : Program} {l : Launch} {e : Env} {s : State} {m : MethodId} {below : List Frame} {meth : Method} {c : Code} {b L : Nat} {xs : Nat → Int32} {G : gG} (hL : L ≤ 3072) (C0 : lw_At p s m meth c b L xs) (E : gEv p room_1 s m #[Value.ref b] c G (fun q : Nat => s.heap.size ≤ q) 11 code 4 20 84 4034) {i : Nat} {σ : gT} {H : Heap} {locs : List Loc} {ls : Array Slot} (hi : i + 6 ≤ L) (hR : gR σ) (hP : va_P G.2.2.1 gCl (gW G σ) H) (hS : va_S (fun q : Nat => s.heap.size ≤ q) s.heap H locs) (hl : lv_has ls 4 [(3, .int (nI i)), (2, .ref (G.1 10 0)), (1, .ref (G.1 9 0)), (0, .ref b)]) (kk : ∀ (σ2 : gT) (H2 : Heap) (locs2 : List Loc), gR σ2 → va_P G.2.2.1 gCl (gW G σ2) H2 → va_S (fun q : Nat => s.heap.size ≤ q) s.heap H2 locs2 → W p l e room_1 s m #[Value.ref b] below meth c H2 locs2 84 4034 (lw_Z below #[Value.ref b] s) (F0 m 1216 ls [])) : W p l e room_1 s m #[Value.ref b] below meth c H locs 84 4034 (lw_Z below #[Value.ref b] s) (F0 m 779 ls []) := by
  obtain ⟨hx, hb, hr, hml, hown, hts0, hX, hbl, hlocks, hgv⟩ := C0
  have hts := E.2.2.2.2.1
  have hbA : ¬ (fun q : Nat => s.heap.size ≤ q) b := Nat.not_le.mpr hbl
  have h1 : vp_in (nI i + 1) L := by rw [show nI i + 1 = nI (i + 1) from nI_add i 1]; exact vp_in_nI (by omega) (by omega)
  have h2 : vp_in (nI i + 2) L := by rw [show nI i + 2 = nI (i + 2) from nI_add i 2]; exact vp_in_nI (by omega) (by omega)
  have h3 : vp_in (nI i + 3) L := by rw [show nI i + 3 = nI (i + 3) from nI_add i 3]; exact vp_in_nI (by omega) (by omega)
  have h4 : vp_in (nI i + 4) L := by rw [show nI i + 4 = nI (i + 4) from nI_add i 4]; exact vp_in_nI (by omega) (by omega)
  have h5 : vp_in (nI i + 5) L := by rw [show nI i + 5 = nI (i + 5) from nI_add i 5]; exact vp_in_nI (by omega) (by omega)
  refine lv_aload_n hx hb dL_law_779 rfl (lv_at hl 2 rfl) ?_
  refine lv_aload_n hx hb dL_law_780 rfl (lv_at hl 3 rfl) ?_
  refine lv_iload_n hx hb dL_law_781 rfl (lv_at hl 0 rfl) ?_
  refine lv_iconst (v := 1) hx hb dL_law_782 (by decide) ?_
  refine lv_iadd hx hb dL_law_783 ?_
  refine va_sld hx hb hX hbl hbA hS h1 dL_law_784 ?_
  refine lv_aload_n hx hb dL_law_785 rfl (lv_at hl 3 rfl) ?_
  refine lv_iload_n hx hb dL_law_786 rfl (lv_at hl 0 rfl) ?_
  refine lv_iconst (v := 2) hx hb dL_law_787 (by decide) ?_
  refine lv_iadd hx hb dL_law_788 ?_
  refine va_sld hx hb hX hbl hbA hS h2 dL_law_789 ?_
  refine lv_aload_n hx hb dL_law_790 rfl (lv_at hl 3 rfl) ?_
  refine lv_iload_n hx hb dL_law_791 rfl (lv_at hl 0 rfl) ?_
  refine lv_iconst (v := 3) hx hb dL_law_792 (by decide) ?_
  refine lv_iadd hx hb dL_law_793 ?_
  refine va_sld hx hb hX hbl hbA hS h3 dL_law_794 ?_
  refine lv_aload_n hx hb dL_law_795 rfl (lv_at hl 3 rfl) ?_
  refine lv_iload_n hx hb dL_law_796 rfl (lv_at hl 0 rfl) ?_
  refine lv_iconst (v := 4) hx hb dL_law_797 (by decide) ?_
  refine lv_iadd hx hb dL_law_798 ?_
  refine va_sld hx hb hX hbl hbA hS h4 dL_law_799 ?_
  refine L_call (as := [.inl (xs (nI i + 1).toNatClampNeg), .inl (xs (nI i + 2).toNatClampNeg), .inl (xs (nI i + 3).toNatClampNeg), .inl (xs (nI i + 4).toNatClampNeg)]) (f := 9) (rest := []) E dL_law_800 rfl (by decide) rfl rfl ⟨Nat.one_pos, trivial, trivial, trivial, trivial, trivial⟩ (KX9_parts (l := l) (G := G) (A := (fun q : Nat => s.heap.size ≤ q)) (d := 17) (J_parts (xs (nI i + 1).toNatClampNeg) (xs (nI i + 2).toNatClampNeg) (xs (nI i + 3).toNatClampNeg) (xs (nI i + 4).toNatClampNeg) hR)) (Nat.le_of_ble_eq_true rfl) hP hS hl.1 (fun r σ1 H locs hok hk hP hS => ?_)
  obtain ⟨v1, rfl, hk1⟩ := hk
  refine W.eq (g2 := F0 m 803 ls [.int v1]) rfl ?_
  refine lv_aload_n hx hb dL_law_803 rfl (lv_at hl 1 rfl) ?_
  refine lv_aload_n hx hb dL_law_804 rfl (lv_at hl 3 rfl) ?_
  refine lv_iload_n hx hb dL_law_805 rfl (lv_at hl 0 rfl) ?_
  refine lv_iconst (v := 1) hx hb dL_law_806 (by decide) ?_
  refine lv_iadd hx hb dL_law_807 ?_
  refine va_sld hx hb hX hbl hbA hS h1 dL_law_808 ?_
  refine lv_aload_n hx hb dL_law_809 rfl (lv_at hl 3 rfl) ?_
  refine lv_iload_n hx hb dL_law_810 rfl (lv_at hl 0 rfl) ?_
  refine lv_iconst (v := 2) hx hb dL_law_811 (by decide) ?_
  refine lv_iadd hx hb dL_law_812 ?_
  refine va_sld hx hb hX hbl hbA hS h2 dL_law_813 ?_
  refine lv_aload_n hx hb dL_law_814 rfl (lv_at hl 3 rfl) ?_
  refine lv_iload_n hx hb dL_law_815 rfl (lv_at hl 0 rfl) ?_
  refine lv_iconst (v := 3) hx hb dL_law_816 (by decide) ?_
  refine lv_iadd hx hb dL_law_817 ?_
  refine va_sld hx hb hX hbl hbA hS h3 dL_law_818 ?_
  refine lv_aload_n hx hb dL_law_819 rfl (lv_at hl 3 rfl) ?_
  refine lv_iload_n hx hb dL_law_820 rfl (lv_at hl 0 rfl) ?_
  refine lv_iconst (v := 4) hx hb dL_law_821 (by decide) ?_
  refine lv_iadd hx hb dL_law_822 ?_
  refine va_sld hx hb hX hbl hbA hS h4 dL_law_823 ?_
  refine L_call (as := [.inl (xs (nI i + 1).toNatClampNeg), .inl (xs (nI i + 2).toNatClampNeg), .inl (xs (nI i + 3).toNatClampNeg), .inl (xs (nI i + 4).toNatClampNeg)]) (f := 10) (rest := [.int v1]) E dL_law_824 rfl (by decide) rfl rfl ⟨Nat.one_pos, trivial, trivial, trivial, trivial, trivial⟩ (KX10_parts (l := l) (G := G) (A := (fun q : Nat => s.heap.size ≤ q)) (d := 17) hk1) (Nat.le_of_ble_eq_true rfl) hP hS hl.1 (fun r σ2 H locs hok hk hP hS => ?_)
  obtain ⟨v2, rfl, hk2⟩ := hk
  refine W.eq (g2 := F0 m 827 ls [.int v2, .int v1]) rfl ?_
  exact lv_icmp_eq (tgt := 1216) hx hb dL_law_827 (by decide) (fun _ => kk σ2 H locs hk2.2 hP hS) (fun c1 => absurd hk2.1 c1)
set_option maxHeartbeats 4000000 in
set_option maxRecDepth 100000 in
theorem law_c17 {p : Program} {l : Launch} {e : Env} {s : State} {m : MethodId} {below : List Frame} {meth : Method} {c : Code} {b L : Nat} {xs : Nat → Int32} {G : gG} (hL : L ≤ 3072) (C0 : lw_At p s m meth c b L xs) (E : gEv p room_1 s m #[Value.ref b] c G (fun q : Nat => s.heap.size ≤ q) 11 code 4 20 84 4034) {i : Nat} {σ : gT} {H : Heap} {locs : List Loc} {ls : Array Slot} (hi : i + 6 ≤ L) (hR : gR σ) (hP : va_P G.2.2.1 gCl (gW G σ) H) (hS : va_S (fun q : Nat => s.heap.size ≤ q) s.heap H locs) (hl : lv_has ls 4 [(3, .int (nI i)), (2, .ref (G.1 10 0)), (1, .ref (G.1 9 0)), (0, .ref b)]) (kk : ∀ (σ2 : gT) (H2 : Heap) (locs2 : List Loc), gR σ2 → va_P G.2.2.1 gCl (gW G σ2) H2 → va_S (fun q : Nat => s.heap.size ≤ q) s.heap H2 locs2 → W p l e room_1 s m #[Value.ref b] below meth c H2 locs2 84 4034 (lw_Z below #[Value.ref b] s) (F0 m 1216 ls [])) : W p l e room_1 s m #[Value.ref b] below meth c H locs 84 4034 (lw_Z below #[Value.ref b] s) (F0 m 832 ls []) := by
  obtain ⟨hx, hb, hr, hml, hown, hts0, hX, hbl, hlocks, hgv⟩ := C0
  have hts := E.2.2.2.2.1
  have hbA : ¬ (fun q : Nat => s.heap.size ≤ q) b := Nat.not_le.mpr hbl
  have h1 : vp_in (nI i + 1) L := by rw [show nI i + 1 = nI (i + 1) from nI_add i 1]; exact vp_in_nI (by omega) (by omega)
  have h2 : vp_in (nI i + 2) L := by rw [show nI i + 2 = nI (i + 2) from nI_add i 2]; exact vp_in_nI (by omega) (by omega)
  have h3 : vp_in (nI i + 3) L := by rw [show nI i + 3 = nI (i + 3) from nI_add i 3]; exact vp_in_nI (by omega) (by omega)
  have h4 : vp_in (nI i + 4) L := by rw [show nI i + 4 = nI (i + 4) from nI_add i 4]; exact vp_in_nI (by omega) (by omega)
  have h5 : vp_in (nI i + 5) L := by rw [show nI i + 5 = nI (i + 5) from nI_add i 5]; exact vp_in_nI (by omega) (by omega)
  refine lv_aload_n hx hb dL_law_832 rfl (lv_at hl 2 rfl) ?_
  refine lv_aload_n hx hb dL_law_833 rfl (lv_at hl 3 rfl) ?_
  refine lv_iload_n hx hb dL_law_834 rfl (lv_at hl 0 rfl) ?_
  refine lv_iconst (v := 1) hx hb dL_law_835 (by decide) ?_
  refine lv_iadd hx hb dL_law_836 ?_
  refine va_sld hx hb hX hbl hbA hS h1 dL_law_837 ?_
  refine lv_aload_n hx hb dL_law_838 rfl (lv_at hl 3 rfl) ?_
  refine lv_iload_n hx hb dL_law_839 rfl (lv_at hl 0 rfl) ?_
  refine lv_iconst (v := 2) hx hb dL_law_840 (by decide) ?_
  refine lv_iadd hx hb dL_law_841 ?_
  refine va_sld hx hb hX hbl hbA hS h2 dL_law_842 ?_
  refine L_call (as := [.inl (xs (nI i + 1).toNatClampNeg), .inl (xs (nI i + 2).toNatClampNeg)]) (f := 9) (rest := []) E dL_law_843 rfl (by decide) rfl rfl ⟨Nat.one_pos, trivial, trivial, trivial⟩ (KX9_off (l := l) (G := G) (A := (fun q : Nat => s.heap.size ≤ q)) (d := 17) (J_off (xs (nI i + 1).toNatClampNeg) (xs (nI i + 2).toNatClampNeg) hR)) (Nat.le_of_ble_eq_true rfl) hP hS hl.1 (fun r σ1 H locs hok hk hP hS => ?_)
  obtain ⟨v1, rfl, hk1⟩ := hk
  refine W.eq (g2 := F0 m 846 ls [.int v1]) rfl ?_
  refine lv_aload_n hx hb dL_law_846 rfl (lv_at hl 1 rfl) ?_
  refine lv_aload_n hx hb dL_law_847 rfl (lv_at hl 3 rfl) ?_
  refine lv_iload_n hx hb dL_law_848 rfl (lv_at hl 0 rfl) ?_
  refine lv_iconst (v := 1) hx hb dL_law_849 (by decide) ?_
  refine lv_iadd hx hb dL_law_850 ?_
  refine va_sld hx hb hX hbl hbA hS h1 dL_law_851 ?_
  refine lv_aload_n hx hb dL_law_852 rfl (lv_at hl 3 rfl) ?_
  refine lv_iload_n hx hb dL_law_853 rfl (lv_at hl 0 rfl) ?_
  refine lv_iconst (v := 2) hx hb dL_law_854 (by decide) ?_
  refine lv_iadd hx hb dL_law_855 ?_
  refine va_sld hx hb hX hbl hbA hS h2 dL_law_856 ?_
  refine L_call (as := [.inl (xs (nI i + 1).toNatClampNeg), .inl (xs (nI i + 2).toNatClampNeg)]) (f := 10) (rest := [.int v1]) E dL_law_857 rfl (by decide) rfl rfl ⟨Nat.one_pos, trivial, trivial, trivial⟩ (KX10_off (l := l) (G := G) (A := (fun q : Nat => s.heap.size ≤ q)) (d := 17) hk1) (Nat.le_of_ble_eq_true rfl) hP hS hl.1 (fun r σ2 H locs hok hk hP hS => ?_)
  obtain ⟨v2, rfl, hk2⟩ := hk
  refine W.eq (g2 := F0 m 860 ls [.int v2, .int v1]) rfl ?_
  exact lv_icmp_eq (tgt := 1216) hx hb dL_law_860 (by decide) (fun _ => kk σ2 H locs hk2.2 hP hS) (fun c1 => absurd hk2.1 c1)
set_option maxHeartbeats 4000000 in
set_option maxRecDepth 100000 in
theorem law_c18 {p : Program} {l : Launch} {e : Env} {s : State} {m : MethodId} {below : List Frame} {meth : Method} {c : Code} {b L : Nat} {xs : Nat → Int32} {G : gG} (hL : L ≤ 3072) (C0 : lw_At p s m meth c b L xs) (E : gEv p room_1 s m #[Value.ref b] c G (fun q : Nat => s.heap.size ≤ q) 11 code 4 20 84 4034) {i : Nat} {σ : gT} {H : Heap} {locs : List Loc} {ls : Array Slot} (hi : i + 6 ≤ L) (hR : gR σ) (hP : va_P G.2.2.1 gCl (gW G σ) H) (hS : va_S (fun q : Nat => s.heap.size ≤ q) s.heap H locs) (hl : lv_has ls 4 [(3, .int (nI i)), (2, .ref (G.1 10 0)), (1, .ref (G.1 9 0)), (0, .ref b)]) (kk : ∀ (σ2 : gT) (H2 : Heap) (locs2 : List Loc), gR σ2 → va_P G.2.2.1 gCl (gW G σ2) H2 → va_S (fun q : Nat => s.heap.size ≤ q) s.heap H2 locs2 → W p l e room_1 s m #[Value.ref b] below meth c H2 locs2 84 4034 (lw_Z below #[Value.ref b] s) (F0 m 1216 ls [])) : W p l e room_1 s m #[Value.ref b] below meth c H locs 84 4034 (lw_Z below #[Value.ref b] s) (F0 m 865 ls []) := by
  obtain ⟨hx, hb, hr, hml, hown, hts0, hX, hbl, hlocks, hgv⟩ := C0
  have hts := E.2.2.2.2.1
  have hbA : ¬ (fun q : Nat => s.heap.size ≤ q) b := Nat.not_le.mpr hbl
  have h1 : vp_in (nI i + 1) L := by rw [show nI i + 1 = nI (i + 1) from nI_add i 1]; exact vp_in_nI (by omega) (by omega)
  have h2 : vp_in (nI i + 2) L := by rw [show nI i + 2 = nI (i + 2) from nI_add i 2]; exact vp_in_nI (by omega) (by omega)
  have h3 : vp_in (nI i + 3) L := by rw [show nI i + 3 = nI (i + 3) from nI_add i 3]; exact vp_in_nI (by omega) (by omega)
  have h4 : vp_in (nI i + 4) L := by rw [show nI i + 4 = nI (i + 4) from nI_add i 4]; exact vp_in_nI (by omega) (by omega)
  have h5 : vp_in (nI i + 5) L := by rw [show nI i + 5 = nI (i + 5) from nI_add i 5]; exact vp_in_nI (by omega) (by omega)
  refine lv_aload_n hx hb dL_law_865 rfl (lv_at hl 2 rfl) ?_
  refine lv_aload_n hx hb dL_law_866 rfl (lv_at hl 3 rfl) ?_
  refine lv_iload_n hx hb dL_law_867 rfl (lv_at hl 0 rfl) ?_
  refine lv_iconst (v := 1) hx hb dL_law_868 (by decide) ?_
  refine lv_iadd hx hb dL_law_869 ?_
  refine va_sld hx hb hX hbl hbA hS h1 dL_law_870 ?_
  refine lv_aload_n hx hb dL_law_871 rfl (lv_at hl 3 rfl) ?_
  refine lv_iload_n hx hb dL_law_872 rfl (lv_at hl 0 rfl) ?_
  refine lv_iconst (v := 2) hx hb dL_law_873 (by decide) ?_
  refine lv_iadd hx hb dL_law_874 ?_
  refine va_sld hx hb hX hbl hbA hS h2 dL_law_875 ?_
  refine lv_aload_n hx hb dL_law_876 rfl (lv_at hl 3 rfl) ?_
  refine lv_iload_n hx hb dL_law_877 rfl (lv_at hl 0 rfl) ?_
  refine lv_iconst (v := 3) hx hb dL_law_878 (by decide) ?_
  refine lv_iadd hx hb dL_law_879 ?_
  refine va_sld hx hb hX hbl hbA hS h3 dL_law_880 ?_
  refine L_call (as := [.inl (xs (nI i + 1).toNatClampNeg), .inl (xs (nI i + 2).toNatClampNeg), .inl (xs (nI i + 3).toNatClampNeg)]) (f := 9) (rest := []) E dL_law_881 rfl (by decide) rfl rfl ⟨Nat.one_pos, trivial, trivial, trivial, trivial⟩ (KX9_lack (l := l) (G := G) (A := (fun q : Nat => s.heap.size ≤ q)) (d := 17) (J_lack (xs (nI i + 1).toNatClampNeg) (xs (nI i + 2).toNatClampNeg) (xs (nI i + 3).toNatClampNeg) hR)) (Nat.le_of_ble_eq_true rfl) hP hS hl.1 (fun r σ1 H locs hok hk hP hS => ?_)
  obtain ⟨v1, rfl, hk1⟩ := hk
  refine W.eq (g2 := F0 m 884 ls [.long v1]) rfl ?_
  refine lv_aload_n hx hb dL_law_884 rfl (lv_at hl 1 rfl) ?_
  refine lv_aload_n hx hb dL_law_885 rfl (lv_at hl 3 rfl) ?_
  refine lv_iload_n hx hb dL_law_886 rfl (lv_at hl 0 rfl) ?_
  refine lv_iconst (v := 1) hx hb dL_law_887 (by decide) ?_
  refine lv_iadd hx hb dL_law_888 ?_
  refine va_sld hx hb hX hbl hbA hS h1 dL_law_889 ?_
  refine lv_aload_n hx hb dL_law_890 rfl (lv_at hl 3 rfl) ?_
  refine lv_iload_n hx hb dL_law_891 rfl (lv_at hl 0 rfl) ?_
  refine lv_iconst (v := 2) hx hb dL_law_892 (by decide) ?_
  refine lv_iadd hx hb dL_law_893 ?_
  refine va_sld hx hb hX hbl hbA hS h2 dL_law_894 ?_
  refine lv_aload_n hx hb dL_law_895 rfl (lv_at hl 3 rfl) ?_
  refine lv_iload_n hx hb dL_law_896 rfl (lv_at hl 0 rfl) ?_
  refine lv_iconst (v := 3) hx hb dL_law_897 (by decide) ?_
  refine lv_iadd hx hb dL_law_898 ?_
  refine va_sld hx hb hX hbl hbA hS h3 dL_law_899 ?_
  refine L_call (as := [.inl (xs (nI i + 1).toNatClampNeg), .inl (xs (nI i + 2).toNatClampNeg), .inl (xs (nI i + 3).toNatClampNeg)]) (f := 10) (rest := [.long v1]) E dL_law_900 rfl (by decide) rfl rfl ⟨Nat.one_pos, trivial, trivial, trivial, trivial⟩ (KX10_lack (l := l) (G := G) (A := (fun q : Nat => s.heap.size ≤ q)) (d := 17) hk1) (Nat.le_of_ble_eq_true rfl) hP hS hl.1 (fun r σ2 H locs hok hk hP hS => ?_)
  obtain ⟨v2, rfl, hk2⟩ := hk
  refine W.eq (g2 := F0 m 903 ls [.long v2, .long v1]) rfl ?_
  refine W.lcmp hx hb dL_law_903 ?_
  exact lv_if_eq (tgt := 1216) hx hb dL_law_904 (by decide) (fun _ => kk σ2 H locs hk2.2 hP hS) (fun c1 => absurd ((cmp_eq0 v1 v2).mpr hk2.1) c1)
set_option maxHeartbeats 4000000 in
set_option maxRecDepth 100000 in
theorem law_c19 {p : Program} {l : Launch} {e : Env} {s : State} {m : MethodId} {below : List Frame} {meth : Method} {c : Code} {b L : Nat} {xs : Nat → Int32} {G : gG} (hL : L ≤ 3072) (C0 : lw_At p s m meth c b L xs) (E : gEv p room_1 s m #[Value.ref b] c G (fun q : Nat => s.heap.size ≤ q) 11 code 4 20 84 4034) {i : Nat} {σ : gT} {H : Heap} {locs : List Loc} {ls : Array Slot} (hi : i + 6 ≤ L) (hR : gR σ) (hP : va_P G.2.2.1 gCl (gW G σ) H) (hS : va_S (fun q : Nat => s.heap.size ≤ q) s.heap H locs) (hl : lv_has ls 4 [(3, .int (nI i)), (2, .ref (G.1 10 0)), (1, .ref (G.1 9 0)), (0, .ref b)]) (kk : ∀ (σ2 : gT) (H2 : Heap) (locs2 : List Loc), gR σ2 → va_P G.2.2.1 gCl (gW G σ2) H2 → va_S (fun q : Nat => s.heap.size ≤ q) s.heap H2 locs2 → W p l e room_1 s m #[Value.ref b] below meth c H2 locs2 84 4034 (lw_Z below #[Value.ref b] s) (F0 m 1216 ls [])) : W p l e room_1 s m #[Value.ref b] below meth c H locs 84 4034 (lw_Z below #[Value.ref b] s) (F0 m 909 ls []) := by
  obtain ⟨hx, hb, hr, hml, hown, hts0, hX, hbl, hlocks, hgv⟩ := C0
  have hts := E.2.2.2.2.1
  have hbA : ¬ (fun q : Nat => s.heap.size ≤ q) b := Nat.not_le.mpr hbl
  have h1 : vp_in (nI i + 1) L := by rw [show nI i + 1 = nI (i + 1) from nI_add i 1]; exact vp_in_nI (by omega) (by omega)
  have h2 : vp_in (nI i + 2) L := by rw [show nI i + 2 = nI (i + 2) from nI_add i 2]; exact vp_in_nI (by omega) (by omega)
  have h3 : vp_in (nI i + 3) L := by rw [show nI i + 3 = nI (i + 3) from nI_add i 3]; exact vp_in_nI (by omega) (by omega)
  have h4 : vp_in (nI i + 4) L := by rw [show nI i + 4 = nI (i + 4) from nI_add i 4]; exact vp_in_nI (by omega) (by omega)
  have h5 : vp_in (nI i + 5) L := by rw [show nI i + 5 = nI (i + 5) from nI_add i 5]; exact vp_in_nI (by omega) (by omega)
  refine lv_aload_n hx hb dL_law_909 rfl (lv_at hl 2 rfl) ?_
  refine lv_aload_n hx hb dL_law_910 rfl (lv_at hl 3 rfl) ?_
  refine lv_iload_n hx hb dL_law_911 rfl (lv_at hl 0 rfl) ?_
  refine lv_iconst (v := 1) hx hb dL_law_912 (by decide) ?_
  refine lv_iadd hx hb dL_law_913 ?_
  refine va_sld hx hb hX hbl hbA hS h1 dL_law_914 ?_
  refine lv_aload_n hx hb dL_law_915 rfl (lv_at hl 3 rfl) ?_
  refine lv_iload_n hx hb dL_law_916 rfl (lv_at hl 0 rfl) ?_
  refine lv_iconst (v := 2) hx hb dL_law_917 (by decide) ?_
  refine lv_iadd hx hb dL_law_918 ?_
  refine va_sld hx hb hX hbl hbA hS h2 dL_law_919 ?_
  refine lv_aload_n hx hb dL_law_920 rfl (lv_at hl 3 rfl) ?_
  refine lv_iload_n hx hb dL_law_921 rfl (lv_at hl 0 rfl) ?_
  refine lv_iconst (v := 3) hx hb dL_law_922 (by decide) ?_
  refine lv_iadd hx hb dL_law_923 ?_
  refine va_sld hx hb hX hbl hbA hS h3 dL_law_924 ?_
  refine lv_aload_n hx hb dL_law_925 rfl (lv_at hl 3 rfl) ?_
  refine lv_iload_n hx hb dL_law_926 rfl (lv_at hl 0 rfl) ?_
  refine lv_iconst (v := 4) hx hb dL_law_927 (by decide) ?_
  refine lv_iadd hx hb dL_law_928 ?_
  refine va_sld hx hb hX hbl hbA hS h4 dL_law_929 ?_
  refine L_call (as := [.inl (xs (nI i + 1).toNatClampNeg), .inl (xs (nI i + 2).toNatClampNeg), .inl (xs (nI i + 3).toNatClampNeg), .inl (xs (nI i + 4).toNatClampNeg)]) (f := 9) (rest := []) E dL_law_930 rfl (by decide) rfl rfl ⟨Nat.one_pos, trivial, trivial, trivial, trivial, trivial⟩ (KX9_fits (l := l) (G := G) (A := (fun q : Nat => s.heap.size ≤ q)) (d := 16) (J_fits (xs (nI i + 1).toNatClampNeg) (xs (nI i + 2).toNatClampNeg) (xs (nI i + 3).toNatClampNeg) (xs (nI i + 4).toNatClampNeg) hR)) (Nat.le_of_ble_eq_true rfl) hP hS hl.1 (fun r σ1 H locs hok hk hP hS => ?_)
  obtain ⟨v1, rfl, hk1⟩ := hk
  refine W.eq (g2 := F0 m 933 ls [.int v1]) rfl ?_
  refine lv_aload_n hx hb dL_law_933 rfl (lv_at hl 1 rfl) ?_
  refine lv_aload_n hx hb dL_law_934 rfl (lv_at hl 3 rfl) ?_
  refine lv_iload_n hx hb dL_law_935 rfl (lv_at hl 0 rfl) ?_
  refine lv_iconst (v := 1) hx hb dL_law_936 (by decide) ?_
  refine lv_iadd hx hb dL_law_937 ?_
  refine va_sld hx hb hX hbl hbA hS h1 dL_law_938 ?_
  refine lv_aload_n hx hb dL_law_939 rfl (lv_at hl 3 rfl) ?_
  refine lv_iload_n hx hb dL_law_940 rfl (lv_at hl 0 rfl) ?_
  refine lv_iconst (v := 2) hx hb dL_law_941 (by decide) ?_
  refine lv_iadd hx hb dL_law_942 ?_
  refine va_sld hx hb hX hbl hbA hS h2 dL_law_943 ?_
  refine lv_aload_n hx hb dL_law_944 rfl (lv_at hl 3 rfl) ?_
  refine lv_iload_n hx hb dL_law_945 rfl (lv_at hl 0 rfl) ?_
  refine lv_iconst (v := 3) hx hb dL_law_946 (by decide) ?_
  refine lv_iadd hx hb dL_law_947 ?_
  refine va_sld hx hb hX hbl hbA hS h3 dL_law_948 ?_
  refine lv_aload_n hx hb dL_law_949 rfl (lv_at hl 3 rfl) ?_
  refine lv_iload_n hx hb dL_law_950 rfl (lv_at hl 0 rfl) ?_
  refine lv_iconst (v := 4) hx hb dL_law_951 (by decide) ?_
  refine lv_iadd hx hb dL_law_952 ?_
  refine va_sld hx hb hX hbl hbA hS h4 dL_law_953 ?_
  refine L_call (as := [.inl (xs (nI i + 1).toNatClampNeg), .inl (xs (nI i + 2).toNatClampNeg), .inl (xs (nI i + 3).toNatClampNeg), .inl (xs (nI i + 4).toNatClampNeg)]) (f := 10) (rest := [.int v1]) E dL_law_954 rfl (by decide) rfl rfl ⟨Nat.one_pos, trivial, trivial, trivial, trivial, trivial⟩ (KX10_fits (l := l) (G := G) (A := (fun q : Nat => s.heap.size ≤ q)) (d := 17) hk1) (Nat.le_of_ble_eq_true rfl) hP hS hl.1 (fun r σ2 H locs hok hk hP hS => ?_)
  obtain ⟨v2, rfl, hk2⟩ := hk
  refine W.eq (g2 := F0 m 957 ls [.int v2, .int v1]) rfl ?_
  exact lv_icmp_eq (tgt := 1216) hx hb dL_law_957 (by decide) (fun _ => kk σ2 H locs hk2.2 hP hS) (fun c1 => absurd hk2.1 c1)
set_option maxHeartbeats 4000000 in
set_option maxRecDepth 100000 in
theorem law_c20 {p : Program} {l : Launch} {e : Env} {s : State} {m : MethodId} {below : List Frame} {meth : Method} {c : Code} {b L : Nat} {xs : Nat → Int32} {G : gG} (hL : L ≤ 3072) (C0 : lw_At p s m meth c b L xs) (E : gEv p room_1 s m #[Value.ref b] c G (fun q : Nat => s.heap.size ≤ q) 11 code 4 20 84 4034) {i : Nat} {σ : gT} {H : Heap} {locs : List Loc} {ls : Array Slot} (hi : i + 6 ≤ L) (hR : gR σ) (hP : va_P G.2.2.1 gCl (gW G σ) H) (hS : va_S (fun q : Nat => s.heap.size ≤ q) s.heap H locs) (hl : lv_has ls 4 [(3, .int (nI i)), (2, .ref (G.1 10 0)), (1, .ref (G.1 9 0)), (0, .ref b)]) (kk : ∀ (σ2 : gT) (H2 : Heap) (locs2 : List Loc), gR σ2 → va_P G.2.2.1 gCl (gW G σ2) H2 → va_S (fun q : Nat => s.heap.size ≤ q) s.heap H2 locs2 → W p l e room_1 s m #[Value.ref b] below meth c H2 locs2 84 4034 (lw_Z below #[Value.ref b] s) (F0 m 1216 ls [])) : W p l e room_1 s m #[Value.ref b] below meth c H locs 84 4034 (lw_Z below #[Value.ref b] s) (F0 m 962 ls []) := by
  obtain ⟨hx, hb, hr, hml, hown, hts0, hX, hbl, hlocks, hgv⟩ := C0
  have hts := E.2.2.2.2.1
  have hbA : ¬ (fun q : Nat => s.heap.size ≤ q) b := Nat.not_le.mpr hbl
  have h1 : vp_in (nI i + 1) L := by rw [show nI i + 1 = nI (i + 1) from nI_add i 1]; exact vp_in_nI (by omega) (by omega)
  have h2 : vp_in (nI i + 2) L := by rw [show nI i + 2 = nI (i + 2) from nI_add i 2]; exact vp_in_nI (by omega) (by omega)
  have h3 : vp_in (nI i + 3) L := by rw [show nI i + 3 = nI (i + 3) from nI_add i 3]; exact vp_in_nI (by omega) (by omega)
  have h4 : vp_in (nI i + 4) L := by rw [show nI i + 4 = nI (i + 4) from nI_add i 4]; exact vp_in_nI (by omega) (by omega)
  have h5 : vp_in (nI i + 5) L := by rw [show nI i + 5 = nI (i + 5) from nI_add i 5]; exact vp_in_nI (by omega) (by omega)
  refine lv_aload_n hx hb dL_law_962 rfl (lv_at hl 2 rfl) ?_
  refine lv_aload_n hx hb dL_law_963 rfl (lv_at hl 3 rfl) ?_
  refine lv_iload_n hx hb dL_law_964 rfl (lv_at hl 0 rfl) ?_
  refine lv_iconst (v := 1) hx hb dL_law_965 (by decide) ?_
  refine lv_iadd hx hb dL_law_966 ?_
  refine va_sld hx hb hX hbl hbA hS h1 dL_law_967 ?_
  refine lv_aload_n hx hb dL_law_968 rfl (lv_at hl 3 rfl) ?_
  refine lv_iload_n hx hb dL_law_969 rfl (lv_at hl 0 rfl) ?_
  refine lv_iconst (v := 2) hx hb dL_law_970 (by decide) ?_
  refine lv_iadd hx hb dL_law_971 ?_
  refine va_sld hx hb hX hbl hbA hS h2 dL_law_972 ?_
  refine lv_aload_n hx hb dL_law_973 rfl (lv_at hl 3 rfl) ?_
  refine lv_iload_n hx hb dL_law_974 rfl (lv_at hl 0 rfl) ?_
  refine lv_iconst (v := 3) hx hb dL_law_975 (by decide) ?_
  refine lv_iadd hx hb dL_law_976 ?_
  refine va_sld hx hb hX hbl hbA hS h3 dL_law_977 ?_
  refine L_call (as := [.inl (xs (nI i + 1).toNatClampNeg), .inl (xs (nI i + 2).toNatClampNeg), .inl (xs (nI i + 3).toNatClampNeg)]) (f := 9) (rest := []) E dL_law_978 rfl (by decide) rfl rfl ⟨Nat.one_pos, trivial, trivial, trivial, trivial⟩ (KX9_mark (l := l) (G := G) (A := (fun q : Nat => s.heap.size ≤ q)) (d := 16) (J_mark (xs (nI i + 1).toNatClampNeg) (xs (nI i + 2).toNatClampNeg) (xs (nI i + 3).toNatClampNeg) hR)) (Nat.le_of_ble_eq_true rfl) hP hS hl.1 (fun r σ1 H locs hok hk hP hS => ?_)
  obtain ⟨v1, rfl, hk1⟩ := hk
  refine W.eq (g2 := F0 m 981 ls [.int v1]) rfl ?_
  refine lv_aload_n hx hb dL_law_981 rfl (lv_at hl 1 rfl) ?_
  refine lv_aload_n hx hb dL_law_982 rfl (lv_at hl 3 rfl) ?_
  refine lv_iload_n hx hb dL_law_983 rfl (lv_at hl 0 rfl) ?_
  refine lv_iconst (v := 1) hx hb dL_law_984 (by decide) ?_
  refine lv_iadd hx hb dL_law_985 ?_
  refine va_sld hx hb hX hbl hbA hS h1 dL_law_986 ?_
  refine lv_aload_n hx hb dL_law_987 rfl (lv_at hl 3 rfl) ?_
  refine lv_iload_n hx hb dL_law_988 rfl (lv_at hl 0 rfl) ?_
  refine lv_iconst (v := 2) hx hb dL_law_989 (by decide) ?_
  refine lv_iadd hx hb dL_law_990 ?_
  refine va_sld hx hb hX hbl hbA hS h2 dL_law_991 ?_
  refine lv_aload_n hx hb dL_law_992 rfl (lv_at hl 3 rfl) ?_
  refine lv_iload_n hx hb dL_law_993 rfl (lv_at hl 0 rfl) ?_
  refine lv_iconst (v := 3) hx hb dL_law_994 (by decide) ?_
  refine lv_iadd hx hb dL_law_995 ?_
  refine va_sld hx hb hX hbl hbA hS h3 dL_law_996 ?_
  refine L_call (as := [.inl (xs (nI i + 1).toNatClampNeg), .inl (xs (nI i + 2).toNatClampNeg), .inl (xs (nI i + 3).toNatClampNeg)]) (f := 10) (rest := [.int v1]) E dL_law_997 rfl (by decide) rfl rfl ⟨Nat.one_pos, trivial, trivial, trivial, trivial⟩ (KX10_mark (l := l) (G := G) (A := (fun q : Nat => s.heap.size ≤ q)) (d := 17) hk1) (Nat.le_of_ble_eq_true rfl) hP hS hl.1 (fun r σ2 H locs hok hk hP hS => ?_)
  obtain ⟨v2, rfl, hk2⟩ := hk
  refine W.eq (g2 := F0 m 1000 ls [.int v2, .int v1]) rfl ?_
  exact lv_icmp_eq (tgt := 1216) hx hb dL_law_1000 (by decide) (fun _ => kk σ2 H locs hk2.2 hP hS) (fun c1 => absurd hk2.1 c1)
set_option maxHeartbeats 4000000 in
set_option maxRecDepth 100000 in
theorem law_c21 {p : Program} {l : Launch} {e : Env} {s : State} {m : MethodId} {below : List Frame} {meth : Method} {c : Code} {b L : Nat} {xs : Nat → Int32} {G : gG} (hL : L ≤ 3072) (C0 : lw_At p s m meth c b L xs) (E : gEv p room_1 s m #[Value.ref b] c G (fun q : Nat => s.heap.size ≤ q) 11 code 4 20 84 4034) {i : Nat} {σ : gT} {H : Heap} {locs : List Loc} {ls : Array Slot} (hi : i + 6 ≤ L) (hR : gR σ) (hP : va_P G.2.2.1 gCl (gW G σ) H) (hS : va_S (fun q : Nat => s.heap.size ≤ q) s.heap H locs) (hl : lv_has ls 4 [(3, .int (nI i)), (2, .ref (G.1 10 0)), (1, .ref (G.1 9 0)), (0, .ref b)]) (kk : ∀ (σ2 : gT) (H2 : Heap) (locs2 : List Loc), gR σ2 → va_P G.2.2.1 gCl (gW G σ2) H2 → va_S (fun q : Nat => s.heap.size ≤ q) s.heap H2 locs2 → W p l e room_1 s m #[Value.ref b] below meth c H2 locs2 84 4034 (lw_Z below #[Value.ref b] s) (F0 m 1216 ls [])) : W p l e room_1 s m #[Value.ref b] below meth c H locs 84 4034 (lw_Z below #[Value.ref b] s) (F0 m 1005 ls []) := by
  obtain ⟨hx, hb, hr, hml, hown, hts0, hX, hbl, hlocks, hgv⟩ := C0
  have hts := E.2.2.2.2.1
  have hbA : ¬ (fun q : Nat => s.heap.size ≤ q) b := Nat.not_le.mpr hbl
  have h1 : vp_in (nI i + 1) L := by rw [show nI i + 1 = nI (i + 1) from nI_add i 1]; exact vp_in_nI (by omega) (by omega)
  have h2 : vp_in (nI i + 2) L := by rw [show nI i + 2 = nI (i + 2) from nI_add i 2]; exact vp_in_nI (by omega) (by omega)
  have h3 : vp_in (nI i + 3) L := by rw [show nI i + 3 = nI (i + 3) from nI_add i 3]; exact vp_in_nI (by omega) (by omega)
  have h4 : vp_in (nI i + 4) L := by rw [show nI i + 4 = nI (i + 4) from nI_add i 4]; exact vp_in_nI (by omega) (by omega)
  have h5 : vp_in (nI i + 5) L := by rw [show nI i + 5 = nI (i + 5) from nI_add i 5]; exact vp_in_nI (by omega) (by omega)
  refine lv_aload_n hx hb dL_law_1005 rfl (lv_at hl 2 rfl) ?_
  refine lv_aload_n hx hb dL_law_1006 rfl (lv_at hl 3 rfl) ?_
  refine lv_iload_n hx hb dL_law_1007 rfl (lv_at hl 0 rfl) ?_
  refine lv_iconst (v := 1) hx hb dL_law_1008 (by decide) ?_
  refine lv_iadd hx hb dL_law_1009 ?_
  refine va_sld hx hb hX hbl hbA hS h1 dL_law_1010 ?_
  refine lv_aload_n hx hb dL_law_1011 rfl (lv_at hl 3 rfl) ?_
  refine lv_iload_n hx hb dL_law_1012 rfl (lv_at hl 0 rfl) ?_
  refine lv_iconst (v := 2) hx hb dL_law_1013 (by decide) ?_
  refine lv_iadd hx hb dL_law_1014 ?_
  refine va_sld hx hb hX hbl hbA hS h2 dL_law_1015 ?_
  refine lv_aload_n hx hb dL_law_1016 rfl (lv_at hl 3 rfl) ?_
  refine lv_iload_n hx hb dL_law_1017 rfl (lv_at hl 0 rfl) ?_
  refine lv_iconst (v := 3) hx hb dL_law_1018 (by decide) ?_
  refine lv_iadd hx hb dL_law_1019 ?_
  refine va_sld hx hb hX hbl hbA hS h3 dL_law_1020 ?_
  refine lv_aload_n hx hb dL_law_1021 rfl (lv_at hl 3 rfl) ?_
  refine lv_iload_n hx hb dL_law_1022 rfl (lv_at hl 0 rfl) ?_
  refine lv_iconst (v := 4) hx hb dL_law_1023 (by decide) ?_
  refine lv_iadd hx hb dL_law_1024 ?_
  refine va_sld hx hb hX hbl hbA hS h4 dL_law_1025 ?_
  refine lv_aload_n hx hb dL_law_1026 rfl (lv_at hl 3 rfl) ?_
  refine lv_iload_n hx hb dL_law_1027 rfl (lv_at hl 0 rfl) ?_
  refine lv_iconst (v := 5) hx hb dL_law_1028 (by decide) ?_
  refine lv_iadd hx hb dL_law_1029 ?_
  refine va_sld hx hb hX hbl hbA hS h5 dL_law_1030 ?_
  refine L_call (as := [.inl (xs (nI i + 1).toNatClampNeg), .inl (xs (nI i + 2).toNatClampNeg), .inl (xs (nI i + 3).toNatClampNeg), .inl (xs (nI i + 4).toNatClampNeg), .inl (xs (nI i + 5).toNatClampNeg)]) (f := 9) (rest := []) E dL_law_1031 rfl (by decide) rfl rfl ⟨Nat.one_pos, trivial, trivial, trivial, trivial, trivial, trivial⟩ (KX9_aim (l := l) (G := G) (A := (fun q : Nat => s.heap.size ≤ q)) (d := 17) (J_aim (xs (nI i + 1).toNatClampNeg) (xs (nI i + 2).toNatClampNeg) (xs (nI i + 3).toNatClampNeg) (xs (nI i + 4).toNatClampNeg) (xs (nI i + 5).toNatClampNeg) hR)) (Nat.le_of_ble_eq_true rfl) hP hS hl.1 (fun r σ1 H locs hok hk hP hS => ?_)
  obtain ⟨v1, rfl, hk1⟩ := hk
  refine W.eq (g2 := F0 m 1034 ls [.int v1]) rfl ?_
  refine lv_aload_n hx hb dL_law_1034 rfl (lv_at hl 1 rfl) ?_
  refine lv_aload_n hx hb dL_law_1035 rfl (lv_at hl 3 rfl) ?_
  refine lv_iload_n hx hb dL_law_1036 rfl (lv_at hl 0 rfl) ?_
  refine lv_iconst (v := 1) hx hb dL_law_1037 (by decide) ?_
  refine lv_iadd hx hb dL_law_1038 ?_
  refine va_sld hx hb hX hbl hbA hS h1 dL_law_1039 ?_
  refine lv_aload_n hx hb dL_law_1040 rfl (lv_at hl 3 rfl) ?_
  refine lv_iload_n hx hb dL_law_1041 rfl (lv_at hl 0 rfl) ?_
  refine lv_iconst (v := 2) hx hb dL_law_1042 (by decide) ?_
  refine lv_iadd hx hb dL_law_1043 ?_
  refine va_sld hx hb hX hbl hbA hS h2 dL_law_1044 ?_
  refine lv_aload_n hx hb dL_law_1045 rfl (lv_at hl 3 rfl) ?_
  refine lv_iload_n hx hb dL_law_1046 rfl (lv_at hl 0 rfl) ?_
  refine lv_iconst (v := 3) hx hb dL_law_1047 (by decide) ?_
  refine lv_iadd hx hb dL_law_1048 ?_
  refine va_sld hx hb hX hbl hbA hS h3 dL_law_1049 ?_
  refine lv_aload_n hx hb dL_law_1050 rfl (lv_at hl 3 rfl) ?_
  refine lv_iload_n hx hb dL_law_1051 rfl (lv_at hl 0 rfl) ?_
  refine lv_iconst (v := 4) hx hb dL_law_1052 (by decide) ?_
  refine lv_iadd hx hb dL_law_1053 ?_
  refine va_sld hx hb hX hbl hbA hS h4 dL_law_1054 ?_
  refine lv_aload_n hx hb dL_law_1055 rfl (lv_at hl 3 rfl) ?_
  refine lv_iload_n hx hb dL_law_1056 rfl (lv_at hl 0 rfl) ?_
  refine lv_iconst (v := 5) hx hb dL_law_1057 (by decide) ?_
  refine lv_iadd hx hb dL_law_1058 ?_
  refine va_sld hx hb hX hbl hbA hS h5 dL_law_1059 ?_
  refine L_call (as := [.inl (xs (nI i + 1).toNatClampNeg), .inl (xs (nI i + 2).toNatClampNeg), .inl (xs (nI i + 3).toNatClampNeg), .inl (xs (nI i + 4).toNatClampNeg), .inl (xs (nI i + 5).toNatClampNeg)]) (f := 10) (rest := [.int v1]) E dL_law_1060 rfl (by decide) rfl rfl ⟨Nat.one_pos, trivial, trivial, trivial, trivial, trivial, trivial⟩ (KX10_aim (l := l) (G := G) (A := (fun q : Nat => s.heap.size ≤ q)) (d := 18) hk1) (Nat.le_of_ble_eq_true rfl) hP hS hl.1 (fun r σ2 H locs hok hk hP hS => ?_)
  obtain ⟨v2, rfl, hk2⟩ := hk
  refine W.eq (g2 := F0 m 1063 ls [.int v2, .int v1]) rfl ?_
  exact lv_icmp_eq (tgt := 1216) hx hb dL_law_1063 (by decide) (fun _ => kk σ2 H locs hk2.2 hP hS) (fun c1 => absurd hk2.1 c1)
set_option maxHeartbeats 4000000 in
set_option maxRecDepth 100000 in
theorem law_c22 {p : Program} {l : Launch} {e : Env} {s : State} {m : MethodId} {below : List Frame} {meth : Method} {c : Code} {b L : Nat} {xs : Nat → Int32} {G : gG} (hL : L ≤ 3072) (C0 : lw_At p s m meth c b L xs) (E : gEv p room_1 s m #[Value.ref b] c G (fun q : Nat => s.heap.size ≤ q) 11 code 4 20 84 4034) {i : Nat} {σ : gT} {H : Heap} {locs : List Loc} {ls : Array Slot} (hi : i + 6 ≤ L) (hR : gR σ) (hP : va_P G.2.2.1 gCl (gW G σ) H) (hS : va_S (fun q : Nat => s.heap.size ≤ q) s.heap H locs) (hl : lv_has ls 4 [(3, .int (nI i)), (2, .ref (G.1 10 0)), (1, .ref (G.1 9 0)), (0, .ref b)]) (kk : ∀ (σ2 : gT) (H2 : Heap) (locs2 : List Loc), gR σ2 → va_P G.2.2.1 gCl (gW G σ2) H2 → va_S (fun q : Nat => s.heap.size ≤ q) s.heap H2 locs2 → W p l e room_1 s m #[Value.ref b] below meth c H2 locs2 84 4034 (lw_Z below #[Value.ref b] s) (F0 m 1216 ls [])) : W p l e room_1 s m #[Value.ref b] below meth c H locs 84 4034 (lw_Z below #[Value.ref b] s) (F0 m 1068 ls []) := by
  obtain ⟨hx, hb, hr, hml, hown, hts0, hX, hbl, hlocks, hgv⟩ := C0
  have hts := E.2.2.2.2.1
  have hbA : ¬ (fun q : Nat => s.heap.size ≤ q) b := Nat.not_le.mpr hbl
  have h1 : vp_in (nI i + 1) L := by rw [show nI i + 1 = nI (i + 1) from nI_add i 1]; exact vp_in_nI (by omega) (by omega)
  have h2 : vp_in (nI i + 2) L := by rw [show nI i + 2 = nI (i + 2) from nI_add i 2]; exact vp_in_nI (by omega) (by omega)
  have h3 : vp_in (nI i + 3) L := by rw [show nI i + 3 = nI (i + 3) from nI_add i 3]; exact vp_in_nI (by omega) (by omega)
  have h4 : vp_in (nI i + 4) L := by rw [show nI i + 4 = nI (i + 4) from nI_add i 4]; exact vp_in_nI (by omega) (by omega)
  have h5 : vp_in (nI i + 5) L := by rw [show nI i + 5 = nI (i + 5) from nI_add i 5]; exact vp_in_nI (by omega) (by omega)
  refine lv_aload_n hx hb dL_law_1068 rfl (lv_at hl 2 rfl) ?_
  refine lv_aload_n hx hb dL_law_1069 rfl (lv_at hl 3 rfl) ?_
  refine lv_iload_n hx hb dL_law_1070 rfl (lv_at hl 0 rfl) ?_
  refine lv_iconst (v := 1) hx hb dL_law_1071 (by decide) ?_
  refine lv_iadd hx hb dL_law_1072 ?_
  refine va_sld hx hb hX hbl hbA hS h1 dL_law_1073 ?_
  refine L_call (as := [.inl (xs (nI i + 1).toNatClampNeg)]) (f := 9) (rest := []) E dL_law_1074 rfl (by decide) rfl rfl ⟨Nat.one_pos, trivial, trivial⟩ (KX9_kind (l := l) (G := G) (A := (fun q : Nat => s.heap.size ≤ q)) (d := 16) (J_kind (xs (nI i + 1).toNatClampNeg) hR)) (Nat.le_of_ble_eq_true rfl) hP hS hl.1 (fun r σ1 H locs hok hk hP hS => ?_)
  obtain ⟨v1, rfl, hk1⟩ := hk
  refine W.eq (g2 := F0 m 1077 ls [.int v1]) rfl ?_
  refine lv_aload_n hx hb dL_law_1077 rfl (lv_at hl 1 rfl) ?_
  refine lv_aload_n hx hb dL_law_1078 rfl (lv_at hl 3 rfl) ?_
  refine lv_iload_n hx hb dL_law_1079 rfl (lv_at hl 0 rfl) ?_
  refine lv_iconst (v := 1) hx hb dL_law_1080 (by decide) ?_
  refine lv_iadd hx hb dL_law_1081 ?_
  refine va_sld hx hb hX hbl hbA hS h1 dL_law_1082 ?_
  refine L_call (as := [.inl (xs (nI i + 1).toNatClampNeg)]) (f := 10) (rest := [.int v1]) E dL_law_1083 rfl (by decide) rfl rfl ⟨Nat.one_pos, trivial, trivial⟩ (KX10_kind (l := l) (G := G) (A := (fun q : Nat => s.heap.size ≤ q)) (d := 17) hk1) (Nat.le_of_ble_eq_true rfl) hP hS hl.1 (fun r σ2 H locs hok hk hP hS => ?_)
  obtain ⟨v2, rfl, hk2⟩ := hk
  refine W.eq (g2 := F0 m 1086 ls [.int v2, .int v1]) rfl ?_
  exact lv_icmp_eq (tgt := 1216) hx hb dL_law_1086 (by decide) (fun _ => kk σ2 H locs hk2.2 hP hS) (fun c1 => absurd hk2.1 c1)
set_option maxHeartbeats 4000000 in
set_option maxRecDepth 100000 in
theorem law_c23 {p : Program} {l : Launch} {e : Env} {s : State} {m : MethodId} {below : List Frame} {meth : Method} {c : Code} {b L : Nat} {xs : Nat → Int32} {G : gG} (hL : L ≤ 3072) (C0 : lw_At p s m meth c b L xs) (E : gEv p room_1 s m #[Value.ref b] c G (fun q : Nat => s.heap.size ≤ q) 11 code 4 20 84 4034) {i : Nat} {σ : gT} {H : Heap} {locs : List Loc} {ls : Array Slot} (hi : i + 6 ≤ L) (hR : gR σ) (hP : va_P G.2.2.1 gCl (gW G σ) H) (hS : va_S (fun q : Nat => s.heap.size ≤ q) s.heap H locs) (hl : lv_has ls 4 [(3, .int (nI i)), (2, .ref (G.1 10 0)), (1, .ref (G.1 9 0)), (0, .ref b)]) (kk : ∀ (σ2 : gT) (H2 : Heap) (locs2 : List Loc), gR σ2 → va_P G.2.2.1 gCl (gW G σ2) H2 → va_S (fun q : Nat => s.heap.size ≤ q) s.heap H2 locs2 → W p l e room_1 s m #[Value.ref b] below meth c H2 locs2 84 4034 (lw_Z below #[Value.ref b] s) (F0 m 1216 ls [])) : W p l e room_1 s m #[Value.ref b] below meth c H locs 84 4034 (lw_Z below #[Value.ref b] s) (F0 m 1091 ls []) := by
  obtain ⟨hx, hb, hr, hml, hown, hts0, hX, hbl, hlocks, hgv⟩ := C0
  have hts := E.2.2.2.2.1
  have hbA : ¬ (fun q : Nat => s.heap.size ≤ q) b := Nat.not_le.mpr hbl
  have h1 : vp_in (nI i + 1) L := by rw [show nI i + 1 = nI (i + 1) from nI_add i 1]; exact vp_in_nI (by omega) (by omega)
  have h2 : vp_in (nI i + 2) L := by rw [show nI i + 2 = nI (i + 2) from nI_add i 2]; exact vp_in_nI (by omega) (by omega)
  have h3 : vp_in (nI i + 3) L := by rw [show nI i + 3 = nI (i + 3) from nI_add i 3]; exact vp_in_nI (by omega) (by omega)
  have h4 : vp_in (nI i + 4) L := by rw [show nI i + 4 = nI (i + 4) from nI_add i 4]; exact vp_in_nI (by omega) (by omega)
  have h5 : vp_in (nI i + 5) L := by rw [show nI i + 5 = nI (i + 5) from nI_add i 5]; exact vp_in_nI (by omega) (by omega)
  refine lv_aload_n hx hb dL_law_1091 rfl (lv_at hl 2 rfl) ?_
  refine lv_aload_n hx hb dL_law_1092 rfl (lv_at hl 3 rfl) ?_
  refine lv_iload_n hx hb dL_law_1093 rfl (lv_at hl 0 rfl) ?_
  refine lv_iconst (v := 1) hx hb dL_law_1094 (by decide) ?_
  refine lv_iadd hx hb dL_law_1095 ?_
  refine va_sld hx hb hX hbl hbA hS h1 dL_law_1096 ?_
  refine lv_aload_n hx hb dL_law_1097 rfl (lv_at hl 3 rfl) ?_
  refine lv_iload_n hx hb dL_law_1098 rfl (lv_at hl 0 rfl) ?_
  refine lv_iconst (v := 2) hx hb dL_law_1099 (by decide) ?_
  refine lv_iadd hx hb dL_law_1100 ?_
  refine va_sld hx hb hX hbl hbA hS h2 dL_law_1101 ?_
  refine L_call (as := [.inl (xs (nI i + 1).toNatClampNeg), .inl (xs (nI i + 2).toNatClampNeg)]) (f := 9) (rest := []) E dL_law_1102 rfl (by decide) rfl rfl ⟨Nat.one_pos, trivial, trivial, trivial⟩ (KX9_as (l := l) (G := G) (A := (fun q : Nat => s.heap.size ≤ q)) (d := 15) (J_as (xs (nI i + 1).toNatClampNeg) (xs (nI i + 2).toNatClampNeg) hR)) (Nat.le_of_ble_eq_true rfl) hP hS hl.1 (fun r σ1 H locs hok hk hP hS => ?_)
  obtain ⟨v1, rfl, hk1⟩ := hk
  refine W.eq (g2 := F0 m 1105 ls [.int v1]) rfl ?_
  refine lv_aload_n hx hb dL_law_1105 rfl (lv_at hl 1 rfl) ?_
  refine lv_aload_n hx hb dL_law_1106 rfl (lv_at hl 3 rfl) ?_
  refine lv_iload_n hx hb dL_law_1107 rfl (lv_at hl 0 rfl) ?_
  refine lv_iconst (v := 1) hx hb dL_law_1108 (by decide) ?_
  refine lv_iadd hx hb dL_law_1109 ?_
  refine va_sld hx hb hX hbl hbA hS h1 dL_law_1110 ?_
  refine lv_aload_n hx hb dL_law_1111 rfl (lv_at hl 3 rfl) ?_
  refine lv_iload_n hx hb dL_law_1112 rfl (lv_at hl 0 rfl) ?_
  refine lv_iconst (v := 2) hx hb dL_law_1113 (by decide) ?_
  refine lv_iadd hx hb dL_law_1114 ?_
  refine va_sld hx hb hX hbl hbA hS h2 dL_law_1115 ?_
  refine L_call (as := [.inl (xs (nI i + 1).toNatClampNeg), .inl (xs (nI i + 2).toNatClampNeg)]) (f := 10) (rest := [.int v1]) E dL_law_1116 rfl (by decide) rfl rfl ⟨Nat.one_pos, trivial, trivial, trivial⟩ (KX10_as (l := l) (G := G) (A := (fun q : Nat => s.heap.size ≤ q)) (d := 17) hk1) (Nat.le_of_ble_eq_true rfl) hP hS hl.1 (fun r σ2 H locs hok hk hP hS => ?_)
  obtain ⟨v2, rfl, hk2⟩ := hk
  refine W.eq (g2 := F0 m 1119 ls [.int v2, .int v1]) rfl ?_
  exact lv_icmp_eq (tgt := 1216) hx hb dL_law_1119 (by decide) (fun _ => kk σ2 H locs hk2.2 hP hS) (fun c1 => absurd hk2.1 c1)
set_option maxHeartbeats 4000000 in
set_option maxRecDepth 100000 in
theorem law_c24 {p : Program} {l : Launch} {e : Env} {s : State} {m : MethodId} {below : List Frame} {meth : Method} {c : Code} {b L : Nat} {xs : Nat → Int32} {G : gG} (hL : L ≤ 3072) (C0 : lw_At p s m meth c b L xs) (E : gEv p room_1 s m #[Value.ref b] c G (fun q : Nat => s.heap.size ≤ q) 11 code 4 20 84 4034) {i : Nat} {σ : gT} {H : Heap} {locs : List Loc} {ls : Array Slot} (hi : i + 6 ≤ L) (hR : gR σ) (hP : va_P G.2.2.1 gCl (gW G σ) H) (hS : va_S (fun q : Nat => s.heap.size ≤ q) s.heap H locs) (hl : lv_has ls 4 [(3, .int (nI i)), (2, .ref (G.1 10 0)), (1, .ref (G.1 9 0)), (0, .ref b)]) (kk : ∀ (σ2 : gT) (H2 : Heap) (locs2 : List Loc), gR σ2 → va_P G.2.2.1 gCl (gW G σ2) H2 → va_S (fun q : Nat => s.heap.size ≤ q) s.heap H2 locs2 → W p l e room_1 s m #[Value.ref b] below meth c H2 locs2 84 4034 (lw_Z below #[Value.ref b] s) (F0 m 1216 ls [])) : W p l e room_1 s m #[Value.ref b] below meth c H locs 84 4034 (lw_Z below #[Value.ref b] s) (F0 m 1124 ls []) := by
  obtain ⟨hx, hb, hr, hml, hown, hts0, hX, hbl, hlocks, hgv⟩ := C0
  have hts := E.2.2.2.2.1
  have hbA : ¬ (fun q : Nat => s.heap.size ≤ q) b := Nat.not_le.mpr hbl
  have h1 : vp_in (nI i + 1) L := by rw [show nI i + 1 = nI (i + 1) from nI_add i 1]; exact vp_in_nI (by omega) (by omega)
  have h2 : vp_in (nI i + 2) L := by rw [show nI i + 2 = nI (i + 2) from nI_add i 2]; exact vp_in_nI (by omega) (by omega)
  have h3 : vp_in (nI i + 3) L := by rw [show nI i + 3 = nI (i + 3) from nI_add i 3]; exact vp_in_nI (by omega) (by omega)
  have h4 : vp_in (nI i + 4) L := by rw [show nI i + 4 = nI (i + 4) from nI_add i 4]; exact vp_in_nI (by omega) (by omega)
  have h5 : vp_in (nI i + 5) L := by rw [show nI i + 5 = nI (i + 5) from nI_add i 5]; exact vp_in_nI (by omega) (by omega)
  refine lv_aload_n hx hb dL_law_1124 rfl (lv_at hl 2 rfl) ?_
  refine lv_aload_n hx hb dL_law_1125 rfl (lv_at hl 3 rfl) ?_
  refine lv_iload_n hx hb dL_law_1126 rfl (lv_at hl 0 rfl) ?_
  refine lv_iconst (v := 1) hx hb dL_law_1127 (by decide) ?_
  refine lv_iadd hx hb dL_law_1128 ?_
  refine va_sld hx hb hX hbl hbA hS h1 dL_law_1129 ?_
  refine lv_aload_n hx hb dL_law_1130 rfl (lv_at hl 3 rfl) ?_
  refine lv_iload_n hx hb dL_law_1131 rfl (lv_at hl 0 rfl) ?_
  refine lv_iconst (v := 2) hx hb dL_law_1132 (by decide) ?_
  refine lv_iadd hx hb dL_law_1133 ?_
  refine va_sld hx hb hX hbl hbA hS h2 dL_law_1134 ?_
  refine L_call (as := [.inl (xs (nI i + 1).toNatClampNeg), .inl (xs (nI i + 2).toNatClampNeg)]) (f := 9) (rest := []) E dL_law_1135 rfl (by decide) rfl rfl ⟨Nat.one_pos, trivial, trivial, trivial⟩ (KX9_ask (l := l) (G := G) (A := (fun q : Nat => s.heap.size ≤ q)) (d := 10) (J_ask (xs (nI i + 1).toNatClampNeg) (xs (nI i + 2).toNatClampNeg) hR)) (Nat.le_of_ble_eq_true rfl) hP hS hl.1 (fun r σ1 H locs hok hk hP hS => ?_)
  obtain ⟨v1, rfl, hk1⟩ := hk
  refine W.eq (g2 := F0 m 1138 ls [.int v1]) rfl ?_
  refine lv_aload_n hx hb dL_law_1138 rfl (lv_at hl 1 rfl) ?_
  refine lv_aload_n hx hb dL_law_1139 rfl (lv_at hl 3 rfl) ?_
  refine lv_iload_n hx hb dL_law_1140 rfl (lv_at hl 0 rfl) ?_
  refine lv_iconst (v := 1) hx hb dL_law_1141 (by decide) ?_
  refine lv_iadd hx hb dL_law_1142 ?_
  refine va_sld hx hb hX hbl hbA hS h1 dL_law_1143 ?_
  refine lv_aload_n hx hb dL_law_1144 rfl (lv_at hl 3 rfl) ?_
  refine lv_iload_n hx hb dL_law_1145 rfl (lv_at hl 0 rfl) ?_
  refine lv_iconst (v := 2) hx hb dL_law_1146 (by decide) ?_
  refine lv_iadd hx hb dL_law_1147 ?_
  refine va_sld hx hb hX hbl hbA hS h2 dL_law_1148 ?_
  refine L_call (as := [.inl (xs (nI i + 1).toNatClampNeg), .inl (xs (nI i + 2).toNatClampNeg)]) (f := 10) (rest := [.int v1]) E dL_law_1149 rfl (by decide) rfl rfl ⟨Nat.one_pos, trivial, trivial, trivial⟩ (KX10_ask (l := l) (G := G) (A := (fun q : Nat => s.heap.size ≤ q)) (d := 15) hk1) (Nat.le_of_ble_eq_true rfl) hP hS hl.1 (fun r σ2 H locs hok hk hP hS => ?_)
  obtain ⟨v2, rfl, hk2⟩ := hk
  refine W.eq (g2 := F0 m 1152 ls [.int v2, .int v1]) rfl ?_
  exact lv_icmp_eq (tgt := 1216) hx hb dL_law_1152 (by decide) (fun _ => kk σ2 H locs hk2.2 hP hS) (fun c1 => absurd hk2.1 c1)
set_option maxHeartbeats 4000000 in
set_option maxRecDepth 100000 in
theorem law_c25 {p : Program} {l : Launch} {e : Env} {s : State} {m : MethodId} {below : List Frame} {meth : Method} {c : Code} {b L : Nat} {xs : Nat → Int32} {G : gG} (hL : L ≤ 3072) (C0 : lw_At p s m meth c b L xs) (E : gEv p room_1 s m #[Value.ref b] c G (fun q : Nat => s.heap.size ≤ q) 11 code 4 20 84 4034) {i : Nat} {σ : gT} {H : Heap} {locs : List Loc} {ls : Array Slot} (hi : i + 6 ≤ L) (hR : gR σ) (hP : va_P G.2.2.1 gCl (gW G σ) H) (hS : va_S (fun q : Nat => s.heap.size ≤ q) s.heap H locs) (hl : lv_has ls 4 [(3, .int (nI i)), (2, .ref (G.1 10 0)), (1, .ref (G.1 9 0)), (0, .ref b)]) (kk : ∀ (σ2 : gT) (H2 : Heap) (locs2 : List Loc), gR σ2 → va_P G.2.2.1 gCl (gW G σ2) H2 → va_S (fun q : Nat => s.heap.size ≤ q) s.heap H2 locs2 → W p l e room_1 s m #[Value.ref b] below meth c H2 locs2 84 4034 (lw_Z below #[Value.ref b] s) (F0 m 1216 ls [])) : W p l e room_1 s m #[Value.ref b] below meth c H locs 84 4034 (lw_Z below #[Value.ref b] s) (F0 m 1157 ls []) := by
  obtain ⟨hx, hb, hr, hml, hown, hts0, hX, hbl, hlocks, hgv⟩ := C0
  have hts := E.2.2.2.2.1
  have hbA : ¬ (fun q : Nat => s.heap.size ≤ q) b := Nat.not_le.mpr hbl
  have h1 : vp_in (nI i + 1) L := by rw [show nI i + 1 = nI (i + 1) from nI_add i 1]; exact vp_in_nI (by omega) (by omega)
  have h2 : vp_in (nI i + 2) L := by rw [show nI i + 2 = nI (i + 2) from nI_add i 2]; exact vp_in_nI (by omega) (by omega)
  have h3 : vp_in (nI i + 3) L := by rw [show nI i + 3 = nI (i + 3) from nI_add i 3]; exact vp_in_nI (by omega) (by omega)
  have h4 : vp_in (nI i + 4) L := by rw [show nI i + 4 = nI (i + 4) from nI_add i 4]; exact vp_in_nI (by omega) (by omega)
  have h5 : vp_in (nI i + 5) L := by rw [show nI i + 5 = nI (i + 5) from nI_add i 5]; exact vp_in_nI (by omega) (by omega)
  refine lv_aload_n hx hb dL_law_1157 rfl (lv_at hl 2 rfl) ?_
  refine lv_aload_n hx hb dL_law_1158 rfl (lv_at hl 3 rfl) ?_
  refine lv_iload_n hx hb dL_law_1159 rfl (lv_at hl 0 rfl) ?_
  refine lv_iconst (v := 1) hx hb dL_law_1160 (by decide) ?_
  refine lv_iadd hx hb dL_law_1161 ?_
  refine va_sld hx hb hX hbl hbA hS h1 dL_law_1162 ?_
  refine L_call (as := [.inl (xs (nI i + 1).toNatClampNeg)]) (f := 9) (rest := []) E dL_law_1163 rfl (by decide) rfl rfl ⟨Nat.one_pos, trivial, trivial⟩ (KX9_trace (l := l) (G := G) (A := (fun q : Nat => s.heap.size ≤ q)) (d := 18) (J_trace (xs (nI i + 1).toNatClampNeg) hR)) (Nat.le_of_ble_eq_true rfl) hP hS hl.1 (fun r σ1 H locs hok hk hP hS => ?_)
  obtain ⟨v1, rfl, hk1⟩ := hk
  refine W.eq (g2 := F0 m 1166 ls [.int v1]) rfl ?_
  refine lv_aload_n hx hb dL_law_1166 rfl (lv_at hl 1 rfl) ?_
  refine lv_aload_n hx hb dL_law_1167 rfl (lv_at hl 3 rfl) ?_
  refine lv_iload_n hx hb dL_law_1168 rfl (lv_at hl 0 rfl) ?_
  refine lv_iconst (v := 1) hx hb dL_law_1169 (by decide) ?_
  refine lv_iadd hx hb dL_law_1170 ?_
  refine va_sld hx hb hX hbl hbA hS h1 dL_law_1171 ?_
  refine L_call (as := [.inl (xs (nI i + 1).toNatClampNeg)]) (f := 10) (rest := [.int v1]) E dL_law_1172 rfl (by decide) rfl rfl ⟨Nat.one_pos, trivial, trivial⟩ (KX10_trace (l := l) (G := G) (A := (fun q : Nat => s.heap.size ≤ q)) (d := 18) hk1) (Nat.le_of_ble_eq_true rfl) hP hS hl.1 (fun r σ2 H locs hok hk hP hS => ?_)
  obtain ⟨v2, rfl, hk2⟩ := hk
  refine W.eq (g2 := F0 m 1175 ls [.int v2, .int v1]) rfl ?_
  exact lv_icmp_eq (tgt := 1216) hx hb dL_law_1175 (by decide) (fun _ => kk σ2 H locs hk2.2 hP hS) (fun c1 => absurd hk2.1 c1)
set_option maxHeartbeats 4000000 in
set_option maxRecDepth 100000 in
theorem law_c26 {p : Program} {l : Launch} {e : Env} {s : State} {m : MethodId} {below : List Frame} {meth : Method} {c : Code} {b L : Nat} {xs : Nat → Int32} {G : gG} (hL : L ≤ 3072) (C0 : lw_At p s m meth c b L xs) (E : gEv p room_1 s m #[Value.ref b] c G (fun q : Nat => s.heap.size ≤ q) 11 code 4 20 84 4034) {i : Nat} {σ : gT} {H : Heap} {locs : List Loc} {ls : Array Slot} (hi : i + 6 ≤ L) (hR : gR σ) (hP : va_P G.2.2.1 gCl (gW G σ) H) (hS : va_S (fun q : Nat => s.heap.size ≤ q) s.heap H locs) (hl : lv_has ls 4 [(3, .int (nI i)), (2, .ref (G.1 10 0)), (1, .ref (G.1 9 0)), (0, .ref b)]) (kk : ∀ (σ2 : gT) (H2 : Heap) (locs2 : List Loc), gR σ2 → va_P G.2.2.1 gCl (gW G σ2) H2 → va_S (fun q : Nat => s.heap.size ≤ q) s.heap H2 locs2 → W p l e room_1 s m #[Value.ref b] below meth c H2 locs2 84 4034 (lw_Z below #[Value.ref b] s) (F0 m 1216 ls [])) : W p l e room_1 s m #[Value.ref b] below meth c H locs 84 4034 (lw_Z below #[Value.ref b] s) (F0 m 1180 ls []) := by
  obtain ⟨hx, hb, hr, hml, hown, hts0, hX, hbl, hlocks, hgv⟩ := C0
  have hts := E.2.2.2.2.1
  have hbA : ¬ (fun q : Nat => s.heap.size ≤ q) b := Nat.not_le.mpr hbl
  have h1 : vp_in (nI i + 1) L := by rw [show nI i + 1 = nI (i + 1) from nI_add i 1]; exact vp_in_nI (by omega) (by omega)
  have h2 : vp_in (nI i + 2) L := by rw [show nI i + 2 = nI (i + 2) from nI_add i 2]; exact vp_in_nI (by omega) (by omega)
  have h3 : vp_in (nI i + 3) L := by rw [show nI i + 3 = nI (i + 3) from nI_add i 3]; exact vp_in_nI (by omega) (by omega)
  have h4 : vp_in (nI i + 4) L := by rw [show nI i + 4 = nI (i + 4) from nI_add i 4]; exact vp_in_nI (by omega) (by omega)
  have h5 : vp_in (nI i + 5) L := by rw [show nI i + 5 = nI (i + 5) from nI_add i 5]; exact vp_in_nI (by omega) (by omega)
  refine lv_aload_n hx hb dL_law_1180 rfl (lv_at hl 2 rfl) ?_
  refine lv_aload_n hx hb dL_law_1181 rfl (lv_at hl 3 rfl) ?_
  refine lv_iload_n hx hb dL_law_1182 rfl (lv_at hl 0 rfl) ?_
  refine lv_iconst (v := 1) hx hb dL_law_1183 (by decide) ?_
  refine lv_iadd hx hb dL_law_1184 ?_
  refine va_sld hx hb hX hbl hbA hS h1 dL_law_1185 ?_
  refine L_call (as := [.inl (xs (nI i + 1).toNatClampNeg)]) (f := 9) (rest := []) E dL_law_1186 rfl (by decide) rfl rfl ⟨Nat.one_pos, trivial, trivial⟩ (KX9_count (l := l) (G := G) (A := (fun q : Nat => s.heap.size ≤ q)) (d := 14) (J_count (xs (nI i + 1).toNatClampNeg) hR)) (Nat.le_of_ble_eq_true rfl) hP hS hl.1 (fun r σ1 H locs hok hk hP hS => ?_)
  obtain ⟨v1, rfl, hk1⟩ := hk
  refine W.eq (g2 := F0 m 1189 ls [.int v1]) rfl ?_
  refine lv_aload_n hx hb dL_law_1189 rfl (lv_at hl 1 rfl) ?_
  refine lv_aload_n hx hb dL_law_1190 rfl (lv_at hl 3 rfl) ?_
  refine lv_iload_n hx hb dL_law_1191 rfl (lv_at hl 0 rfl) ?_
  refine lv_iconst (v := 1) hx hb dL_law_1192 (by decide) ?_
  refine lv_iadd hx hb dL_law_1193 ?_
  refine va_sld hx hb hX hbl hbA hS h1 dL_law_1194 ?_
  refine L_call (as := [.inl (xs (nI i + 1).toNatClampNeg)]) (f := 10) (rest := [.int v1]) E dL_law_1195 rfl (by decide) rfl rfl ⟨Nat.one_pos, trivial, trivial⟩ (KX10_count (l := l) (G := G) (A := (fun q : Nat => s.heap.size ≤ q)) (d := 17) hk1) (Nat.le_of_ble_eq_true rfl) hP hS hl.1 (fun r σ2 H locs hok hk hP hS => ?_)
  obtain ⟨v2, rfl, hk2⟩ := hk
  refine W.eq (g2 := F0 m 1198 ls [.int v2, .int v1]) rfl ?_
  exact lv_icmp_eq (tgt := 1216) hx hb dL_law_1198 (by decide) (fun _ => kk σ2 H locs hk2.2 hP hS) (fun c1 => absurd hk2.1 c1)
set_option maxHeartbeats 4000000 in
set_option maxRecDepth 100000 in
theorem law_c27 {p : Program} {l : Launch} {e : Env} {s : State} {m : MethodId} {below : List Frame} {meth : Method} {c : Code} {b L : Nat} {xs : Nat → Int32} {G : gG} (hL : L ≤ 3072) (C0 : lw_At p s m meth c b L xs) (E : gEv p room_1 s m #[Value.ref b] c G (fun q : Nat => s.heap.size ≤ q) 11 code 4 20 84 4034) {i : Nat} {σ : gT} {H : Heap} {locs : List Loc} {ls : Array Slot} (hi : i + 6 ≤ L) (hR : gR σ) (hP : va_P G.2.2.1 gCl (gW G σ) H) (hS : va_S (fun q : Nat => s.heap.size ≤ q) s.heap H locs) (hl : lv_has ls 4 [(3, .int (nI i)), (2, .ref (G.1 10 0)), (1, .ref (G.1 9 0)), (0, .ref b)]) (kk : ∀ (σ2 : gT) (H2 : Heap) (locs2 : List Loc), gR σ2 → va_P G.2.2.1 gCl (gW G σ2) H2 → va_S (fun q : Nat => s.heap.size ≤ q) s.heap H2 locs2 → W p l e room_1 s m #[Value.ref b] below meth c H2 locs2 84 4034 (lw_Z below #[Value.ref b] s) (F0 m 1216 ls [])) : W p l e room_1 s m #[Value.ref b] below meth c H locs 84 4034 (lw_Z below #[Value.ref b] s) (F0 m 1203 ls []) := by
  obtain ⟨hx, hb, hr, hml, hown, hts0, hX, hbl, hlocks, hgv⟩ := C0
  have hts := E.2.2.2.2.1
  have hbA : ¬ (fun q : Nat => s.heap.size ≤ q) b := Nat.not_le.mpr hbl
  have h1 : vp_in (nI i + 1) L := by rw [show nI i + 1 = nI (i + 1) from nI_add i 1]; exact vp_in_nI (by omega) (by omega)
  have h2 : vp_in (nI i + 2) L := by rw [show nI i + 2 = nI (i + 2) from nI_add i 2]; exact vp_in_nI (by omega) (by omega)
  have h3 : vp_in (nI i + 3) L := by rw [show nI i + 3 = nI (i + 3) from nI_add i 3]; exact vp_in_nI (by omega) (by omega)
  have h4 : vp_in (nI i + 4) L := by rw [show nI i + 4 = nI (i + 4) from nI_add i 4]; exact vp_in_nI (by omega) (by omega)
  have h5 : vp_in (nI i + 5) L := by rw [show nI i + 5 = nI (i + 5) from nI_add i 5]; exact vp_in_nI (by omega) (by omega)
  refine lv_aload_n hx hb dL_law_1203 rfl (lv_at hl 2 rfl) ?_
  refine L_call (as := []) (f := 9) (rest := []) E dL_law_1204 rfl (by decide) rfl rfl ⟨Nat.one_pos, trivial⟩ (KX9_status (l := l) (G := G) (A := (fun q : Nat => s.heap.size ≤ q)) (d := 19) (J_status  hR)) (Nat.le_of_ble_eq_true rfl) hP hS hl.1 (fun r σ1 H locs hok hk hP hS => ?_)
  obtain ⟨v1, rfl, hk1⟩ := hk
  refine W.eq (g2 := F0 m 1207 ls [.int v1]) rfl ?_
  refine lv_aload_n hx hb dL_law_1207 rfl (lv_at hl 1 rfl) ?_
  refine L_call (as := []) (f := 10) (rest := [.int v1]) E dL_law_1208 rfl (by decide) rfl rfl ⟨Nat.one_pos, trivial⟩ (KX10_status (l := l) (G := G) (A := (fun q : Nat => s.heap.size ≤ q)) (d := 19) hk1) (Nat.le_of_ble_eq_true rfl) hP hS hl.1 (fun r σ2 H locs hok hk hP hS => ?_)
  obtain ⟨v2, rfl, hk2⟩ := hk
  refine W.eq (g2 := F0 m 1211 ls [.int v2, .int v1]) rfl ?_
  exact lv_icmp_eq (tgt := 1216) hx hb dL_law_1211 (by decide) (fun _ => kk σ2 H locs hk2.2 hP hS) (fun c1 => absurd hk2.1 c1)
