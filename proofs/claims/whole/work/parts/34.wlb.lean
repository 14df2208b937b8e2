set_option maxHeartbeats 4000000 in
set_option maxRecDepth 100000 in
theorem lw_case_0 {p : Program} {l : Launch} {e : Env} {s : State} {m : MethodId} {below : List Frame} {meth : Method} {c : Code} {D : va_G} {dA : Nat → ClassId} {b L : Nat} {xs : Nat → Int32} (hst : l.stackTraces = false) (hL : L ≤ 3072) (X : mm_C D dA s.heap.size cL_law RL 7 p s m #[Value.ref b] c) (XN : mm_XN s.heap.size s s.heap) (hX : va_X b L xs s s.heap) (hbl : b < s.heap.size) {n ax am ao : Nat} {Sim : Nat → mm_M → Prop} (h_feed : lw_s_feed n ax am Sim) {t cells slots : Nat} {M : mm_M} {H : Heap} {locs : List Loc} {ls : Array Slot} (ht : 6 * t + 6 ≤ L) (hc : cells ≤ 3495 + t) (hs : slots ≤ 65634 + 6 * t) (I : mm_I D dA s.heap.size s M H locs) (hl : lv_has ls 7 [(0, .ref b), (1, .ref ax), (2, .ref am), (3, .ref ao), (4, .int (nI (6 * t)))]) (hS : Sim t M) (kk : ∀ (cells slots : Nat) (M : mm_M) (H : Heap) (locs : List Loc) (ls : Array Slot), cells ≤ 3495 + t + 1 → slots ≤ 65634 + 6 * t + 6 → mm_I D dA s.heap.size s M H locs → lv_has ls 7 [(0, .ref b), (1, .ref ax), (2, .ref am), (3, .ref ao), (4, .int (nI (6 * t)))] → Sim (t + 1) M → W p l e room_1 s m #[Value.ref b] below meth c H locs cells slots (lw_Z below #[Value.ref b] s) (F0 m 1535 ls [])) : W p l e room_1 s m #[Value.ref b] below meth c H locs cells slots (lw_Z below #[Value.ref b] s) (F0 m 216 ls []) := by
  have hbA : ¬ mm_fr s.heap.size b := Nat.not_le.mpr hbl
  have i1 : vp_in (nI (6 * t) + 1) L := by rw [show nI (6 * t) + 1 = nI (6 * t + 1) from lw_ix _ 1]; exact vp_in_nI (by omega) (by omega)
  have i2 : vp_in (nI (6 * t) + 2) L := by rw [show nI (6 * t) + 2 = nI (6 * t + 2) from lw_ix _ 2]; exact vp_in_nI (by omega) (by omega)
  have i3 : vp_in (nI (6 * t) + 3) L := by rw [show nI (6 * t) + 3 = nI (6 * t + 3) from lw_ix _ 3]; exact vp_in_nI (by omega) (by omega)
  have i4 : vp_in (nI (6 * t) + 4) L := by rw [show nI (6 * t) + 4 = nI (6 * t + 4) from lw_ix _ 4]; exact vp_in_nI (by omega) (by omega)
  have i5 : vp_in (nI (6 * t) + 5) L := by rw [show nI (6 * t) + 5 = nI (6 * t + 5) from lw_ix _ 5]; exact vp_in_nI (by omega) (by omega)
  obtain ⟨r, M1, M2, h1, h2, hS⟩ := h_feed t M (by omega) hS (xs (nI (6 * t) + 1).toNatClampNeg) (xs (nI (6 * t) + 2).toNatClampNeg) (xs (nI (6 * t) + 3).toNatClampNeg) (xs (nI (6 * t) + 4).toNatClampNeg) (xs (nI (6 * t) + 5).toNatClampNeg)
  refine lv_aload_n X.1 X.2.1 dL_law_216 rfl (lv_at hl 1 rfl) ?_
  refine lv_aload_n X.1 X.2.1 dL_law_217 rfl (lv_at hl 0 rfl) ?_
  refine lv_iload X.1 X.2.1 dL_law_218 (lv_at hl 4 rfl) ?_
  refine lv_iconst (v := 1) X.1 X.2.1 dL_law_220 (by decide) ?_
  refine lv_iadd X.1 X.2.1 dL_law_221 ?_
  refine va_sld X.1 X.2.1 hX hbl hbA I.2 i1 dL_law_222 ?_
  refine lv_aload_n X.1 X.2.1 dL_law_223 rfl (lv_at hl 0 rfl) ?_
  refine lv_iload X.1 X.2.1 dL_law_224 (lv_at hl 4 rfl) ?_
  refine lv_iconst (v := 2) X.1 X.2.1 dL_law_226 (by decide) ?_
  refine lv_iadd X.1 X.2.1 dL_law_227 ?_
  refine va_sld X.1 X.2.1 hX hbl hbA I.2 i2 dL_law_228 ?_
  refine lv_aload_n X.1 X.2.1 dL_law_229 rfl (lv_at hl 0 rfl) ?_
  refine lv_iload X.1 X.2.1 dL_law_230 (lv_at hl 4 rfl) ?_
  refine lv_iconst (v := 3) X.1 X.2.1 dL_law_232 (by decide) ?_
  refine lv_iadd X.1 X.2.1 dL_law_233 ?_
  refine va_sld X.1 X.2.1 hX hbl hbA I.2 i3 dL_law_234 ?_
  refine lv_aload_n X.1 X.2.1 dL_law_235 rfl (lv_at hl 0 rfl) ?_
  refine lv_iload X.1 X.2.1 dL_law_236 (lv_at hl 4 rfl) ?_
  refine lv_iconst (v := 4) X.1 X.2.1 dL_law_238 (by decide) ?_
  refine lv_iadd X.1 X.2.1 dL_law_239 ?_
  refine va_sld X.1 X.2.1 hX hbl hbA I.2 i4 dL_law_240 ?_
  refine lv_aload_n X.1 X.2.1 dL_law_241 rfl (lv_at hl 0 rfl) ?_
  refine lv_iload X.1 X.2.1 dL_law_242 (lv_at hl 4 rfl) ?_
  refine lv_iconst (v := 5) X.1 X.2.1 dL_law_244 (by decide) ?_
  refine lv_iadd X.1 X.2.1 dL_law_245 ?_
  refine va_sld X.1 X.2.1 hX hbl hbA I.2 i5 dL_law_246 ?_
  refine mm_cVe X I hl (As := [.int (xs (nI (6 * t) + 1).toNatClampNeg), .int (xs (nI (6 * t) + 2).toNatClampNeg), .int (xs (nI (6 * t) + 3).toNatClampNeg), .int (xs (nI (6 * t) + 4).toNatClampNeg), .int (xs (nI (6 * t) + 5).toNatClampNeg)]) (ci := 9) md_X9_feed mv_X9_feed ml_L_19 rfl h1 (kX9_feed (n := n)) (by decide) ⟨show cells ≤ 601024 by omega, show slots ≤ 7293034 by omega⟩ rfl rfl (Nat.le_of_ble_eq_true rfl) dL_law_247 (fun H locs I => ?_)
  refine lv_aload_n X.1 X.2.1 dL_law_250 rfl (lv_at hl 2 rfl) ?_
  refine lv_aload_n X.1 X.2.1 dL_law_251 rfl (lv_at hl 0 rfl) ?_
  refine lv_iload X.1 X.2.1 dL_law_252 (lv_at hl 4 rfl) ?_
  refine lv_iconst (v := 1) X.1 X.2.1 dL_law_254 (by decide) ?_
  refine lv_iadd X.1 X.2.1 dL_law_255 ?_
  refine va_sld X.1 X.2.1 hX hbl hbA I.2 i1 dL_law_256 ?_
  refine lv_aload_n X.1 X.2.1 dL_law_257 rfl (lv_at hl 0 rfl) ?_
  refine lv_iload X.1 X.2.1 dL_law_258 (lv_at hl 4 rfl) ?_
  refine lv_iconst (v := 2) X.1 X.2.1 dL_law_260 (by decide) ?_
  refine lv_iadd X.1 X.2.1 dL_law_261 ?_
  refine va_sld X.1 X.2.1 hX hbl hbA I.2 i2 dL_law_262 ?_
  refine lv_aload_n X.1 X.2.1 dL_law_263 rfl (lv_at hl 0 rfl) ?_
  refine lv_iload X.1 X.2.1 dL_law_264 (lv_at hl 4 rfl) ?_
  refine lv_iconst (v := 3) X.1 X.2.1 dL_law_266 (by decide) ?_
  refine lv_iadd X.1 X.2.1 dL_law_267 ?_
  refine va_sld X.1 X.2.1 hX hbl hbA I.2 i3 dL_law_268 ?_
  refine lv_aload_n X.1 X.2.1 dL_law_269 rfl (lv_at hl 0 rfl) ?_
  refine lv_iload X.1 X.2.1 dL_law_270 (lv_at hl 4 rfl) ?_
  refine lv_iconst (v := 4) X.1 X.2.1 dL_law_272 (by decide) ?_
  refine lv_iadd X.1 X.2.1 dL_law_273 ?_
  refine va_sld X.1 X.2.1 hX hbl hbA I.2 i4 dL_law_274 ?_
  refine lv_aload_n X.1 X.2.1 dL_law_275 rfl (lv_at hl 0 rfl) ?_
  refine lv_iload X.1 X.2.1 dL_law_276 (lv_at hl 4 rfl) ?_
  refine lv_iconst (v := 5) X.1 X.2.1 dL_law_278 (by decide) ?_
  refine lv_iadd X.1 X.2.1 dL_law_279 ?_
  refine va_sld X.1 X.2.1 hX hbl hbA I.2 i5 dL_law_280 ?_
  refine mm_cVe X I hl (As := [.int (xs (nI (6 * t) + 1).toNatClampNeg), .int (xs (nI (6 * t) + 2).toNatClampNeg), .int (xs (nI (6 * t) + 3).toNatClampNeg), .int (xs (nI (6 * t) + 4).toNatClampNeg), .int (xs (nI (6 * t) + 5).toNatClampNeg)]) (ci := 10) md_X10_feed mv_X10_feed ml_L_23 rfl h2 (kX10_feed (n := n)) (by decide) ⟨show cells ≤ 601024 by omega, show slots ≤ 7293034 by omega⟩ rfl rfl (Nat.le_of_ble_eq_true rfl) dL_law_281 (fun H locs I => ?_)
  refine lv_icmp_eq (tgt := 1535) X.1 X.2.1 dL_law_284 (by decide) (fun _ => ?_) (fun q => absurd rfl q)
  exact kk cells slots M2 _ _ ls (by omega) (by omega) I hl hS
set_option maxHeartbeats 4000000 in
set_option maxRecDepth 100000 in
theorem lw_case_1 {p : Program} {l : Launch} {e : Env} {s : State} {m : MethodId} {below : List Frame} {meth : Method} {c : Code} {D : va_G} {dA : Nat → ClassId} {b L : Nat} {xs : Nat → Int32} (hst : l.stackTraces = false) (hL : L ≤ 3072) (X : mm_C D dA s.heap.size cL_law RL 7 p s m #[Value.ref b] c) (XN : mm_XN s.heap.size s s.heap) (hX : va_X b L xs s s.heap) (hbl : b < s.heap.size) {n ax am ao : Nat} {Sim : Nat → mm_M → Prop} (h_end : lw_s_end n ax am Sim) {t cells slots : Nat} {M : mm_M} {H : Heap} {locs : List Loc} {ls : Array Slot} (ht : 6 * t + 6 ≤ L) (hc : cells ≤ 3495 + t) (hs : slots ≤ 65634 + 6 * t) (I : mm_I D dA s.heap.size s M H locs) (hl : lv_has ls 7 [(0, .ref b), (1, .ref ax), (2, .ref am), (3, .ref ao), (4, .int (nI (6 * t)))]) (hS : Sim t M) (kk : ∀ (cells slots : Nat) (M : mm_M) (H : Heap) (locs : List Loc) (ls : Array Slot), cells ≤ 3495 + t + 1 → slots ≤ 65634 + 6 * t + 6 → mm_I D dA s.heap.size s M H locs → lv_has ls 7 [(0, .ref b), (1, .ref ax), (2, .ref am), (3, .ref ao), (4, .int (nI (6 * t)))] → Sim (t + 1) M → W p l e room_1 s m #[Value.ref b] below meth c H locs cells slots (lw_Z below #[Value.ref b] s) (F0 m 1535 ls [])) : W p l e room_1 s m #[Value.ref b] below meth c H locs cells slots (lw_Z below #[Value.ref b] s) (F0 m 289 ls []) := by
  have hbA : ¬ mm_fr s.heap.size b := Nat.not_le.mpr hbl
  have i1 : vp_in (nI (6 * t) + 1) L := by rw [show nI (6 * t) + 1 = nI (6 * t + 1) from lw_ix _ 1]; exact vp_in_nI (by omega) (by omega)
  have i2 : vp_in (nI (6 * t) + 2) L := by rw [show nI (6 * t) + 2 = nI (6 * t + 2) from lw_ix _ 2]; exact vp_in_nI (by omega) (by omega)
  have i3 : vp_in (nI (6 * t) + 3) L := by rw [show nI (6 * t) + 3 = nI (6 * t + 3) from lw_ix _ 3]; exact vp_in_nI (by omega) (by omega)
  have i4 : vp_in (nI (6 * t) + 4) L := by rw [show nI (6 * t) + 4 = nI (6 * t + 4) from lw_ix _ 4]; exact vp_in_nI (by omega) (by omega)
  have i5 : vp_in (nI (6 * t) + 5) L := by rw [show nI (6 * t) + 5 = nI (6 * t + 5) from lw_ix _ 5]; exact vp_in_nI (by omega) (by omega)
  obtain ⟨r, M1, M2, h1, h2, hS⟩ := h_end t M (by omega) hS (xs (nI (6 * t) + 1).toNatClampNeg)
  refine lv_aload_n X.1 X.2.1 dL_law_289 rfl (lv_at hl 1 rfl) ?_
  refine lv_aload_n X.1 X.2.1 dL_law_290 rfl (lv_at hl 0 rfl) ?_
  refine lv_iload X.1 X.2.1 dL_law_291 (lv_at hl 4 rfl) ?_
  refine lv_iconst (v := 1) X.1 X.2.1 dL_law_293 (by decide) ?_
  refine lv_iadd X.1 X.2.1 dL_law_294 ?_
  refine va_sld X.1 X.2.1 hX hbl hbA I.2 i1 dL_law_295 ?_
  refine mm_cVe X I hl (As := [.int (xs (nI (6 * t) + 1).toNatClampNeg)]) (ci := 9) md_X9_end mv_X9_end ml_L_24 rfl h1 (kX9_end (n := n)) (by decide) ⟨show cells ≤ 601024 by omega, show slots ≤ 7293034 by omega⟩ rfl rfl (Nat.le_of_ble_eq_true rfl) dL_law_296 (fun H locs I => ?_)
  refine lv_aload_n X.1 X.2.1 dL_law_299 rfl (lv_at hl 2 rfl) ?_
  refine lv_aload_n X.1 X.2.1 dL_law_300 rfl (lv_at hl 0 rfl) ?_
  refine lv_iload X.1 X.2.1 dL_law_301 (lv_at hl 4 rfl) ?_
  refine lv_iconst (v := 1) X.1 X.2.1 dL_law_303 (by decide) ?_
  refine lv_iadd X.1 X.2.1 dL_law_304 ?_
  refine va_sld X.1 X.2.1 hX hbl hbA I.2 i1 dL_law_305 ?_
  refine mm_cVe X I hl (As := [.int (xs (nI (6 * t) + 1).toNatClampNeg)]) (ci := 10) md_X10_end mv_X10_end ml_L_28 rfl h2 (kX10_end (n := n)) (by decide) ⟨show cells ≤ 601024 by omega, show slots ≤ 7293034 by omega⟩ rfl rfl (Nat.le_of_ble_eq_true rfl) dL_law_306 (fun H locs I => ?_)
  refine lv_icmp_eq (tgt := 1535) X.1 X.2.1 dL_law_309 (by decide) (fun _ => ?_) (fun q => absurd rfl q)
  exact kk cells slots M2 _ _ ls (by omega) (by omega) I hl hS
set_option maxHeartbeats 4000000 in
set_option maxRecDepth 100000 in
theorem lw_case_2 {p : Program} {l : Launch} {e : Env} {s : State} {m : MethodId} {below : List Frame} {meth : Method} {c : Code} {D : va_G} {dA : Nat → ClassId} {b L : Nat} {xs : Nat → Int32} (hst : l.stackTraces = false) (hL : L ≤ 3072) (X : mm_C D dA s.heap.size cL_law RL 7 p s m #[Value.ref b] c) (XN : mm_XN s.heap.size s s.heap) (hX : va_X b L xs s s.heap) (hbl : b < s.heap.size) {n ax am ao : Nat} {Sim : Nat → mm_M → Prop} (h_fault : lw_s_fault n ax am Sim) {t cells slots : Nat} {M : mm_M} {H : Heap} {locs : List Loc} {ls : Array Slot} (ht : 6 * t + 6 ≤ L) (hc : cells ≤ 3495 + t) (hs : slots ≤ 65634 + 6 * t) (I : mm_I D dA s.heap.size s M H locs) (hl : lv_has ls 7 [(0, .ref b), (1, .ref ax), (2, .ref am), (3, .ref ao), (4, .int (nI (6 * t)))]) (hS : Sim t M) (kk : ∀ (cells slots : Nat) (M : mm_M) (H : Heap) (locs : List Loc) (ls : Array Slot), cells ≤ 3495 + t + 1 → slots ≤ 65634 + 6 * t + 6 → mm_I D dA s.heap.size s M H locs → lv_has ls 7 [(0, .ref b), (1, .ref ax), (2, .ref am), (3, .ref ao), (4, .int (nI (6 * t)))] → Sim (t + 1) M → W p l e room_1 s m #[Value.ref b] below meth c H locs cells slots (lw_Z below #[Value.ref b] s) (F0 m 1535 ls [])) : W p l e room_1 s m #[Value.ref b] below meth c H locs cells slots (lw_Z below #[Value.ref b] s) (F0 m 314 ls []) := by
  have hbA : ¬ mm_fr s.heap.size b := Nat.not_le.mpr hbl
  have i1 : vp_in (nI (6 * t) + 1) L := by rw [show nI (6 * t) + 1 = nI (6 * t + 1) from lw_ix _ 1]; exact vp_in_nI (by omega) (by omega)
  have i2 : vp_in (nI (6 * t) + 2) L := by rw [show nI (6 * t) + 2 = nI (6 * t + 2) from lw_ix _ 2]; exact vp_in_nI (by omega) (by omega)
  have i3 : vp_in (nI (6 * t) + 3) L := by rw [show nI (6 * t) + 3 = nI (6 * t + 3) from lw_ix _ 3]; exact vp_in_nI (by omega) (by omega)
  have i4 : vp_in (nI (6 * t) + 4) L := by rw [show nI (6 * t) + 4 = nI (6 * t + 4) from lw_ix _ 4]; exact vp_in_nI (by omega) (by omega)
  have i5 : vp_in (nI (6 * t) + 5) L := by rw [show nI (6 * t) + 5 = nI (6 * t + 5) from lw_ix _ 5]; exact vp_in_nI (by omega) (by omega)
  obtain ⟨r, M1, M2, h1, h2, hS⟩ := h_fault t M (by omega) hS (xs (nI (6 * t) + 1).toNatClampNeg)
  refine lv_aload_n X.1 X.2.1 dL_law_314 rfl (lv_at hl 1 rfl) ?_
  refine lv_aload_n X.1 X.2.1 dL_law_315 rfl (lv_at hl 0 rfl) ?_
  refine lv_iload X.1 X.2.1 dL_law_316 (lv_at hl 4 rfl) ?_
  refine lv_iconst (v := 1) X.1 X.2.1 dL_law_318 (by decide) ?_
  refine lv_iadd X.1 X.2.1 dL_law_319 ?_
  refine va_sld X.1 X.2.1 hX hbl hbA I.2 i1 dL_law_320 ?_
  refine mm_cVe X I hl (As := [.int (xs (nI (6 * t) + 1).toNatClampNeg)]) (ci := 9) md_X9_fault mv_X9_fault ml_L_29 rfl h1 (kX9_fault (n := n)) (by decide) ⟨show cells ≤ 601024 by omega, show slots ≤ 7293034 by omega⟩ rfl rfl (Nat.le_of_ble_eq_true rfl) dL_law_321 (fun H locs I => ?_)
  refine lv_aload_n X.1 X.2.1 dL_law_324 rfl (lv_at hl 2 rfl) ?_
  refine lv_aload_n X.1 X.2.1 dL_law_325 rfl (lv_at hl 0 rfl) ?_
  refine lv_iload X.1 X.2.1 dL_law_326 (lv_at hl 4 rfl) ?_
  refine lv_iconst (v := 1) X.1 X.2.1 dL_law_328 (by decide) ?_
  refine lv_iadd X.1 X.2.1 dL_law_329 ?_
  refine va_sld X.1 X.2.1 hX hbl hbA I.2 i1 dL_law_330 ?_
  refine mm_cVe X I hl (As := [.int (xs (nI (6 * t) + 1).toNatClampNeg)]) (ci := 10) md_X10_fault mv_X10_fault ml_L_33 rfl h2 (kX10_fault (n := n)) (by decide) ⟨show cells ≤ 601024 by omega, show slots ≤ 7293034 by omega⟩ rfl rfl (Nat.le_of_ble_eq_true rfl) dL_law_331 (fun H locs I => ?_)
  refine lv_icmp_eq (tgt := 1535) X.1 X.2.1 dL_law_334 (by decide) (fun _ => ?_) (fun q => absurd rfl q)
  exact kk cells slots M2 _ _ ls (by omega) (by omega) I hl hS
set_option maxHeartbeats 4000000 in
set_option maxRecDepth 100000 in
theorem lw_case_3 {p : Program} {l : Launch} {e : Env} {s : State} {m : MethodId} {below : List Frame} {meth : Method} {c : Code} {D : va_G} {dA : Nat → ClassId} {b L : Nat} {xs : Nat → Int32} (hst : l.stackTraces = false) (hL : L ≤ 3072) (X : mm_C D dA s.heap.size cL_law RL 7 p s m #[Value.ref b] c) (XN : mm_XN s.heap.size s s.heap) (hX : va_X b L xs s s.heap) (hbl : b < s.heap.size) {n ax am ao : Nat} {Sim : Nat → mm_M → Prop} (h_text : lw_s_text n ax am Sim) {t cells slots : Nat} {M : mm_M} {H : Heap} {locs : List Loc} {ls : Array Slot} (ht : 6 * t + 6 ≤ L) (hc : cells ≤ 3495 + t) (hs : slots ≤ 65634 + 6 * t) (I : mm_I D dA s.heap.size s M H locs) (hl : lv_has ls 7 [(0, .ref b), (1, .ref ax), (2, .ref am), (3, .ref ao), (4, .int (nI (6 * t)))]) (hS : Sim t M) (kk : ∀ (cells slots : Nat) (M : mm_M) (H : Heap) (locs : List Loc) (ls : Array Slot), cells ≤ 3495 + t + 1 → slots ≤ 65634 + 6 * t + 6 → mm_I D dA s.heap.size s M H locs → lv_has ls 7 [(0, .ref b), (1, .ref ax), (2, .ref am), (3, .ref ao), (4, .int (nI (6 * t)))] → Sim (t + 1) M → W p l e room_1 s m #[Value.ref b] below meth c H locs cells slots (lw_Z below #[Value.ref b] s) (F0 m 1535 ls [])) : W p l e room_1 s m #[Value.ref b] below meth c H locs cells slots (lw_Z below #[Value.ref b] s) (F0 m 339 ls []) := by
  have hbA : ¬ mm_fr s.heap.size b := Nat.not_le.mpr hbl
  have i1 : vp_in (nI (6 * t) + 1) L := by rw [show nI (6 * t) + 1 = nI (6 * t + 1) from lw_ix _ 1]; exact vp_in_nI (by omega) (by omega)
  have i2 : vp_in (nI (6 * t) + 2) L := by rw [show nI (6 * t) + 2 = nI (6 * t + 2) from lw_ix _ 2]; exact vp_in_nI (by omega) (by omega)
  have i3 : vp_in (nI (6 * t) + 3) L := by rw [show nI (6 * t) + 3 = nI (6 * t + 3) from lw_ix _ 3]; exact vp_in_nI (by omega) (by omega)
  have i4 : vp_in (nI (6 * t) + 4) L := by rw [show nI (6 * t) + 4 = nI (6 * t + 4) from lw_ix _ 4]; exact vp_in_nI (by omega) (by omega)
  have i5 : vp_in (nI (6 * t) + 5) L := by rw [show nI (6 * t) + 5 = nI (6 * t + 5) from lw_ix _ 5]; exact vp_in_nI (by omega) (by omega)
  obtain ⟨r, M1, M2, h1, h2, hS⟩ := h_text t M (by omega) hS (xs (nI (6 * t) + 1).toNatClampNeg)
  refine lv_aload_n X.1 X.2.1 dL_law_339 rfl (lv_at hl 1 rfl) ?_
  refine lv_aload_n X.1 X.2.1 dL_law_340 rfl (lv_at hl 0 rfl) ?_
  refine lv_iload X.1 X.2.1 dL_law_341 (lv_at hl 4 rfl) ?_
  refine lv_iconst (v := 1) X.1 X.2.1 dL_law_343 (by decide) ?_
  refine lv_iadd X.1 X.2.1 dL_law_344 ?_
  refine va_sld X.1 X.2.1 hX hbl hbA I.2 i1 dL_law_345 ?_
  refine mm_cVe X I hl (As := [.int (xs (nI (6 * t) + 1).toNatClampNeg)]) (ci := 9) md_X9_text mv_X9_text ml_L_34 rfl h1 (kX9_text (n := n)) (by decide) ⟨show cells ≤ 601024 by omega, show slots ≤ 7293034 by omega⟩ rfl rfl (Nat.le_of_ble_eq_true rfl) dL_law_346 (fun H locs I => ?_)
  refine lv_aload_n X.1 X.2.1 dL_law_349 rfl (lv_at hl 2 rfl) ?_
  refine lv_aload_n X.1 X.2.1 dL_law_350 rfl (lv_at hl 0 rfl) ?_
  refine lv_iload X.1 X.2.1 dL_law_351 (lv_at hl 4 rfl) ?_
  refine lv_iconst (v := 1) X.1 X.2.1 dL_law_353 (by decide) ?_
  refine lv_iadd X.1 X.2.1 dL_law_354 ?_
  refine va_sld X.1 X.2.1 hX hbl hbA I.2 i1 dL_law_355 ?_
  refine mm_cVe X I hl (As := [.int (xs (nI (6 * t) + 1).toNatClampNeg)]) (ci := 10) md_X10_text mv_X10_text ml_L_37 rfl h2 (kX10_text (n := n)) (by decide) ⟨show cells ≤ 601024 by omega, show slots ≤ 7293034 by omega⟩ rfl rfl (Nat.le_of_ble_eq_true rfl) dL_law_356 (fun H locs I => ?_)
  refine lv_icmp_eq (tgt := 1535) X.1 X.2.1 dL_law_359 (by decide) (fun _ => ?_) (fun q => absurd rfl q)
  exact kk cells slots M2 _ _ ls (by omega) (by omega) I hl hS
set_option maxHeartbeats 4000000 in
set_option maxRecDepth 100000 in
theorem lw_case_4 {p : Program} {l : Launch} {e : Env} {s : State} {m : MethodId} {below : List Frame} {meth : Method} {c : Code} {D : va_G} {dA : Nat → ClassId} {b L : Nat} {xs : Nat → Int32} (hst : l.stackTraces = false) (hL : L ≤ 3072) (X : mm_C D dA s.heap.size cL_law RL 7 p s m #[Value.ref b] c) (XN : mm_XN s.heap.size s s.heap) (hX : va_X b L xs s s.heap) (hbl : b < s.heap.size) {n ax am ao : Nat} {Sim : Nat → mm_M → Prop} (h_word : lw_s_word n ax am Sim) {t cells slots : Nat} {M : mm_M} {H : Heap} {locs : List Loc} {ls : Array Slot} (ht : 6 * t + 6 ≤ L) (hc : cells ≤ 3495 + t) (hs : slots ≤ 65634 + 6 * t) (I : mm_I D dA s.heap.size s M H locs) (hl : lv_has ls 7 [(0, .ref b), (1, .ref ax), (2, .ref am), (3, .ref ao), (4, .int (nI (6 * t)))]) (hS : Sim t M) (kk : ∀ (cells slots : Nat) (M : mm_M) (H : Heap) (locs : List Loc) (ls : Array Slot), cells ≤ 3495 + t + 1 → slots ≤ 65634 + 6 * t + 6 → mm_I D dA s.heap.size s M H locs → lv_has ls 7 [(0, .ref b), (1, .ref ax), (2, .ref am), (3, .ref ao), (4, .int (nI (6 * t)))] → Sim (t + 1) M → W p l e room_1 s m #[Value.ref b] below meth c H locs cells slots (lw_Z below #[Value.ref b] s) (F0 m 1535 ls [])) : W p l e room_1 s m #[Value.ref b] below meth c H locs cells slots (lw_Z below #[Value.ref b] s) (F0 m 364 ls []) := by
  have hbA : ¬ mm_fr s.heap.size b := Nat.not_le.mpr hbl
  have i1 : vp_in (nI (6 * t) + 1) L := by rw [show nI (6 * t) + 1 = nI (6 * t + 1) from lw_ix _ 1]; exact vp_in_nI (by omega) (by omega)
  have i2 : vp_in (nI (6 * t) + 2) L := by rw [show nI (6 * t) + 2 = nI (6 * t + 2) from lw_ix _ 2]; exact vp_in_nI (by omega) (by omega)
  have i3 : vp_in (nI (6 * t) + 3) L := by rw [show nI (6 * t) + 3 = nI (6 * t + 3) from lw_ix _ 3]; exact vp_in_nI (by omega) (by omega)
  have i4 : vp_in (nI (6 * t) + 4) L := by rw [show nI (6 * t) + 4 = nI (6 * t + 4) from lw_ix _ 4]; exact vp_in_nI (by omega) (by omega)
  have i5 : vp_in (nI (6 * t) + 5) L := by rw [show nI (6 * t) + 5 = nI (6 * t + 5) from lw_ix _ 5]; exact vp_in_nI (by omega) (by omega)
  obtain ⟨r, M1, M2, h1, h2, hS⟩ := h_word t M (by omega) hS ()
  refine lv_aload_n X.1 X.2.1 dL_law_364 rfl (lv_at hl 1 rfl) ?_
  refine mm_cVe X I hl (As := []) (ci := 9) md_X9_word mv_X9_word ml_L_38 rfl h1 (kX9_word (n := n)) (by decide) ⟨show cells ≤ 601024 by omega, show slots ≤ 7293034 by omega⟩ rfl rfl (Nat.le_of_ble_eq_true rfl) dL_law_365 (fun H locs I => ?_)
  refine lv_aload_n X.1 X.2.1 dL_law_368 rfl (lv_at hl 2 rfl) ?_
  refine mm_cVe X I hl (As := []) (ci := 10) md_X10_word mv_X10_word ml_L_42 rfl h2 (kX10_word (n := n)) (by decide) ⟨show cells ≤ 601024 by omega, show slots ≤ 7293034 by omega⟩ rfl rfl (Nat.le_of_ble_eq_true rfl) dL_law_369 (fun H locs I => ?_)
  refine lv_icmp_eq (tgt := 1535) X.1 X.2.1 dL_law_372 (by decide) (fun _ => ?_) (fun q => absurd rfl q)
  exact kk cells slots M2 _ _ ls (by omega) (by omega) I hl hS
set_option maxHeartbeats 4000000 in
set_option maxRecDepth 100000 in
theorem lw_case_5 {p : Program} {l : Launch} {e : Env} {s : State} {m : MethodId} {below : List Frame} {meth : Method} {c : Code} {D : va_G} {dA : Nat → ClassId} {b L : Nat} {xs : Nat → Int32} (hst : l.stackTraces = false) (hL : L ≤ 3072) (X : mm_C D dA s.heap.size cL_law RL 7 p s m #[Value.ref b] c) (XN : mm_XN s.heap.size s s.heap) (hX : va_X b L xs s s.heap) (hbl : b < s.heap.size) {n ax am ao : Nat} {Sim : Nat → mm_M → Prop} (h_rule : lw_s_rule n ax am Sim) {t cells slots : Nat} {M : mm_M} {H : Heap} {locs : List Loc} {ls : Array Slot} (ht : 6 * t + 6 ≤ L) (hc : cells ≤ 3495 + t) (hs : slots ≤ 65634 + 6 * t) (I : mm_I D dA s.heap.size s M H locs) (hl : lv_has ls 7 [(0, .ref b), (1, .ref ax), (2, .ref am), (3, .ref ao), (4, .int (nI (6 * t)))]) (hS : Sim t M) (kk : ∀ (cells slots : Nat) (M : mm_M) (H : Heap) (locs : List Loc) (ls : Array Slot), cells ≤ 3495 + t + 1 → slots ≤ 65634 + 6 * t + 6 → mm_I D dA s.heap.size s M H locs → lv_has ls 7 [(0, .ref b), (1, .ref ax), (2, .ref am), (3, .ref ao), (4, .int (nI (6 * t)))] → Sim (t + 1) M → W p l e room_1 s m #[Value.ref b] below meth c H locs cells slots (lw_Z below #[Value.ref b] s) (F0 m 1535 ls [])) : W p l e room_1 s m #[Value.ref b] below meth c H locs cells slots (lw_Z below #[Value.ref b] s) (F0 m 377 ls []) := by
  have hbA : ¬ mm_fr s.heap.size b := Nat.not_le.mpr hbl
  have i1 : vp_in (nI (6 * t) + 1) L := by rw [show nI (6 * t) + 1 = nI (6 * t + 1) from lw_ix _ 1]; exact vp_in_nI (by omega) (by omega)
  have i2 : vp_in (nI (6 * t) + 2) L := by rw [show nI (6 * t) + 2 = nI (6 * t + 2) from lw_ix _ 2]; exact vp_in_nI (by omega) (by omega)
  have i3 : vp_in (nI (6 * t) + 3) L := by rw [show nI (6 * t) + 3 = nI (6 * t + 3) from lw_ix _ 3]; exact vp_in_nI (by omega) (by omega)
  have i4 : vp_in (nI (6 * t) + 4) L := by rw [show nI (6 * t) + 4 = nI (6 * t + 4) from lw_ix _ 4]; exact vp_in_nI (by omega) (by omega)
  have i5 : vp_in (nI (6 * t) + 5) L := by rw [show nI (6 * t) + 5 = nI (6 * t + 5) from lw_ix _ 5]; exact vp_in_nI (by omega) (by omega)
  obtain ⟨r, M1, M2, h1, h2, hS⟩ := h_rule t M (by omega) hS (xs (nI (6 * t) + 1).toNatClampNeg)
  refine lv_aload_n X.1 X.2.1 dL_law_377 rfl (lv_at hl 1 rfl) ?_
  refine lv_aload_n X.1 X.2.1 dL_law_378 rfl (lv_at hl 0 rfl) ?_
  refine lv_iload X.1 X.2.1 dL_law_379 (lv_at hl 4 rfl) ?_
  refine lv_iconst (v := 1) X.1 X.2.1 dL_law_381 (by decide) ?_
  refine lv_iadd X.1 X.2.1 dL_law_382 ?_
  refine va_sld X.1 X.2.1 hX hbl hbA I.2 i1 dL_law_383 ?_
  refine mm_cVe X I hl (As := [.int (xs (nI (6 * t) + 1).toNatClampNeg)]) (ci := 9) md_X9_rule mv_X9_rule ml_L_43 rfl h1 (kX9_rule (n := n)) (by decide) ⟨show cells ≤ 601024 by omega, show slots ≤ 7293034 by omega⟩ rfl rfl (Nat.le_of_ble_eq_true rfl) dL_law_384 (fun H locs I => ?_)
  refine lv_aload_n X.1 X.2.1 dL_law_387 rfl (lv_at hl 2 rfl) ?_
  refine lv_aload_n X.1 X.2.1 dL_law_388 rfl (lv_at hl 0 rfl) ?_
  refine lv_iload X.1 X.2.1 dL_law_389 (lv_at hl 4 rfl) ?_
  refine lv_iconst (v := 1) X.1 X.2.1 dL_law_391 (by decide) ?_
  refine lv_iadd X.1 X.2.1 dL_law_392 ?_
  refine va_sld X.1 X.2.1 hX hbl hbA I.2 i1 dL_law_393 ?_
  refine mm_cVe X I hl (As := [.int (xs (nI (6 * t) + 1).toNatClampNeg)]) (ci := 10) md_X10_rule mv_X10_rule ml_L_46 rfl h2 (kX10_rule (n := n)) (by decide) ⟨show cells ≤ 601024 by omega, show slots ≤ 7293034 by omega⟩ rfl rfl (Nat.le_of_ble_eq_true rfl) dL_law_394 (fun H locs I => ?_)
  refine lv_icmp_eq (tgt := 1535) X.1 X.2.1 dL_law_397 (by decide) (fun _ => ?_) (fun q => absurd rfl q)
  exact kk cells slots M2 _ _ ls (by omega) (by omega) I hl hS
set_option maxHeartbeats 4000000 in
set_option maxRecDepth 100000 in
theorem lw_case_7 {p : Program} {l : Launch} {e : Env} {s : State} {m : MethodId} {below : List Frame} {meth : Method} {c : Code} {D : va_G} {dA : Nat → ClassId} {b L : Nat} {xs : Nat → Int32} (hst : l.stackTraces = false) (hL : L ≤ 3072) (X : mm_C D dA s.heap.size cL_law RL 7 p s m #[Value.ref b] c) (XN : mm_XN s.heap.size s s.heap) (hX : va_X b L xs s s.heap) (hbl : b < s.heap.size) {n ax am ao : Nat} {Sim : Nat → mm_M → Prop} (h_sign : lw_s_sign n ax am Sim) {t cells slots : Nat} {M : mm_M} {H : Heap} {locs : List Loc} {ls : Array Slot} (ht : 6 * t + 6 ≤ L) (hc : cells ≤ 3495 + t) (hs : slots ≤ 65634 + 6 * t) (I : mm_I D dA s.heap.size s M H locs) (hl : lv_has ls 7 [(0, .ref b), (1, .ref ax), (2, .ref am), (3, .ref ao), (4, .int (nI (6 * t)))]) (hS : Sim t M) (kk : ∀ (cells slots : Nat) (M : mm_M) (H : Heap) (locs : List Loc) (ls : Array Slot), cells ≤ 3495 + t + 1 → slots ≤ 65634 + 6 * t + 6 → mm_I D dA s.heap.size s M H locs → lv_has ls 7 [(0, .ref b), (1, .ref ax), (2, .ref am), (3, .ref ao), (4, .int (nI (6 * t)))] → Sim (t + 1) M → W p l e room_1 s m #[Value.ref b] below meth c H locs cells slots (lw_Z below #[Value.ref b] s) (F0 m 1535 ls [])) : W p l e room_1 s m #[Value.ref b] below meth c H locs cells slots (lw_Z below #[Value.ref b] s) (F0 m 470 ls []) := by
  have hbA : ¬ mm_fr s.heap.size b := Nat.not_le.mpr hbl
  have i1 : vp_in (nI (6 * t) + 1) L := by rw [show nI (6 * t) + 1 = nI (6 * t + 1) from lw_ix _ 1]; exact vp_in_nI (by omega) (by omega)
  have i2 : vp_in (nI (6 * t) + 2) L := by rw [show nI (6 * t) + 2 = nI (6 * t + 2) from lw_ix _ 2]; exact vp_in_nI (by omega) (by omega)
  have i3 : vp_in (nI (6 * t) + 3) L := by rw [show nI (6 * t) + 3 = nI (6 * t + 3) from lw_ix _ 3]; exact vp_in_nI (by omega) (by omega)
  have i4 : vp_in (nI (6 * t) + 4) L := by rw [show nI (6 * t) + 4 = nI (6 * t + 4) from lw_ix _ 4]; exact vp_in_nI (by omega) (by omega)
  have i5 : vp_in (nI (6 * t) + 5) L := by rw [show nI (6 * t) + 5 = nI (6 * t + 5) from lw_ix _ 5]; exact vp_in_nI (by omega) (by omega)
  obtain ⟨r, M1, M2, h1, h2, hS⟩ := h_sign t M (by omega) hS (xs (nI (6 * t) + 1).toNatClampNeg) (xs (nI (6 * t) + 2).toNatClampNeg)
  refine lv_aload_n X.1 X.2.1 dL_law_470 rfl (lv_at hl 1 rfl) ?_
  refine lv_aload_n X.1 X.2.1 dL_law_471 rfl (lv_at hl 0 rfl) ?_
  refine lv_iload X.1 X.2.1 dL_law_472 (lv_at hl 4 rfl) ?_
  refine lv_iconst (v := 1) X.1 X.2.1 dL_law_474 (by decide) ?_
  refine lv_iadd X.1 X.2.1 dL_law_475 ?_
  refine va_sld X.1 X.2.1 hX hbl hbA I.2 i1 dL_law_476 ?_
  refine lv_aload_n X.1 X.2.1 dL_law_477 rfl (lv_at hl 0 rfl) ?_
  refine lv_iload X.1 X.2.1 dL_law_478 (lv_at hl 4 rfl) ?_
  refine lv_iconst (v := 2) X.1 X.2.1 dL_law_480 (by decide) ?_
  refine lv_iadd X.1 X.2.1 dL_law_481 ?_
  refine va_sld X.1 X.2.1 hX hbl hbA I.2 i2 dL_law_482 ?_
  refine mm_cVe X I hl (As := [.int (xs (nI (6 * t) + 1).toNatClampNeg), .int (xs (nI (6 * t) + 2).toNatClampNeg)]) (ci := 9) md_X9_sign mv_X9_sign ml_L_56 rfl h1 (kX9_sign (n := n)) (by decide) ⟨show cells ≤ 601024 by omega, show slots ≤ 7293034 by omega⟩ rfl rfl (Nat.le_of_ble_eq_true rfl) dL_law_483 (fun H locs I => ?_)
  refine lv_aload_n X.1 X.2.1 dL_law_486 rfl (lv_at hl 2 rfl) ?_
  refine lv_aload_n X.1 X.2.1 dL_law_487 rfl (lv_at hl 0 rfl) ?_
  refine lv_iload X.1 X.2.1 dL_law_488 (lv_at hl 4 rfl) ?_
  refine lv_iconst (v := 1) X.1 X.2.1 dL_law_490 (by decide) ?_
  refine lv_iadd X.1 X.2.1 dL_law_491 ?_
  refine va_sld X.1 X.2.1 hX hbl hbA I.2 i1 dL_law_492 ?_
  refine lv_aload_n X.1 X.2.1 dL_law_493 rfl (lv_at hl 0 rfl) ?_
  refine lv_iload X.1 X.2.1 dL_law_494 (lv_at hl 4 rfl) ?_
  refine lv_iconst (v := 2) X.1 X.2.1 dL_law_496 (by decide) ?_
  refine lv_iadd X.1 X.2.1 dL_law_497 ?_
  refine va_sld X.1 X.2.1 hX hbl hbA I.2 i2 dL_law_498 ?_
  refine mm_cVe X I hl (As := [.int (xs (nI (6 * t) + 1).toNatClampNeg), .int (xs (nI (6 * t) + 2).toNatClampNeg)]) (ci := 10) md_X10_sign mv_X10_sign ml_L_59 rfl h2 (kX10_sign (n := n)) (by decide) ⟨show cells ≤ 601024 by omega, show slots ≤ 7293034 by omega⟩ rfl rfl (Nat.le_of_ble_eq_true rfl) dL_law_499 (fun H locs I => ?_)
  refine lv_icmp_eq (tgt := 1535) X.1 X.2.1 dL_law_502 (by decide) (fun _ => ?_) (fun q => absurd rfl q)
  exact kk cells slots M2 _ _ ls (by omega) (by omega) I hl hS
set_option maxHeartbeats 4000000 in
set_option maxRecDepth 100000 in
theorem lw_case_8 {p : Program} {l : Launch} {e : Env} {s : State} {m : MethodId} {below : List Frame} {meth : Method} {c : Code} {D : va_G} {dA : Nat → ClassId} {b L : Nat} {xs : Nat → Int32} (hst : l.stackTraces = false) (hL : L ≤ 3072) (X : mm_C D dA s.heap.size cL_law RL 7 p s m #[Value.ref b] c) (XN : mm_XN s.heap.size s s.heap) (hX : va_X b L xs s s.heap) (hbl : b < s.heap.size) {n ax am ao : Nat} {Sim : Nat → mm_M → Prop} (h_hit : lw_s_hit n ax am Sim) {t cells slots : Nat} {M : mm_M} {H : Heap} {locs : List Loc} {ls : Array Slot} (ht : 6 * t + 6 ≤ L) (hc : cells ≤ 3495 + t) (hs : slots ≤ 65634 + 6 * t) (I : mm_I D dA s.heap.size s M H locs) (hl : lv_has ls 7 [(0, .ref b), (1, .ref ax), (2, .ref am), (3, .ref ao), (4, .int (nI (6 * t)))]) (hS : Sim t M) (kk : ∀ (cells slots : Nat) (M : mm_M) (H : Heap) (locs : List Loc) (ls : Array Slot), cells ≤ 3495 + t + 1 → slots ≤ 65634 + 6 * t + 6 → mm_I D dA s.heap.size s M H locs → lv_has ls 7 [(0, .ref b), (1, .ref ax), (2, .ref am), (3, .ref ao), (4, .int (nI (6 * t)))] → Sim (t + 1) M → W p l e room_1 s m #[Value.ref b] below meth c H locs cells slots (lw_Z below #[Value.ref b] s) (F0 m 1535 ls [])) : W p l e room_1 s m #[Value.ref b] below meth c H locs cells slots (lw_Z below #[Value.ref b] s) (F0 m 507 ls []) := by
  have hbA : ¬ mm_fr s.heap.size b := Nat.not_le.mpr hbl
  have i1 : vp_in (nI (6 * t) + 1) L := by rw [show nI (6 * t) + 1 = nI (6 * t + 1) from lw_ix _ 1]; exact vp_in_nI (by omega) (by omega)
  have i2 : vp_in (nI (6 * t) + 2) L := by rw [show nI (6 * t) + 2 = nI (6 * t + 2) from lw_ix _ 2]; exact vp_in_nI (by omega) (by omega)
  have i3 : vp_in (nI (6 * t) + 3) L := by rw [show nI (6 * t) + 3 = nI (6 * t + 3) from lw_ix _ 3]; exact vp_in_nI (by omega) (by omega)
  have i4 : vp_in (nI (6 * t) + 4) L := by rw [show nI (6 * t) + 4 = nI (6 * t + 4) from lw_ix _ 4]; exact vp_in_nI (by omega) (by omega)
  have i5 : vp_in (nI (6 * t) + 5) L := by rw [show nI (6 * t) + 5 = nI (6 * t + 5) from lw_ix _ 5]; exact vp_in_nI (by omega) (by omega)
  obtain ⟨r, M1, M2, h1, h2, hS⟩ := h_hit t M (by omega) hS (xs (nI (6 * t) + 1).toNatClampNeg) (xs (nI (6 * t) + 2).toNatClampNeg)
  refine lv_aload_n X.1 X.2.1 dL_law_507 rfl (lv_at hl 1 rfl) ?_
  refine lv_aload_n X.1 X.2.1 dL_law_508 rfl (lv_at hl 0 rfl) ?_
  refine lv_iload X.1 X.2.1 dL_law_509 (lv_at hl 4 rfl) ?_
  refine lv_iconst (v := 1) X.1 X.2.1 dL_law_511 (by decide) ?_
  refine lv_iadd X.1 X.2.1 dL_law_512 ?_
  refine va_sld X.1 X.2.1 hX hbl hbA I.2 i1 dL_law_513 ?_
  refine lv_aload_n X.1 X.2.1 dL_law_514 rfl (lv_at hl 0 rfl) ?_
  refine lv_iload X.1 X.2.1 dL_law_515 (lv_at hl 4 rfl) ?_
  refine lv_iconst (v := 2) X.1 X.2.1 dL_law_517 (by decide) ?_
  refine lv_iadd X.1 X.2.1 dL_law_518 ?_
  refine va_sld X.1 X.2.1 hX hbl hbA I.2 i2 dL_law_519 ?_
  refine mm_cVe X I hl (As := [.int (xs (nI (6 * t) + 1).toNatClampNeg), .int (xs (nI (6 * t) + 2).toNatClampNeg)]) (ci := 9) md_X9_hit mv_X9_hit ml_L_60 rfl h1 (kX9_hit (n := n)) (by decide) ⟨show cells ≤ 601024 by omega, show slots ≤ 7293034 by omega⟩ rfl rfl (Nat.le_of_ble_eq_true rfl) dL_law_520 (fun H locs I => ?_)
  refine lv_aload_n X.1 X.2.1 dL_law_523 rfl (lv_at hl 2 rfl) ?_
  refine lv_aload_n X.1 X.2.1 dL_law_524 rfl (lv_at hl 0 rfl) ?_
  refine lv_iload X.1 X.2.1 dL_law_525 (lv_at hl 4 rfl) ?_
  refine lv_iconst (v := 1) X.1 X.2.1 dL_law_527 (by decide) ?_
  refine lv_iadd X.1 X.2.1 dL_law_528 ?_
  refine va_sld X.1 X.2.1 hX hbl hbA I.2 i1 dL_law_529 ?_
  refine lv_aload_n X.1 X.2.1 dL_law_530 rfl (lv_at hl 0 rfl) ?_
  refine lv_iload X.1 X.2.1 dL_law_531 (lv_at hl 4 rfl) ?_
  refine lv_iconst (v := 2) X.1 X.2.1 dL_law_533 (by decide) ?_
  refine lv_iadd X.1 X.2.1 dL_law_534 ?_
  refine va_sld X.1 X.2.1 hX hbl hbA I.2 i2 dL_law_535 ?_
  refine mm_cVe X I hl (As := [.int (xs (nI (6 * t) + 1).toNatClampNeg), .int (xs (nI (6 * t) + 2).toNatClampNeg)]) (ci := 10) md_X10_hit mv_X10_hit ml_L_63 rfl h2 (kX10_hit (n := n)) (by decide) ⟨show cells ≤ 601024 by omega, show slots ≤ 7293034 by omega⟩ rfl rfl (Nat.le_of_ble_eq_true rfl) dL_law_536 (fun H locs I => ?_)
  refine lv_icmp_eq (tgt := 1535) X.1 X.2.1 dL_law_539 (by decide) (fun _ => ?_) (fun q => absurd rfl q)
  exact kk cells slots M2 _ _ ls (by omega) (by omega) I hl hS
set_option maxHeartbeats 4000000 in
set_option maxRecDepth 100000 in
theorem lw_case_9 {p : Program} {l : Launch} {e : Env} {s : State} {m : MethodId} {below : List Frame} {meth : Method} {c : Code} {D : va_G} {dA : Nat → ClassId} {b L : Nat} {xs : Nat → Int32} (hst : l.stackTraces = false) (hL : L ≤ 3072) (X : mm_C D dA s.heap.size cL_law RL 7 p s m #[Value.ref b] c) (XN : mm_XN s.heap.size s s.heap) (hX : va_X b L xs s s.heap) (hbl : b < s.heap.size) {n ax am ao : Nat} {Sim : Nat → mm_M → Prop} (h_rank : lw_s_rank n ax am Sim) {t cells slots : Nat} {M : mm_M} {H : Heap} {locs : List Loc} {ls : Array Slot} (ht : 6 * t + 6 ≤ L) (hc : cells ≤ 3495 + t) (hs : slots ≤ 65634 + 6 * t) (I : mm_I D dA s.heap.size s M H locs) (hl : lv_has ls 7 [(0, .ref b), (1, .ref ax), (2, .ref am), (3, .ref ao), (4, .int (nI (6 * t)))]) (hS : Sim t M) (kk : ∀ (cells slots : Nat) (M : mm_M) (H : Heap) (locs : List Loc) (ls : Array Slot), cells ≤ 3495 + t + 1 → slots ≤ 65634 + 6 * t + 6 → mm_I D dA s.heap.size s M H locs → lv_has ls 7 [(0, .ref b), (1, .ref ax), (2, .ref am), (3, .ref ao), (4, .int (nI (6 * t)))] → Sim (t + 1) M → W p l e room_1 s m #[Value.ref b] below meth c H locs cells slots (lw_Z below #[Value.ref b] s) (F0 m 1535 ls [])) : W p l e room_1 s m #[Value.ref b] below meth c H locs cells slots (lw_Z below #[Value.ref b] s) (F0 m 544 ls []) := by
  have hbA : ¬ mm_fr s.heap.size b := Nat.not_le.mpr hbl
  have i1 : vp_in (nI (6 * t) + 1) L := by rw [show nI (6 * t) + 1 = nI (6 * t + 1) from lw_ix _ 1]; exact vp_in_nI (by omega) (by omega)
  have i2 : vp_in (nI (6 * t) + 2) L := by rw [show nI (6 * t) + 2 = nI (6 * t + 2) from lw_ix _ 2]; exact vp_in_nI (by omega) (by omega)
  have i3 : vp_in (nI (6 * t) + 3) L := by rw [show nI (6 * t) + 3 = nI (6 * t + 3) from lw_ix _ 3]; exact vp_in_nI (by omega) (by omega)
  have i4 : vp_in (nI (6 * t) + 4) L := by rw [show nI (6 * t) + 4 = nI (6 * t + 4) from lw_ix _ 4]; exact vp_in_nI (by omega) (by omega)
  have i5 : vp_in (nI (6 * t) + 5) L := by rw [show nI (6 * t) + 5 = nI (6 * t + 5) from lw_ix _ 5]; exact vp_in_nI (by omega) (by omega)
  obtain ⟨r, M1, M2, h1, h2, hS⟩ := h_rank t M (by omega) hS (xs (nI (6 * t) + 1).toNatClampNeg) (xs (nI (6 * t) + 2).toNatClampNeg)
  refine lv_aload_n X.1 X.2.1 dL_law_544 rfl (lv_at hl 1 rfl) ?_
  refine lv_aload_n X.1 X.2.1 dL_law_545 rfl (lv_at hl 0 rfl) ?_
  refine lv_iload X.1 X.2.1 dL_law_546 (lv_at hl 4 rfl) ?_
  refine lv_iconst (v := 1) X.1 X.2.1 dL_law_548 (by decide) ?_
  refine lv_iadd X.1 X.2.1 dL_law_549 ?_
  refine va_sld X.1 X.2.1 hX hbl hbA I.2 i1 dL_law_550 ?_
  refine lv_aload_n X.1 X.2.1 dL_law_551 rfl (lv_at hl 0 rfl) ?_
  refine lv_iload X.1 X.2.1 dL_law_552 (lv_at hl 4 rfl) ?_
  refine lv_iconst (v := 2) X.1 X.2.1 dL_law_554 (by decide) ?_
  refine lv_iadd X.1 X.2.1 dL_law_555 ?_
  refine va_sld X.1 X.2.1 hX hbl hbA I.2 i2 dL_law_556 ?_
  refine mm_cVe X I hl (As := [.int (xs (nI (6 * t) + 1).toNatClampNeg), .int (xs (nI (6 * t) + 2).toNatClampNeg)]) (ci := 9) md_X9_rank mv_X9_rank ml_L_64 rfl h1 (kX9_rank (n := n)) (by decide) ⟨show cells ≤ 601024 by omega, show slots ≤ 7293034 by omega⟩ rfl rfl (Nat.le_of_ble_eq_true rfl) dL_law_557 (fun H locs I => ?_)
  refine lv_aload_n X.1 X.2.1 dL_law_560 rfl (lv_at hl 2 rfl) ?_
  refine lv_aload_n X.1 X.2.1 dL_law_561 rfl (lv_at hl 0 rfl) ?_
  refine lv_iload X.1 X.2.1 dL_law_562 (lv_at hl 4 rfl) ?_
  refine lv_iconst (v := 1) X.1 X.2.1 dL_law_564 (by decide) ?_
  refine lv_iadd X.1 X.2.1 dL_law_565 ?_
  refine va_sld X.1 X.2.1 hX hbl hbA I.2 i1 dL_law_566 ?_
  refine lv_aload_n X.1 X.2.1 dL_law_567 rfl (lv_at hl 0 rfl) ?_
  refine lv_iload X.1 X.2.1 dL_law_568 (lv_at hl 4 rfl) ?_
  refine lv_iconst (v := 2) X.1 X.2.1 dL_law_570 (by decide) ?_
  refine lv_iadd X.1 X.2.1 dL_law_571 ?_
  refine va_sld X.1 X.2.1 hX hbl hbA I.2 i2 dL_law_572 ?_
  refine mm_cVe X I hl (As := [.int (xs (nI (6 * t) + 1).toNatClampNeg), .int (xs (nI (6 * t) + 2).toNatClampNeg)]) (ci := 10) md_X10_rank mv_X10_rank ml_L_67 rfl h2 (kX10_rank (n := n)) (by decide) ⟨show cells ≤ 601024 by omega, show slots ≤ 7293034 by omega⟩ rfl rfl (Nat.le_of_ble_eq_true rfl) dL_law_573 (fun H locs I => ?_)
  refine lv_icmp_eq (tgt := 1535) X.1 X.2.1 dL_law_576 (by decide) (fun _ => ?_) (fun q => absurd rfl q)
  exact kk cells slots M2 _ _ ls (by omega) (by omega) I hl hS
set_option maxHeartbeats 4000000 in
set_option maxRecDepth 100000 in
theorem lw_case_10 {p : Program} {l : Launch} {e : Env} {s : State} {m : MethodId} {below : List Frame} {meth : Method} {c : Code} {D : va_G} {dA : Nat → ClassId} {b L : Nat} {xs : Nat → Int32} (hst : l.stackTraces = false) (hL : L ≤ 3072) (X : mm_C D dA s.heap.size cL_law RL 7 p s m #[Value.ref b] c) (XN : mm_XN s.heap.size s s.heap) (hX : va_X b L xs s s.heap) (hbl : b < s.heap.size) {n ax am ao : Nat} {Sim : Nat → mm_M → Prop} (h_all : lw_s_all n ax am Sim) {t cells slots : Nat} {M : mm_M} {H : Heap} {locs : List Loc} {ls : Array Slot} (ht : 6 * t + 6 ≤ L) (hc : cells ≤ 3495 + t) (hs : slots ≤ 65634 + 6 * t) (I : mm_I D dA s.heap.size s M H locs) (hl : lv_has ls 7 [(0, .ref b), (1, .ref ax), (2, .ref am), (3, .ref ao), (4, .int (nI (6 * t)))]) (hS : Sim t M) (kk : ∀ (cells slots : Nat) (M : mm_M) (H : Heap) (locs : List Loc) (ls : Array Slot), cells ≤ 3495 + t + 1 → slots ≤ 65634 + 6 * t + 6 → mm_I D dA s.heap.size s M H locs → lv_has ls 7 [(0, .ref b), (1, .ref ax), (2, .ref am), (3, .ref ao), (4, .int (nI (6 * t)))] → Sim (t + 1) M → W p l e room_1 s m #[Value.ref b] below meth c H locs cells slots (lw_Z below #[Value.ref b] s) (F0 m 1535 ls [])) : W p l e room_1 s m #[Value.ref b] below meth c H locs cells slots (lw_Z below #[Value.ref b] s) (F0 m 581 ls []) := by
  have hbA : ¬ mm_fr s.heap.size b := Nat.not_le.mpr hbl
  have i1 : vp_in (nI (6 * t) + 1) L := by rw [show nI (6 * t) + 1 = nI (6 * t + 1) from lw_ix _ 1]; exact vp_in_nI (by omega) (by omega)
  have i2 : vp_in (nI (6 * t) + 2) L := by rw [show nI (6 * t) + 2 = nI (6 * t + 2) from lw_ix _ 2]; exact vp_in_nI (by omega) (by omega)
  have i3 : vp_in (nI (6 * t) + 3) L := by rw [show nI (6 * t) + 3 = nI (6 * t + 3) from lw_ix _ 3]; exact vp_in_nI (by omega) (by omega)
  have i4 : vp_in (nI (6 * t) + 4) L := by rw [show nI (6 * t) + 4 = nI (6 * t + 4) from lw_ix _ 4]; exact vp_in_nI (by omega) (by omega)
  have i5 : vp_in (nI (6 * t) + 5) L := by rw [show nI (6 * t) + 5 = nI (6 * t + 5) from lw_ix _ 5]; exact vp_in_nI (by omega) (by omega)
  obtain ⟨r, M1, M2, h1, h2, hS⟩ := h_all t M (by omega) hS (xs (nI (6 * t) + 1).toNatClampNeg) (xs (nI (6 * t) + 2).toNatClampNeg)
  refine lv_aload_n X.1 X.2.1 dL_law_581 rfl (lv_at hl 1 rfl) ?_
  refine lv_aload_n X.1 X.2.1 dL_law_582 rfl (lv_at hl 0 rfl) ?_
  refine lv_iload X.1 X.2.1 dL_law_583 (lv_at hl 4 rfl) ?_
  refine lv_iconst (v := 1) X.1 X.2.1 dL_law_585 (by decide) ?_
  refine lv_iadd X.1 X.2.1 dL_law_586 ?_
  refine va_sld X.1 X.2.1 hX hbl hbA I.2 i1 dL_law_587 ?_
  refine lv_aload_n X.1 X.2.1 dL_law_588 rfl (lv_at hl 0 rfl) ?_
  refine lv_iload X.1 X.2.1 dL_law_589 (lv_at hl 4 rfl) ?_
  refine lv_iconst (v := 2) X.1 X.2.1 dL_law_591 (by decide) ?_
  refine lv_iadd X.1 X.2.1 dL_law_592 ?_
  refine va_sld X.1 X.2.1 hX hbl hbA I.2 i2 dL_law_593 ?_
  refine mm_cVe X I hl (As := [.int (xs (nI (6 * t) + 1).toNatClampNeg), .int (xs (nI (6 * t) + 2).toNatClampNeg)]) (ci := 9) md_X9_all mv_X9_all ml_L_68 rfl h1 (kX9_all (n := n)) (by decide) ⟨show cells ≤ 601024 by omega, show slots ≤ 7293034 by omega⟩ rfl rfl (Nat.le_of_ble_eq_true rfl) dL_law_594 (fun H locs I => ?_)
  refine lv_aload_n X.1 X.2.1 dL_law_597 rfl (lv_at hl 2 rfl) ?_
  refine lv_aload_n X.1 X.2.1 dL_law_598 rfl (lv_at hl 0 rfl) ?_
  refine lv_iload X.1 X.2.1 dL_law_599 (lv_at hl 4 rfl) ?_
  refine lv_iconst (v := 1) X.1 X.2.1 dL_law_601 (by decide) ?_
  refine lv_iadd X.1 X.2.1 dL_law_602 ?_
  refine va_sld X.1 X.2.1 hX hbl hbA I.2 i1 dL_law_603 ?_
  refine lv_aload_n X.1 X.2.1 dL_law_604 rfl (lv_at hl 0 rfl) ?_
  refine lv_iload X.1 X.2.1 dL_law_605 (lv_at hl 4 rfl) ?_
  refine lv_iconst (v := 2) X.1 X.2.1 dL_law_607 (by decide) ?_
  refine lv_iadd X.1 X.2.1 dL_law_608 ?_
  refine va_sld X.1 X.2.1 hX hbl hbA I.2 i2 dL_law_609 ?_
  refine mm_cVe X I hl (As := [.int (xs (nI (6 * t) + 1).toNatClampNeg), .int (xs (nI (6 * t) + 2).toNatClampNeg)]) (ci := 10) md_X10_all mv_X10_all ml_L_71 rfl h2 (kX10_all (n := n)) (by decide) ⟨show cells ≤ 601024 by omega, show slots ≤ 7293034 by omega⟩ rfl rfl (Nat.le_of_ble_eq_true rfl) dL_law_610 (fun H locs I => ?_)
  refine lv_icmp_eq (tgt := 1535) X.1 X.2.1 dL_law_613 (by decide) (fun _ => ?_) (fun q => absurd rfl q)
  exact kk cells slots M2 _ _ ls (by omega) (by omega) I hl hS
set_option maxHeartbeats 4000000 in
set_option maxRecDepth 100000 in
theorem lw_case_11 {p : Program} {l : Launch} {e : Env} {s : State} {m : MethodId} {below : List Frame} {meth : Method} {c : Code} {D : va_G} {dA : Nat → ClassId} {b L : Nat} {xs : Nat → Int32} (hst : l.stackTraces = false) (hL : L ≤ 3072) (X : mm_C D dA s.heap.size cL_law RL 7 p s m #[Value.ref b] c) (XN : mm_XN s.heap.size s s.heap) (hX : va_X b L xs s s.heap) (hbl : b < s.heap.size) {n ax am ao : Nat} {Sim : Nat → mm_M → Prop} (h_twice : lw_s_twice n ax am Sim) {t cells slots : Nat} {M : mm_M} {H : Heap} {locs : List Loc} {ls : Array Slot} (ht : 6 * t + 6 ≤ L) (hc : cells ≤ 3495 + t) (hs : slots ≤ 65634 + 6 * t) (I : mm_I D dA s.heap.size s M H locs) (hl : lv_has ls 7 [(0, .ref b), (1, .ref ax), (2, .ref am), (3, .ref ao), (4, .int (nI (6 * t)))]) (hS : Sim t M) (kk : ∀ (cells slots : Nat) (M : mm_M) (H : Heap) (locs : List Loc) (ls : Array Slot), cells ≤ 3495 + t + 1 → slots ≤ 65634 + 6 * t + 6 → mm_I D dA s.heap.size s M H locs → lv_has ls 7 [(0, .ref b), (1, .ref ax), (2, .ref am), (3, .ref ao), (4, .int (nI (6 * t)))] → Sim (t + 1) M → W p l e room_1 s m #[Value.ref b] below meth c H locs cells slots (lw_Z below #[Value.ref b] s) (F0 m 1535 ls [])) : W p l e room_1 s m #[Value.ref b] below meth c H locs cells slots (lw_Z below #[Value.ref b] s) (F0 m 618 ls []) := by
  have hbA : ¬ mm_fr s.heap.size b := Nat.not_le.mpr hbl
  have i1 : vp_in (nI (6 * t) + 1) L := by rw [show nI (6 * t) + 1 = nI (6 * t + 1) from lw_ix _ 1]; exact vp_in_nI (by omega) (by omega)
  have i2 : vp_in (nI (6 * t) + 2) L := by rw [show nI (6 * t) + 2 = nI (6 * t + 2) from lw_ix _ 2]; exact vp_in_nI (by omega) (by omega)
  have i3 : vp_in (nI (6 * t) + 3) L := by rw [show nI (6 * t) + 3 = nI (6 * t + 3) from lw_ix _ 3]; exact vp_in_nI (by omega) (by omega)
  have i4 : vp_in (nI (6 * t) + 4) L := by rw [show nI (6 * t) + 4 = nI (6 * t + 4) from lw_ix _ 4]; exact vp_in_nI (by omega) (by omega)
  have i5 : vp_in (nI (6 * t) + 5) L := by rw [show nI (6 * t) + 5 = nI (6 * t + 5) from lw_ix _ 5]; exact vp_in_nI (by omega) (by omega)
  obtain ⟨r, M1, M2, h1, h2, hS⟩ := h_twice t M (by omega) hS (xs (nI (6 * t) + 1).toNatClampNeg)
  refine lv_aload_n X.1 X.2.1 dL_law_618 rfl (lv_at hl 1 rfl) ?_
  refine lv_aload_n X.1 X.2.1 dL_law_619 rfl (lv_at hl 0 rfl) ?_
  refine lv_iload X.1 X.2.1 dL_law_620 (lv_at hl 4 rfl) ?_
  refine lv_iconst (v := 1) X.1 X.2.1 dL_law_622 (by decide) ?_
  refine lv_iadd X.1 X.2.1 dL_law_623 ?_
  refine va_sld X.1 X.2.1 hX hbl hbA I.2 i1 dL_law_624 ?_
  refine mm_cVe X I hl (As := [.int (xs (nI (6 * t) + 1).toNatClampNeg)]) (ci := 9) md_X9_twice mv_X9_twice ml_L_72 rfl h1 (kX9_twice (n := n)) (by decide) ⟨show cells ≤ 601024 by omega, show slots ≤ 7293034 by omega⟩ rfl rfl (Nat.le_of_ble_eq_true rfl) dL_law_625 (fun H locs I => ?_)
  refine lv_aload_n X.1 X.2.1 dL_law_628 rfl (lv_at hl 2 rfl) ?_
  refine lv_aload_n X.1 X.2.1 dL_law_629 rfl (lv_at hl 0 rfl) ?_
  refine lv_iload X.1 X.2.1 dL_law_630 (lv_at hl 4 rfl) ?_
  refine lv_iconst (v := 1) X.1 X.2.1 dL_law_632 (by decide) ?_
  refine lv_iadd X.1 X.2.1 dL_law_633 ?_
  refine va_sld X.1 X.2.1 hX hbl hbA I.2 i1 dL_law_634 ?_
  refine mm_cVe X I hl (As := [.int (xs (nI (6 * t) + 1).toNatClampNeg)]) (ci := 10) md_X10_twice mv_X10_twice ml_L_75 rfl h2 (kX10_twice (n := n)) (by decide) ⟨show cells ≤ 601024 by omega, show slots ≤ 7293034 by omega⟩ rfl rfl (Nat.le_of_ble_eq_true rfl) dL_law_635 (fun H locs I => ?_)
  refine lv_icmp_eq (tgt := 1535) X.1 X.2.1 dL_law_638 (by decide) (fun _ => ?_) (fun q => absurd rfl q)
  exact kk cells slots M2 _ _ ls (by omega) (by omega) I hl hS
set_option maxHeartbeats 4000000 in
set_option maxRecDepth 100000 in
theorem lw_case_12 {p : Program} {l : Launch} {e : Env} {s : State} {m : MethodId} {below : List Frame} {meth : Method} {c : Code} {D : va_G} {dA : Nat → ClassId} {b L : Nat} {xs : Nat → Int32} (hst : l.stackTraces = false) (hL : L ≤ 3072) (X : mm_C D dA s.heap.size cL_law RL 7 p s m #[Value.ref b] c) (XN : mm_XN s.heap.size s s.heap) (hX : va_X b L xs s s.heap) (hbl : b < s.heap.size) {n ax am ao : Nat} {Sim : Nat → mm_M → Prop} (h_unlike : lw_s_unlike n ax am Sim) {t cells slots : Nat} {M : mm_M} {H : Heap} {locs : List Loc} {ls : Array Slot} (ht : 6 * t + 6 ≤ L) (hc : cells ≤ 3495 + t) (hs : slots ≤ 65634 + 6 * t) (I : mm_I D dA s.heap.size s M H locs) (hl : lv_has ls 7 [(0, .ref b), (1, .ref ax), (2, .ref am), (3, .ref ao), (4, .int (nI (6 * t)))]) (hS : Sim t M) (kk : ∀ (cells slots : Nat) (M : mm_M) (H : Heap) (locs : List Loc) (ls : Array Slot), cells ≤ 3495 + t + 1 → slots ≤ 65634 + 6 * t + 6 → mm_I D dA s.heap.size s M H locs → lv_has ls 7 [(0, .ref b), (1, .ref ax), (2, .ref am), (3, .ref ao), (4, .int (nI (6 * t)))] → Sim (t + 1) M → W p l e room_1 s m #[Value.ref b] below meth c H locs cells slots (lw_Z below #[Value.ref b] s) (F0 m 1535 ls [])) : W p l e room_1 s m #[Value.ref b] below meth c H locs cells slots (lw_Z below #[Value.ref b] s) (F0 m 643 ls []) := by
  have hbA : ¬ mm_fr s.heap.size b := Nat.not_le.mpr hbl
  have i1 : vp_in (nI (6 * t) + 1) L := by rw [show nI (6 * t) + 1 = nI (6 * t + 1) from lw_ix _ 1]; exact vp_in_nI (by omega) (by omega)
  have i2 : vp_in (nI (6 * t) + 2) L := by rw [show nI (6 * t) + 2 = nI (6 * t + 2) from lw_ix _ 2]; exact vp_in_nI (by omega) (by omega)
  have i3 : vp_in (nI (6 * t) + 3) L := by rw [show nI (6 * t) + 3 = nI (6 * t + 3) from lw_ix _ 3]; exact vp_in_nI (by omega) (by omega)
  have i4 : vp_in (nI (6 * t) + 4) L := by rw [show nI (6 * t) + 4 = nI (6 * t + 4) from lw_ix _ 4]; exact vp_in_nI (by omega) (by omega)
  have i5 : vp_in (nI (6 * t) + 5) L := by rw [show nI (6 * t) + 5 = nI (6 * t + 5) from lw_ix _ 5]; exact vp_in_nI (by omega) (by omega)
  obtain ⟨r, M1, M2, h1, h2, hS⟩ := h_unlike t M (by omega) hS (xs (nI (6 * t) + 1).toNatClampNeg)
  refine lv_aload_n X.1 X.2.1 dL_law_643 rfl (lv_at hl 1 rfl) ?_
  refine lv_aload_n X.1 X.2.1 dL_law_644 rfl (lv_at hl 0 rfl) ?_
  refine lv_iload X.1 X.2.1 dL_law_645 (lv_at hl 4 rfl) ?_
  refine lv_iconst (v := 1) X.1 X.2.1 dL_law_647 (by decide) ?_
  refine lv_iadd X.1 X.2.1 dL_law_648 ?_
  refine va_sld X.1 X.2.1 hX hbl hbA I.2 i1 dL_law_649 ?_
  refine mm_cVe X I hl (As := [.int (xs (nI (6 * t) + 1).toNatClampNeg)]) (ci := 9) md_X9_unlike mv_X9_unlike ml_L_76 rfl h1 (kX9_unlike (n := n)) (by decide) ⟨show cells ≤ 601024 by omega, show slots ≤ 7293034 by omega⟩ rfl rfl (Nat.le_of_ble_eq_true rfl) dL_law_650 (fun H locs I => ?_)
  refine lv_aload_n X.1 X.2.1 dL_law_653 rfl (lv_at hl 2 rfl) ?_
  refine lv_aload_n X.1 X.2.1 dL_law_654 rfl (lv_at hl 0 rfl) ?_
  refine lv_iload X.1 X.2.1 dL_law_655 (lv_at hl 4 rfl) ?_
  refine lv_iconst (v := 1) X.1 X.2.1 dL_law_657 (by decide) ?_
  refine lv_iadd X.1 X.2.1 dL_law_658 ?_
  refine va_sld X.1 X.2.1 hX hbl hbA I.2 i1 dL_law_659 ?_
  refine mm_cVe X I hl (As := [.int (xs (nI (6 * t) + 1).toNatClampNeg)]) (ci := 10) md_X10_unlike mv_X10_unlike ml_L_79 rfl h2 (kX10_unlike (n := n)) (by decide) ⟨show cells ≤ 601024 by omega, show slots ≤ 7293034 by omega⟩ rfl rfl (Nat.le_of_ble_eq_true rfl) dL_law_660 (fun H locs I => ?_)
  refine lv_icmp_eq (tgt := 1535) X.1 X.2.1 dL_law_663 (by decide) (fun _ => ?_) (fun q => absurd rfl q)
  exact kk cells slots M2 _ _ ls (by omega) (by omega) I hl hS
set_option maxHeartbeats 4000000 in
set_option maxRecDepth 100000 in
theorem lw_case_13 {p : Program} {l : Launch} {e : Env} {s : State} {m : MethodId} {below : List Frame} {meth : Method} {c : Code} {D : va_G} {dA : Nat → ClassId} {b L : Nat} {xs : Nat → Int32} (hst : l.stackTraces = false) (hL : L ≤ 3072) (X : mm_C D dA s.heap.size cL_law RL 7 p s m #[Value.ref b] c) (XN : mm_XN s.heap.size s s.heap) (hX : va_X b L xs s s.heap) (hbl : b < s.heap.size) {n ax am ao : Nat} {Sim : Nat → mm_M → Prop} (h_frequent : lw_s_frequent n ax am Sim) {t cells slots : Nat} {M : mm_M} {H : Heap} {locs : List Loc} {ls : Array Slot} (ht : 6 * t + 6 ≤ L) (hc : cells ≤ 3495 + t) (hs : slots ≤ 65634 + 6 * t) (I : mm_I D dA s.heap.size s M H locs) (hl : lv_has ls 7 [(0, .ref b), (1, .ref ax), (2, .ref am), (3, .ref ao), (4, .int (nI (6 * t)))]) (hS : Sim t M) (kk : ∀ (cells slots : Nat) (M : mm_M) (H : Heap) (locs : List Loc) (ls : Array Slot), cells ≤ 3495 + t + 1 → slots ≤ 65634 + 6 * t + 6 → mm_I D dA s.heap.size s M H locs → lv_has ls 7 [(0, .ref b), (1, .ref ax), (2, .ref am), (3, .ref ao), (4, .int (nI (6 * t)))] → Sim (t + 1) M → W p l e room_1 s m #[Value.ref b] below meth c H locs cells slots (lw_Z below #[Value.ref b] s) (F0 m 1535 ls [])) : W p l e room_1 s m #[Value.ref b] below meth c H locs cells slots (lw_Z below #[Value.ref b] s) (F0 m 668 ls []) := by
  have hbA : ¬ mm_fr s.heap.size b := Nat.not_le.mpr hbl
  have i1 : vp_in (nI (6 * t) + 1) L := by rw [show nI (6 * t) + 1 = nI (6 * t + 1) from lw_ix _ 1]; exact vp_in_nI (by omega) (by omega)
  have i2 : vp_in (nI (6 * t) + 2) L := by rw [show nI (6 * t) + 2 = nI (6 * t + 2) from lw_ix _ 2]; exact vp_in_nI (by omega) (by omega)
  have i3 : vp_in (nI (6 * t) + 3) L := by rw [show nI (6 * t) + 3 = nI (6 * t + 3) from lw_ix _ 3]; exact vp_in_nI (by omega) (by omega)
  have i4 : vp_in (nI (6 * t) + 4) L := by rw [show nI (6 * t) + 4 = nI (6 * t + 4) from lw_ix _ 4]; exact vp_in_nI (by omega) (by omega)
  have i5 : vp_in (nI (6 * t) + 5) L := by rw [show nI (6 * t) + 5 = nI (6 * t + 5) from lw_ix _ 5]; exact vp_in_nI (by omega) (by omega)
  obtain ⟨r, M1, M2, h1, h2, hS⟩ := h_frequent t M (by omega) hS (xs (nI (6 * t) + 1).toNatClampNeg) (xs (nI (6 * t) + 2).toNatClampNeg)
  refine lv_aload_n X.1 X.2.1 dL_law_668 rfl (lv_at hl 1 rfl) ?_
  refine lv_aload_n X.1 X.2.1 dL_law_669 rfl (lv_at hl 0 rfl) ?_
  refine lv_iload X.1 X.2.1 dL_law_670 (lv_at hl 4 rfl) ?_
  refine lv_iconst (v := 1) X.1 X.2.1 dL_law_672 (by decide) ?_
  refine lv_iadd X.1 X.2.1 dL_law_673 ?_
  refine va_sld X.1 X.2.1 hX hbl hbA I.2 i1 dL_law_674 ?_
  refine lv_aload_n X.1 X.2.1 dL_law_675 rfl (lv_at hl 0 rfl) ?_
  refine lv_iload X.1 X.2.1 dL_law_676 (lv_at hl 4 rfl) ?_
  refine lv_iconst (v := 2) X.1 X.2.1 dL_law_678 (by decide) ?_
  refine lv_iadd X.1 X.2.1 dL_law_679 ?_
  refine va_sld X.1 X.2.1 hX hbl hbA I.2 i2 dL_law_680 ?_
  refine mm_cVe X I hl (As := [.int (xs (nI (6 * t) + 1).toNatClampNeg), .int (xs (nI (6 * t) + 2).toNatClampNeg)]) (ci := 9) md_X9_frequent mv_X9_frequent ml_L_80 rfl h1 (kX9_frequent (n := n)) (by decide) ⟨show cells ≤ 601024 by omega, show slots ≤ 7293034 by omega⟩ rfl rfl (Nat.le_of_ble_eq_true rfl) dL_law_681 (fun H locs I => ?_)
  refine lv_aload_n X.1 X.2.1 dL_law_684 rfl (lv_at hl 2 rfl) ?_
  refine lv_aload_n X.1 X.2.1 dL_law_685 rfl (lv_at hl 0 rfl) ?_
  refine lv_iload X.1 X.2.1 dL_law_686 (lv_at hl 4 rfl) ?_
  refine lv_iconst (v := 1) X.1 X.2.1 dL_law_688 (by decide) ?_
  refine lv_iadd X.1 X.2.1 dL_law_689 ?_
  refine va_sld X.1 X.2.1 hX hbl hbA I.2 i1 dL_law_690 ?_
  refine lv_aload_n X.1 X.2.1 dL_law_691 rfl (lv_at hl 0 rfl) ?_
  refine lv_iload X.1 X.2.1 dL_law_692 (lv_at hl 4 rfl) ?_
  refine lv_iconst (v := 2) X.1 X.2.1 dL_law_694 (by decide) ?_
  refine lv_iadd X.1 X.2.1 dL_law_695 ?_
  refine va_sld X.1 X.2.1 hX hbl hbA I.2 i2 dL_law_696 ?_
  refine mm_cVe X I hl (As := [.int (xs (nI (6 * t) + 1).toNatClampNeg), .int (xs (nI (6 * t) + 2).toNatClampNeg)]) (ci := 10) md_X10_frequent mv_X10_frequent ml_L_83 rfl h2 (kX10_frequent (n := n)) (by decide) ⟨show cells ≤ 601024 by omega, show slots ≤ 7293034 by omega⟩ rfl rfl (Nat.le_of_ble_eq_true rfl) dL_law_697 (fun H locs I => ?_)
  refine lv_icmp_eq (tgt := 1535) X.1 X.2.1 dL_law_700 (by decide) (fun _ => ?_) (fun q => absurd rfl q)
  exact kk cells slots M2 _ _ ls (by omega) (by omega) I hl hS
set_option maxHeartbeats 4000000 in
set_option maxRecDepth 100000 in
theorem lw_case_14 {p : Program} {l : Launch} {e : Env} {s : State} {m : MethodId} {below : List Frame} {meth : Method} {c : Code} {D : va_G} {dA : Nat → ClassId} {b L : Nat} {xs : Nat → Int32} (hst : l.stackTraces = false) (hL : L ≤ 3072) (X : mm_C D dA s.heap.size cL_law RL 7 p s m #[Value.ref b] c) (XN : mm_XN s.heap.size s s.heap) (hX : va_X b L xs s s.heap) (hbl : b < s.heap.size) {n ax am ao : Nat} {Sim : Nat → mm_M → Prop} (h_few : lw_s_few n ax am Sim) {t cells slots : Nat} {M : mm_M} {H : Heap} {locs : List Loc} {ls : Array Slot} (ht : 6 * t + 6 ≤ L) (hc : cells ≤ 3495 + t) (hs : slots ≤ 65634 + 6 * t) (I : mm_I D dA s.heap.size s M H locs) (hl : lv_has ls 7 [(0, .ref b), (1, .ref ax), (2, .ref am), (3, .ref ao), (4, .int (nI (6 * t)))]) (hS : Sim t M) (kk : ∀ (cells slots : Nat) (M : mm_M) (H : Heap) (locs : List Loc) (ls : Array Slot), cells ≤ 3495 + t + 1 → slots ≤ 65634 + 6 * t + 6 → mm_I D dA s.heap.size s M H locs → lv_has ls 7 [(0, .ref b), (1, .ref ax), (2, .ref am), (3, .ref ao), (4, .int (nI (6 * t)))] → Sim (t + 1) M → W p l e room_1 s m #[Value.ref b] below meth c H locs cells slots (lw_Z below #[Value.ref b] s) (F0 m 1535 ls [])) : W p l e room_1 s m #[Value.ref b] below meth c H locs cells slots (lw_Z below #[Value.ref b] s) (F0 m 705 ls []) := by
  have hbA : ¬ mm_fr s.heap.size b := Nat.not_le.mpr hbl
  have i1 : vp_in (nI (6 * t) + 1) L := by rw [show nI (6 * t) + 1 = nI (6 * t + 1) from lw_ix _ 1]; exact vp_in_nI (by omega) (by omega)
  have i2 : vp_in (nI (6 * t) + 2) L := by rw [show nI (6 * t) + 2 = nI (6 * t + 2) from lw_ix _ 2]; exact vp_in_nI (by omega) (by omega)
  have i3 : vp_in (nI (6 * t) + 3) L := by rw [show nI (6 * t) + 3 = nI (6 * t + 3) from lw_ix _ 3]; exact vp_in_nI (by omega) (by omega)
  have i4 : vp_in (nI (6 * t) + 4) L := by rw [show nI (6 * t) + 4 = nI (6 * t + 4) from lw_ix _ 4]; exact vp_in_nI (by omega) (by omega)
  have i5 : vp_in (nI (6 * t) + 5) L := by rw [show nI (6 * t) + 5 = nI (6 * t + 5) from lw_ix _ 5]; exact vp_in_nI (by omega) (by omega)
  obtain ⟨r, M1, M2, h1, h2, hS⟩ := h_few t M (by omega) hS (xs (nI (6 * t) + 1).toNatClampNeg) (xs (nI (6 * t) + 2).toNatClampNeg)
  refine lv_aload_n X.1 X.2.1 dL_law_705 rfl (lv_at hl 1 rfl) ?_
  refine lv_aload_n X.1 X.2.1 dL_law_706 rfl (lv_at hl 0 rfl) ?_
  refine lv_iload X.1 X.2.1 dL_law_707 (lv_at hl 4 rfl) ?_
  refine lv_iconst (v := 1) X.1 X.2.1 dL_law_709 (by decide) ?_
  refine lv_iadd X.1 X.2.1 dL_law_710 ?_
  refine va_sld X.1 X.2.1 hX hbl hbA I.2 i1 dL_law_711 ?_
  refine lv_aload_n X.1 X.2.1 dL_law_712 rfl (lv_at hl 0 rfl) ?_
  refine lv_iload X.1 X.2.1 dL_law_713 (lv_at hl 4 rfl) ?_
  refine lv_iconst (v := 2) X.1 X.2.1 dL_law_715 (by decide) ?_
  refine lv_iadd X.1 X.2.1 dL_law_716 ?_
  refine va_sld X.1 X.2.1 hX hbl hbA I.2 i2 dL_law_717 ?_
  refine mm_cVe X I hl (As := [.int (xs (nI (6 * t) + 1).toNatClampNeg), .int (xs (nI (6 * t) + 2).toNatClampNeg)]) (ci := 9) md_X9_few mv_X9_few ml_L_84 rfl h1 (kX9_few (n := n)) (by decide) ⟨show cells ≤ 601024 by omega, show slots ≤ 7293034 by omega⟩ rfl rfl (Nat.le_of_ble_eq_true rfl) dL_law_718 (fun H locs I => ?_)
  refine lv_aload_n X.1 X.2.1 dL_law_721 rfl (lv_at hl 2 rfl) ?_
  refine lv_aload_n X.1 X.2.1 dL_law_722 rfl (lv_at hl 0 rfl) ?_
  refine lv_iload X.1 X.2.1 dL_law_723 (lv_at hl 4 rfl) ?_
  refine lv_iconst (v := 1) X.1 X.2.1 dL_law_725 (by decide) ?_
  refine lv_iadd X.1 X.2.1 dL_law_726 ?_
  refine va_sld X.1 X.2.1 hX hbl hbA I.2 i1 dL_law_727 ?_
  refine lv_aload_n X.1 X.2.1 dL_law_728 rfl (lv_at hl 0 rfl) ?_
  refine lv_iload X.1 X.2.1 dL_law_729 (lv_at hl 4 rfl) ?_
  refine lv_iconst (v := 2) X.1 X.2.1 dL_law_731 (by decide) ?_
  refine lv_iadd X.1 X.2.1 dL_law_732 ?_
  refine va_sld X.1 X.2.1 hX hbl hbA I.2 i2 dL_law_733 ?_
  refine mm_cVe X I hl (As := [.int (xs (nI (6 * t) + 1).toNatClampNeg), .int (xs (nI (6 * t) + 2).toNatClampNeg)]) (ci := 10) md_X10_few mv_X10_few ml_L_87 rfl h2 (kX10_few (n := n)) (by decide) ⟨show cells ≤ 601024 by omega, show slots ≤ 7293034 by omega⟩ rfl rfl (Nat.le_of_ble_eq_true rfl) dL_law_734 (fun H locs I => ?_)
  refine lv_icmp_eq (tgt := 1535) X.1 X.2.1 dL_law_737 (by decide) (fun _ => ?_) (fun q => absurd rfl q)
  exact kk cells slots M2 _ _ ls (by omega) (by omega) I hl hS
set_option maxHeartbeats 4000000 in
set_option maxRecDepth 100000 in
theorem lw_case_15 {p : Program} {l : Launch} {e : Env} {s : State} {m : MethodId} {below : List Frame} {meth : Method} {c : Code} {D : va_G} {dA : Nat → ClassId} {b L : Nat} {xs : Nat → Int32} (hst : l.stackTraces = false) (hL : L ≤ 3072) (X : mm_C D dA s.heap.size cL_law RL 7 p s m #[Value.ref b] c) (XN : mm_XN s.heap.size s s.heap) (hX : va_X b L xs s s.heap) (hbl : b < s.heap.size) {n ax am ao : Nat} {Sim : Nat → mm_M → Prop} (h_beside : lw_s_beside n ax am Sim) {t cells slots : Nat} {M : mm_M} {H : Heap} {locs : List Loc} {ls : Array Slot} (ht : 6 * t + 6 ≤ L) (hc : cells ≤ 3495 + t) (hs : slots ≤ 65634 + 6 * t) (I : mm_I D dA s.heap.size s M H locs) (hl : lv_has ls 7 [(0, .ref b), (1, .ref ax), (2, .ref am), (3, .ref ao), (4, .int (nI (6 * t)))]) (hS : Sim t M) (kk : ∀ (cells slots : Nat) (M : mm_M) (H : Heap) (locs : List Loc) (ls : Array Slot), cells ≤ 3495 + t + 1 → slots ≤ 65634 + 6 * t + 6 → mm_I D dA s.heap.size s M H locs → lv_has ls 7 [(0, .ref b), (1, .ref ax), (2, .ref am), (3, .ref ao), (4, .int (nI (6 * t)))] → Sim (t + 1) M → W p l e room_1 s m #[Value.ref b] below meth c H locs cells slots (lw_Z below #[Value.ref b] s) (F0 m 1535 ls [])) : W p l e room_1 s m #[Value.ref b] below meth c H locs cells slots (lw_Z below #[Value.ref b] s) (F0 m 742 ls []) := by
  have hbA : ¬ mm_fr s.heap.size b := Nat.not_le.mpr hbl
  have i1 : vp_in (nI (6 * t) + 1) L := by rw [show nI (6 * t) + 1 = nI (6 * t + 1) from lw_ix _ 1]; exact vp_in_nI (by omega) (by omega)
  have i2 : vp_in (nI (6 * t) + 2) L := by rw [show nI (6 * t) + 2 = nI (6 * t + 2) from lw_ix _ 2]; exact vp_in_nI (by omega) (by omega)
  have i3 : vp_in (nI (6 * t) + 3) L := by rw [show nI (6 * t) + 3 = nI (6 * t + 3) from lw_ix _ 3]; exact vp_in_nI (by omega) (by omega)
  have i4 : vp_in (nI (6 * t) + 4) L := by rw [show nI (6 * t) + 4 = nI (6 * t + 4) from lw_ix _ 4]; exact vp_in_nI (by omega) (by omega)
  have i5 : vp_in (nI (6 * t) + 5) L := by rw [show nI (6 * t) + 5 = nI (6 * t + 5) from lw_ix _ 5]; exact vp_in_nI (by omega) (by omega)
  refine lv_aload_n X.1 X.2.1 dL_law_742 rfl (lv_at hl 1 rfl) ?_
  refine lv_aload_n X.1 X.2.1 dL_law_743 rfl (lv_at hl 0 rfl) ?_
  refine lv_iload X.1 X.2.1 dL_law_744 (lv_at hl 4 rfl) ?_
  refine lv_iconst (v := 1) X.1 X.2.1 dL_law_746 (by decide) ?_
  refine lv_iadd X.1 X.2.1 dL_law_747 ?_
  refine va_sld X.1 X.2.1 hX hbl hbA I.2 i1 dL_law_748 ?_
  refine lv_if_eq (tgt := 756) X.1 X.2.1 dL_law_749 (by decide) (fun z1 => ?_) (fun z1 => ?_)
  · obtain ⟨r, M1, M2, h1, h2, hS⟩ := h_beside t M (by omega) hS 0 (xs (nI (6 * t) + 2).toNatClampNeg) (by decide)
    refine lv_iconst (v := 0) X.1 X.2.1 dL_law_756 (by decide) ?_
    refine lv_aload_n X.1 X.2.1 dL_law_757 rfl (lv_at hl 0 rfl) ?_
    refine lv_iload X.1 X.2.1 dL_law_758 (lv_at hl 4 rfl) ?_
    refine lv_iconst (v := 2) X.1 X.2.1 dL_law_760 (by decide) ?_
    refine lv_iadd X.1 X.2.1 dL_law_761 ?_
    refine va_sld X.1 X.2.1 hX hbl hbA I.2 i2 dL_law_762 ?_
    refine mm_cVe X I hl (As := [.int 0, .int (xs (nI (6 * t) + 2).toNatClampNeg)]) (ci := 9) md_X9_beside mv_X9_beside ml_L_88 rfl h1 (kX9_beside (n := n)) (by decide) ⟨show cells ≤ 601024 by omega, show slots ≤ 7293034 by omega⟩ rfl rfl (Nat.le_of_ble_eq_true rfl) dL_law_763 (fun H locs I => ?_)
    refine lv_aload_n X.1 X.2.1 dL_law_766 rfl (lv_at hl 2 rfl) ?_
    refine lv_aload_n X.1 X.2.1 dL_law_767 rfl (lv_at hl 0 rfl) ?_
    refine lv_iload X.1 X.2.1 dL_law_768 (lv_at hl 4 rfl) ?_
    refine lv_iconst (v := 1) X.1 X.2.1 dL_law_770 (by decide) ?_
    refine lv_iadd X.1 X.2.1 dL_law_771 ?_
    refine va_sld X.1 X.2.1 hX hbl hbA I.2 i1 dL_law_772 ?_
    refine lv_if_eq (tgt := 780) X.1 X.2.1 dL_law_773 (by decide) (fun z2 => ?_) (fun z2 => absurd z1 z2)
    refine lv_iconst (v := 0) X.1 X.2.1 dL_law_780 (by decide) ?_
    refine lv_aload_n X.1 X.2.1 dL_law_781 rfl (lv_at hl 0 rfl) ?_
    refine lv_iload X.1 X.2.1 dL_law_782 (lv_at hl 4 rfl) ?_
    refine lv_iconst (v := 2) X.1 X.2.1 dL_law_784 (by decide) ?_
    refine lv_iadd X.1 X.2.1 dL_law_785 ?_
    refine va_sld X.1 X.2.1 hX hbl hbA I.2 i2 dL_law_786 ?_
    refine mm_cVe X I hl (As := [.int 0, .int (xs (nI (6 * t) + 2).toNatClampNeg)]) (ci := 10) md_X10_beside mv_X10_beside ml_L_92 rfl h2 (kX10_beside (n := n)) (by decide) ⟨show cells ≤ 601024 by omega, show slots ≤ 7293034 by omega⟩ rfl rfl (Nat.le_of_ble_eq_true rfl) dL_law_787 (fun H locs I => ?_)
    refine lv_icmp_eq (tgt := 1535) X.1 X.2.1 dL_law_790 (by decide) (fun _ => ?_) (fun q => absurd rfl q)
    exact kk cells slots M2 _ _ ls (by omega) (by omega) I hl hS
  · obtain ⟨r, M1, M2, h1, h2, hS⟩ := h_beside t M (by omega) hS 1 (xs (nI (6 * t) + 2).toNatClampNeg) (by decide)
    refine lv_iconst (v := 1) X.1 X.2.1 dL_law_752 (by decide) ?_
    refine lv_goto (tgt := 757) X.1 X.2.1 dL_law_753 (by decide) ?_
    refine lv_aload_n X.1 X.2.1 dL_law_757 rfl (lv_at hl 0 rfl) ?_
    refine lv_iload X.1 X.2.1 dL_law_758 (lv_at hl 4 rfl) ?_
    refine lv_iconst (v := 2) X.1 X.2.1 dL_law_760 (by decide) ?_
    refine lv_iadd X.1 X.2.1 dL_law_761 ?_
    refine va_sld X.1 X.2.1 hX hbl hbA I.2 i2 dL_law_762 ?_
    refine mm_cVe X I hl (As := [.int 1, .int (xs (nI (6 * t) + 2).toNatClampNeg)]) (ci := 9) md_X9_beside mv_X9_beside ml_L_88 rfl h1 (kX9_beside (n := n)) (by decide) ⟨show cells ≤ 601024 by omega, show slots ≤ 7293034 by omega⟩ rfl rfl (Nat.le_of_ble_eq_true rfl) dL_law_763 (fun H locs I => ?_)
    refine lv_aload_n X.1 X.2.1 dL_law_766 rfl (lv_at hl 2 rfl) ?_
    refine lv_aload_n X.1 X.2.1 dL_law_767 rfl (lv_at hl 0 rfl) ?_
    refine lv_iload X.1 X.2.1 dL_law_768 (lv_at hl 4 rfl) ?_
    refine lv_iconst (v := 1) X.1 X.2.1 dL_law_770 (by decide) ?_
    refine lv_iadd X.1 X.2.1 dL_law_771 ?_
    refine va_sld X.1 X.2.1 hX hbl hbA I.2 i1 dL_law_772 ?_
    refine lv_if_eq (tgt := 780) X.1 X.2.1 dL_law_773 (by decide) (fun z2 => absurd z2 z1) (fun z2 => ?_)
    refine lv_iconst (v := 1) X.1 X.2.1 dL_law_776 (by decide) ?_
    refine lv_goto (tgt := 781) X.1 X.2.1 dL_law_777 (by decide) ?_
    refine lv_aload_n X.1 X.2.1 dL_law_781 rfl (lv_at hl 0 rfl) ?_
    refine lv_iload X.1 X.2.1 dL_law_782 (lv_at hl 4 rfl) ?_
    refine lv_iconst (v := 2) X.1 X.2.1 dL_law_784 (by decide) ?_
    refine lv_iadd X.1 X.2.1 dL_law_785 ?_
    refine va_sld X.1 X.2.1 hX hbl hbA I.2 i2 dL_law_786 ?_
    refine mm_cVe X I hl (As := [.int 1, .int (xs (nI (6 * t) + 2).toNatClampNeg)]) (ci := 10) md_X10_beside mv_X10_beside ml_L_92 rfl h2 (kX10_beside (n := n)) (by decide) ⟨show cells ≤ 601024 by omega, show slots ≤ 7293034 by omega⟩ rfl rfl (Nat.le_of_ble_eq_true rfl) dL_law_787 (fun H locs I => ?_)
    refine lv_icmp_eq (tgt := 1535) X.1 X.2.1 dL_law_790 (by decide) (fun _ => ?_) (fun q => absurd rfl q)
    exact kk cells slots M2 _ _ ls (by omega) (by omega) I hl hS
set_option maxHeartbeats 4000000 in
set_option maxRecDepth 100000 in
theorem lw_case_16 {p : Program} {l : Launch} {e : Env} {s : State} {m : MethodId} {below : List Frame} {meth : Method} {c : Code} {D : va_G} {dA : Nat → ClassId} {b L : Nat} {xs : Nat → Int32} (hst : l.stackTraces = false) (hL : L ≤ 3072) (X : mm_C D dA s.heap.size cL_law RL 7 p s m #[Value.ref b] c) (XN : mm_XN s.heap.size s s.heap) (hX : va_X b L xs s s.heap) (hbl : b < s.heap.size) {n ax am ao : Nat} {Sim : Nat → mm_M → Prop} (h_set : lw_s_set n ax am Sim) {t cells slots : Nat} {M : mm_M} {H : Heap} {locs : List Loc} {ls : Array Slot} (ht : 6 * t + 6 ≤ L) (hc : cells ≤ 3495 + t) (hs : slots ≤ 65634 + 6 * t) (I : mm_I D dA s.heap.size s M H locs) (hl : lv_has ls 7 [(0, .ref b), (1, .ref ax), (2, .ref am), (3, .ref ao), (4, .int (nI (6 * t)))]) (hS : Sim t M) (kk : ∀ (cells slots : Nat) (M : mm_M) (H : Heap) (locs : List Loc) (ls : Array Slot), cells ≤ 3495 + t + 1 → slots ≤ 65634 + 6 * t + 6 → mm_I D dA s.heap.size s M H locs → lv_has ls 7 [(0, .ref b), (1, .ref ax), (2, .ref am), (3, .ref ao), (4, .int (nI (6 * t)))] → Sim (t + 1) M → W p l e room_1 s m #[Value.ref b] below meth c H locs cells slots (lw_Z below #[Value.ref b] s) (F0 m 1535 ls [])) : W p l e room_1 s m #[Value.ref b] below meth c H locs cells slots (lw_Z below #[Value.ref b] s) (F0 m 795 ls []) := by
  have hbA : ¬ mm_fr s.heap.size b := Nat.not_le.mpr hbl
  have i1 : vp_in (nI (6 * t) + 1) L := by rw [show nI (6 * t) + 1 = nI (6 * t + 1) from lw_ix _ 1]; exact vp_in_nI (by omega) (by omega)
  have i2 : vp_in (nI (6 * t) + 2) L := by rw [show nI (6 * t) + 2 = nI (6 * t + 2) from lw_ix _ 2]; exact vp_in_nI (by omega) (by omega)
  have i3 : vp_in (nI (6 * t) + 3) L := by rw [show nI (6 * t) + 3 = nI (6 * t + 3) from lw_ix _ 3]; exact vp_in_nI (by omega) (by omega)
  have i4 : vp_in (nI (6 * t) + 4) L := by rw [show nI (6 * t) + 4 = nI (6 * t + 4) from lw_ix _ 4]; exact vp_in_nI (by omega) (by omega)
  have i5 : vp_in (nI (6 * t) + 5) L := by rw [show nI (6 * t) + 5 = nI (6 * t + 5) from lw_ix _ 5]; exact vp_in_nI (by omega) (by omega)
  obtain ⟨r, M1, M2, h1, h2, hS⟩ := h_set t M (by omega) hS (xs (nI (6 * t) + 1).toNatClampNeg)
  refine lv_aload_n X.1 X.2.1 dL_law_795 rfl (lv_at hl 1 rfl) ?_
  refine lv_aload_n X.1 X.2.1 dL_law_796 rfl (lv_at hl 0 rfl) ?_
  refine lv_iload X.1 X.2.1 dL_law_797 (lv_at hl 4 rfl) ?_
  refine lv_iconst (v := 1) X.1 X.2.1 dL_law_799 (by decide) ?_
  refine lv_iadd X.1 X.2.1 dL_law_800 ?_
  refine va_sld X.1 X.2.1 hX hbl hbA I.2 i1 dL_law_801 ?_
  refine mm_cVe X I hl (As := [.int (xs (nI (6 * t) + 1).toNatClampNeg)]) (ci := 9) md_X9_set mv_X9_set ml_L_93 rfl h1 (kX9_set (n := n)) (by decide) ⟨show cells ≤ 601024 by omega, show slots ≤ 7293034 by omega⟩ rfl rfl (Nat.le_of_ble_eq_true rfl) dL_law_802 (fun H locs I => ?_)
  refine lv_aload_n X.1 X.2.1 dL_law_805 rfl (lv_at hl 2 rfl) ?_
  refine lv_aload_n X.1 X.2.1 dL_law_806 rfl (lv_at hl 0 rfl) ?_
  refine lv_iload X.1 X.2.1 dL_law_807 (lv_at hl 4 rfl) ?_
  refine lv_iconst (v := 1) X.1 X.2.1 dL_law_809 (by decide) ?_
  refine lv_iadd X.1 X.2.1 dL_law_810 ?_
  refine va_sld X.1 X.2.1 hX hbl hbA I.2 i1 dL_law_811 ?_
  refine mm_cVe X I hl (As := [.int (xs (nI (6 * t) + 1).toNatClampNeg)]) (ci := 10) md_X10_set mv_X10_set ml_L_96 rfl h2 (kX10_set (n := n)) (by decide) ⟨show cells ≤ 601024 by omega, show slots ≤ 7293034 by omega⟩ rfl rfl (Nat.le_of_ble_eq_true rfl) dL_law_812 (fun H locs I => ?_)
  refine lv_icmp_eq (tgt := 1535) X.1 X.2.1 dL_law_815 (by decide) (fun _ => ?_) (fun q => absurd rfl q)
  exact kk cells slots M2 _ _ ls (by omega) (by omega) I hl hS
set_option maxHeartbeats 4000000 in
set_option maxRecDepth 100000 in
theorem lw_case_17 {p : Program} {l : Launch} {e : Env} {s : State} {m : MethodId} {below : List Frame} {meth : Method} {c : Code} {D : va_G} {dA : Nat → ClassId} {b L : Nat} {xs : Nat → Int32} (hst : l.stackTraces = false) (hL : L ≤ 3072) (X : mm_C D dA s.heap.size cL_law RL 7 p s m #[Value.ref b] c) (XN : mm_XN s.heap.size s s.heap) (hX : va_X b L xs s s.heap) (hbl : b < s.heap.size) {n ax am ao : Nat} {Sim : Nat → mm_M → Prop} (h_put : lw_s_put n ax am Sim) {t cells slots : Nat} {M : mm_M} {H : Heap} {locs : List Loc} {ls : Array Slot} (ht : 6 * t + 6 ≤ L) (hc : cells ≤ 3495 + t) (hs : slots ≤ 65634 + 6 * t) (I : mm_I D dA s.heap.size s M H locs) (hl : lv_has ls 7 [(0, .ref b), (1, .ref ax), (2, .ref am), (3, .ref ao), (4, .int (nI (6 * t)))]) (hS : Sim t M) (kk : ∀ (cells slots : Nat) (M : mm_M) (H : Heap) (locs : List Loc) (ls : Array Slot), cells ≤ 3495 + t + 1 → slots ≤ 65634 + 6 * t + 6 → mm_I D dA s.heap.size s M H locs → lv_has ls 7 [(0, .ref b), (1, .ref ax), (2, .ref am), (3, .ref ao), (4, .int (nI (6 * t)))] → Sim (t + 1) M → W p l e room_1 s m #[Value.ref b] below meth c H locs cells slots (lw_Z below #[Value.ref b] s) (F0 m 1535 ls [])) : W p l e room_1 s m #[Value.ref b] below meth c H locs cells slots (lw_Z below #[Value.ref b] s) (F0 m 820 ls []) := by
  have hbA : ¬ mm_fr s.heap.size b := Nat.not_le.mpr hbl
  have i1 : vp_in (nI (6 * t) + 1) L := by rw [show nI (6 * t) + 1 = nI (6 * t + 1) from lw_ix _ 1]; exact vp_in_nI (by omega) (by omega)
  have i2 : vp_in (nI (6 * t) + 2) L := by rw [show nI (6 * t) + 2 = nI (6 * t + 2) from lw_ix _ 2]; exact vp_in_nI (by omega) (by omega)
  have i3 : vp_in (nI (6 * t) + 3) L := by rw [show nI (6 * t) + 3 = nI (6 * t + 3) from lw_ix _ 3]; exact vp_in_nI (by omega) (by omega)
  have i4 : vp_in (nI (6 * t) + 4) L := by rw [show nI (6 * t) + 4 = nI (6 * t + 4) from lw_ix _ 4]; exact vp_in_nI (by omega) (by omega)
  have i5 : vp_in (nI (6 * t) + 5) L := by rw [show nI (6 * t) + 5 = nI (6 * t + 5) from lw_ix _ 5]; exact vp_in_nI (by omega) (by omega)
  obtain ⟨r, M1, M2, h1, h2, hS⟩ := h_put t M (by omega) hS (xs (nI (6 * t) + 1).toNatClampNeg)
  refine lv_aload_n X.1 X.2.1 dL_law_820 rfl (lv_at hl 1 rfl) ?_
  refine lv_aload_n X.1 X.2.1 dL_law_821 rfl (lv_at hl 0 rfl) ?_
  refine lv_iload X.1 X.2.1 dL_law_822 (lv_at hl 4 rfl) ?_
  refine lv_iconst (v := 1) X.1 X.2.1 dL_law_824 (by decide) ?_
  refine lv_iadd X.1 X.2.1 dL_law_825 ?_
  refine va_sld X.1 X.2.1 hX hbl hbA I.2 i1 dL_law_826 ?_
  refine mm_cVe X I hl (As := [.int (xs (nI (6 * t) + 1).toNatClampNeg)]) (ci := 9) md_X9_put mv_X9_put ml_L_97 rfl h1 (kX9_put (n := n)) (by decide) ⟨show cells ≤ 601024 by omega, show slots ≤ 7293034 by omega⟩ rfl rfl (Nat.le_of_ble_eq_true rfl) dL_law_827 (fun H locs I => ?_)
  refine lv_aload_n X.1 X.2.1 dL_law_830 rfl (lv_at hl 2 rfl) ?_
  refine lv_aload_n X.1 X.2.1 dL_law_831 rfl (lv_at hl 0 rfl) ?_
  refine lv_iload X.1 X.2.1 dL_law_832 (lv_at hl 4 rfl) ?_
  refine lv_iconst (v := 1) X.1 X.2.1 dL_law_834 (by decide) ?_
  refine lv_iadd X.1 X.2.1 dL_law_835 ?_
  refine va_sld X.1 X.2.1 hX hbl hbA I.2 i1 dL_law_836 ?_
  refine mm_cVe X I hl (As := [.int (xs (nI (6 * t) + 1).toNatClampNeg)]) (ci := 10) md_X10_put mv_X10_put ml_L_100 rfl h2 (kX10_put (n := n)) (by decide) ⟨show cells ≤ 601024 by omega, show slots ≤ 7293034 by omega⟩ rfl rfl (Nat.le_of_ble_eq_true rfl) dL_law_837 (fun H locs I => ?_)
  refine lv_icmp_eq (tgt := 1535) X.1 X.2.1 dL_law_840 (by decide) (fun _ => ?_) (fun q => absurd rfl q)
  exact kk cells slots M2 _ _ ls (by omega) (by omega) I hl hS
set_option maxHeartbeats 4000000 in
set_option maxRecDepth 100000 in
theorem lw_case_18 {p : Program} {l : Launch} {e : Env} {s : State} {m : MethodId} {below : List Frame} {meth : Method} {c : Code} {D : va_G} {dA : Nat → ClassId} {b L : Nat} {xs : Nat → Int32} (hst : l.stackTraces = false) (hL : L ≤ 3072) (X : mm_C D dA s.heap.size cL_law RL 7 p s m #[Value.ref b] c) (XN : mm_XN s.heap.size s s.heap) (hX : va_X b L xs s s.heap) (hbl : b < s.heap.size) {n ax am ao : Nat} {Sim : Nat → mm_M → Prop} (h_take : lw_s_take n ax am Sim) {t cells slots : Nat} {M : mm_M} {H : Heap} {locs : List Loc} {ls : Array Slot} (ht : 6 * t + 6 ≤ L) (hc : cells ≤ 3495 + t) (hs : slots ≤ 65634 + 6 * t) (I : mm_I D dA s.heap.size s M H locs) (hl : lv_has ls 7 [(0, .ref b), (1, .ref ax), (2, .ref am), (3, .ref ao), (4, .int (nI (6 * t)))]) (hS : Sim t M) (kk : ∀ (cells slots : Nat) (M : mm_M) (H : Heap) (locs : List Loc) (ls : Array Slot), cells ≤ 3495 + t + 1 → slots ≤ 65634 + 6 * t + 6 → mm_I D dA s.heap.size s M H locs → lv_has ls 7 [(0, .ref b), (1, .ref ax), (2, .ref am), (3, .ref ao), (4, .int (nI (6 * t)))] → Sim (t + 1) M → W p l e room_1 s m #[Value.ref b] below meth c H locs cells slots (lw_Z below #[Value.ref b] s) (F0 m 1535 ls [])) : W p l e room_1 s m #[Value.ref b] below meth c H locs cells slots (lw_Z below #[Value.ref b] s) (F0 m 845 ls []) := by
  have hbA : ¬ mm_fr s.heap.size b := Nat.not_le.mpr hbl
  have i1 : vp_in (nI (6 * t) + 1) L := by rw [show nI (6 * t) + 1 = nI (6 * t + 1) from lw_ix _ 1]; exact vp_in_nI (by omega) (by omega)
  have i2 : vp_in (nI (6 * t) + 2) L := by rw [show nI (6 * t) + 2 = nI (6 * t + 2) from lw_ix _ 2]; exact vp_in_nI (by omega) (by omega)
  have i3 : vp_in (nI (6 * t) + 3) L := by rw [show nI (6 * t) + 3 = nI (6 * t + 3) from lw_ix _ 3]; exact vp_in_nI (by omega) (by omega)
  have i4 : vp_in (nI (6 * t) + 4) L := by rw [show nI (6 * t) + 4 = nI (6 * t + 4) from lw_ix _ 4]; exact vp_in_nI (by omega) (by omega)
  have i5 : vp_in (nI (6 * t) + 5) L := by rw [show nI (6 * t) + 5 = nI (6 * t + 5) from lw_ix _ 5]; exact vp_in_nI (by omega) (by omega)
  obtain ⟨r, M1, M2, h1, h2, hS⟩ := h_take t M (by omega) hS (xs (nI (6 * t) + 1).toNatClampNeg)
  refine lv_aload_n X.1 X.2.1 dL_law_845 rfl (lv_at hl 1 rfl) ?_
  refine lv_aload_n X.1 X.2.1 dL_law_846 rfl (lv_at hl 0 rfl) ?_
  refine lv_iload X.1 X.2.1 dL_law_847 (lv_at hl 4 rfl) ?_
  refine lv_iconst (v := 1) X.1 X.2.1 dL_law_849 (by decide) ?_
  refine lv_iadd X.1 X.2.1 dL_law_850 ?_
  refine va_sld X.1 X.2.1 hX hbl hbA I.2 i1 dL_law_851 ?_
  refine mm_cVe X I hl (As := [.int (xs (nI (6 * t) + 1).toNatClampNeg)]) (ci := 9) md_X9_take mv_X9_take ml_L_101 rfl h1 (kX9_take (n := n)) (by decide) ⟨show cells ≤ 601024 by omega, show slots ≤ 7293034 by omega⟩ rfl rfl (Nat.le_of_ble_eq_true rfl) dL_law_852 (fun H locs I => ?_)
  refine lv_aload_n X.1 X.2.1 dL_law_855 rfl (lv_at hl 2 rfl) ?_
  refine lv_aload_n X.1 X.2.1 dL_law_856 rfl (lv_at hl 0 rfl) ?_
  refine lv_iload X.1 X.2.1 dL_law_857 (lv_at hl 4 rfl) ?_
  refine lv_iconst (v := 1) X.1 X.2.1 dL_law_859 (by decide) ?_
  refine lv_iadd X.1 X.2.1 dL_law_860 ?_
  refine va_sld X.1 X.2.1 hX hbl hbA I.2 i1 dL_law_861 ?_
  refine mm_cVe X I hl (As := [.int (xs (nI (6 * t) + 1).toNatClampNeg)]) (ci := 10) md_X10_take mv_X10_take ml_L_104 rfl h2 (kX10_take (n := n)) (by decide) ⟨show cells ≤ 601024 by omega, show slots ≤ 7293034 by omega⟩ rfl rfl (Nat.le_of_ble_eq_true rfl) dL_law_862 (fun H locs I => ?_)
  refine lv_icmp_eq (tgt := 1535) X.1 X.2.1 dL_law_865 (by decide) (fun _ => ?_) (fun q => absurd rfl q)
  exact kk cells slots M2 _ _ ls (by omega) (by omega) I hl hS
set_option maxHeartbeats 4000000 in
set_option maxRecDepth 100000 in
theorem lw_case_19 {p : Program} {l : Launch} {e : Env} {s : State} {m : MethodId} {below : List Frame} {meth : Method} {c : Code} {D : va_G} {dA : Nat → ClassId} {b L : Nat} {xs : Nat → Int32} (hst : l.stackTraces = false) (hL : L ≤ 3072) (X : mm_C D dA s.heap.size cL_law RL 7 p s m #[Value.ref b] c) (XN : mm_XN s.heap.size s s.heap) (hX : va_X b L xs s s.heap) (hbl : b < s.heap.size) {n ax am ao : Nat} {Sim : Nat → mm_M → Prop} (h_swap : lw_s_swap n ax am Sim) {t cells slots : Nat} {M : mm_M} {H : Heap} {locs : List Loc} {ls : Array Slot} (ht : 6 * t + 6 ≤ L) (hc : cells ≤ 3495 + t) (hs : slots ≤ 65634 + 6 * t) (I : mm_I D dA s.heap.size s M H locs) (hl : lv_has ls 7 [(0, .ref b), (1, .ref ax), (2, .ref am), (3, .ref ao), (4, .int (nI (6 * t)))]) (hS : Sim t M) (kk : ∀ (cells slots : Nat) (M : mm_M) (H : Heap) (locs : List Loc) (ls : Array Slot), cells ≤ 3495 + t + 1 → slots ≤ 65634 + 6 * t + 6 → mm_I D dA s.heap.size s M H locs → lv_has ls 7 [(0, .ref b), (1, .ref ax), (2, .ref am), (3, .ref ao), (4, .int (nI (6 * t)))] → Sim (t + 1) M → W p l e room_1 s m #[Value.ref b] below meth c H locs cells slots (lw_Z below #[Value.ref b] s) (F0 m 1535 ls [])) : W p l e room_1 s m #[Value.ref b] below meth c H locs cells slots (lw_Z below #[Value.ref b] s) (F0 m 870 ls []) := by
  have hbA : ¬ mm_fr s.heap.size b := Nat.not_le.mpr hbl
  have i1 : vp_in (nI (6 * t) + 1) L := by rw [show nI (6 * t) + 1 = nI (6 * t + 1) from lw_ix _ 1]; exact vp_in_nI (by omega) (by omega)
  have i2 : vp_in (nI (6 * t) + 2) L := by rw [show nI (6 * t) + 2 = nI (6 * t + 2) from lw_ix _ 2]; exact vp_in_nI (by omega) (by omega)
  have i3 : vp_in (nI (6 * t) + 3) L := by rw [show nI (6 * t) + 3 = nI (6 * t + 3) from lw_ix _ 3]; exact vp_in_nI (by omega) (by omega)
  have i4 : vp_in (nI (6 * t) + 4) L := by rw [show nI (6 * t) + 4 = nI (6 * t + 4) from lw_ix _ 4]; exact vp_in_nI (by omega) (by omega)
  have i5 : vp_in (nI (6 * t) + 5) L := by rw [show nI (6 * t) + 5 = nI (6 * t + 5) from lw_ix _ 5]; exact vp_in_nI (by omega) (by omega)
  obtain ⟨r, M1, M2, h1, h2, hS⟩ := h_swap t M (by omega) hS (xs (nI (6 * t) + 1).toNatClampNeg) (xs (nI (6 * t) + 2).toNatClampNeg)
  refine lv_aload_n X.1 X.2.1 dL_law_870 rfl (lv_at hl 1 rfl) ?_
  refine lv_aload_n X.1 X.2.1 dL_law_871 rfl (lv_at hl 0 rfl) ?_
  refine lv_iload X.1 X.2.1 dL_law_872 (lv_at hl 4 rfl) ?_
  refine lv_iconst (v := 1) X.1 X.2.1 dL_law_874 (by decide) ?_
  refine lv_iadd X.1 X.2.1 dL_law_875 ?_
  refine va_sld X.1 X.2.1 hX hbl hbA I.2 i1 dL_law_876 ?_
  refine lv_aload_n X.1 X.2.1 dL_law_877 rfl (lv_at hl 0 rfl) ?_
  refine lv_iload X.1 X.2.1 dL_law_878 (lv_at hl 4 rfl) ?_
  refine lv_iconst (v := 2) X.1 X.2.1 dL_law_880 (by decide) ?_
  refine lv_iadd X.1 X.2.1 dL_law_881 ?_
  refine va_sld X.1 X.2.1 hX hbl hbA I.2 i2 dL_law_882 ?_
  refine mm_cVe X I hl (As := [.int (xs (nI (6 * t) + 1).toNatClampNeg), .int (xs (nI (6 * t) + 2).toNatClampNeg)]) (ci := 9) md_X9_swap mv_X9_swap ml_L_105 rfl h1 (kX9_swap (n := n)) (by decide) ⟨show cells ≤ 601024 by omega, show slots ≤ 7293034 by omega⟩ rfl rfl (Nat.le_of_ble_eq_true rfl) dL_law_883 (fun H locs I => ?_)
  refine lv_aload_n X.1 X.2.1 dL_law_886 rfl (lv_at hl 2 rfl) ?_
  refine lv_aload_n X.1 X.2.1 dL_law_887 rfl (lv_at hl 0 rfl) ?_
  refine lv_iload X.1 X.2.1 dL_law_888 (lv_at hl 4 rfl) ?_
  refine lv_iconst (v := 1) X.1 X.2.1 dL_law_890 (by decide) ?_
  refine lv_iadd X.1 X.2.1 dL_law_891 ?_
  refine va_sld X.1 X.2.1 hX hbl hbA I.2 i1 dL_law_892 ?_
  refine lv_aload_n X.1 X.2.1 dL_law_893 rfl (lv_at hl 0 rfl) ?_
  refine lv_iload X.1 X.2.1 dL_law_894 (lv_at hl 4 rfl) ?_
  refine lv_iconst (v := 2) X.1 X.2.1 dL_law_896 (by decide) ?_
  refine lv_iadd X.1 X.2.1 dL_law_897 ?_
  refine va_sld X.1 X.2.1 hX hbl hbA I.2 i2 dL_law_898 ?_
  refine mm_cVe X I hl (As := [.int (xs (nI (6 * t) + 1).toNatClampNeg), .int (xs (nI (6 * t) + 2).toNatClampNeg)]) (ci := 10) md_X10_swap mv_X10_swap ml_L_108 rfl h2 (kX10_swap (n := n)) (by decide) ⟨show cells ≤ 601024 by omega, show slots ≤ 7293034 by omega⟩ rfl rfl (Nat.le_of_ble_eq_true rfl) dL_law_899 (fun H locs I => ?_)
  refine lv_icmp_eq (tgt := 1535) X.1 X.2.1 dL_law_902 (by decide) (fun _ => ?_) (fun q => absurd rfl q)
  exact kk cells slots M2 _ _ ls (by omega) (by omega) I hl hS
set_option maxHeartbeats 4000000 in
set_option maxRecDepth 100000 in
theorem lw_case_20 {p : Program} {l : Launch} {e : Env} {s : State} {m : MethodId} {below : List Frame} {meth : Method} {c : Code} {D : va_G} {dA : Nat → ClassId} {b L : Nat} {xs : Nat → Int32} (hst : l.stackTraces = false) (hL : L ≤ 3072) (X : mm_C D dA s.heap.size cL_law RL 7 p s m #[Value.ref b] c) (XN : mm_XN s.heap.size s s.heap) (hX : va_X b L xs s s.heap) (hbl : b < s.heap.size) {n ax am ao : Nat} {Sim : Nat → mm_M → Prop} (h_lay : lw_s_lay n ax am Sim) {t cells slots : Nat} {M : mm_M} {H : Heap} {locs : List Loc} {ls : Array Slot} (ht : 6 * t + 6 ≤ L) (hc : cells ≤ 3495 + t) (hs : slots ≤ 65634 + 6 * t) (I : mm_I D dA s.heap.size s M H locs) (hl : lv_has ls 7 [(0, .ref b), (1, .ref ax), (2, .ref am), (3, .ref ao), (4, .int (nI (6 * t)))]) (hS : Sim t M) (kk : ∀ (cells slots : Nat) (M : mm_M) (H : Heap) (locs : List Loc) (ls : Array Slot), cells ≤ 3495 + t + 1 → slots ≤ 65634 + 6 * t + 6 → mm_I D dA s.heap.size s M H locs → lv_has ls 7 [(0, .ref b), (1, .ref ax), (2, .ref am), (3, .ref ao), (4, .int (nI (6 * t)))] → Sim (t + 1) M → W p l e room_1 s m #[Value.ref b] below meth c H locs cells slots (lw_Z below #[Value.ref b] s) (F0 m 1535 ls [])) : W p l e room_1 s m #[Value.ref b] below meth c H locs cells slots (lw_Z below #[Value.ref b] s) (F0 m 907 ls []) := by
  have hbA : ¬ mm_fr s.heap.size b := Nat.not_le.mpr hbl
  have i1 : vp_in (nI (6 * t) + 1) L := by rw [show nI (6 * t) + 1 = nI (6 * t + 1) from lw_ix _ 1]; exact vp_in_nI (by omega) (by omega)
  have i2 : vp_in (nI (6 * t) + 2) L := by rw [show nI (6 * t) + 2 = nI (6 * t + 2) from lw_ix _ 2]; exact vp_in_nI (by omega) (by omega)
  have i3 : vp_in (nI (6 * t) + 3) L := by rw [show nI (6 * t) + 3 = nI (6 * t + 3) from lw_ix _ 3]; exact vp_in_nI (by omega) (by omega)
  have i4 : vp_in (nI (6 * t) + 4) L := by rw [show nI (6 * t) + 4 = nI (6 * t + 4) from lw_ix _ 4]; exact vp_in_nI (by omega) (by omega)
  have i5 : vp_in (nI (6 * t) + 5) L := by rw [show nI (6 * t) + 5 = nI (6 * t + 5) from lw_ix _ 5]; exact vp_in_nI (by omega) (by omega)
  obtain ⟨r, M1, M2, h1, h2, hS⟩ := h_lay t M (by omega) hS (xs (nI (6 * t) + 1).toNatClampNeg) (xs (nI (6 * t) + 2).toNatClampNeg)
  refine lv_aload_n X.1 X.2.1 dL_law_907 rfl (lv_at hl 1 rfl) ?_
  refine lv_aload_n X.1 X.2.1 dL_law_908 rfl (lv_at hl 0 rfl) ?_
  refine lv_iload X.1 X.2.1 dL_law_909 (lv_at hl 4 rfl) ?_
  refine lv_iconst (v := 1) X.1 X.2.1 dL_law_911 (by decide) ?_
  refine lv_iadd X.1 X.2.1 dL_law_912 ?_
  refine va_sld X.1 X.2.1 hX hbl hbA I.2 i1 dL_law_913 ?_
  refine lv_aload_n X.1 X.2.1 dL_law_914 rfl (lv_at hl 0 rfl) ?_
  refine lv_iload X.1 X.2.1 dL_law_915 (lv_at hl 4 rfl) ?_
  refine lv_iconst (v := 2) X.1 X.2.1 dL_law_917 (by decide) ?_
  refine lv_iadd X.1 X.2.1 dL_law_918 ?_
  refine va_sld X.1 X.2.1 hX hbl hbA I.2 i2 dL_law_919 ?_
  refine mm_cVe X I hl (As := [.int (xs (nI (6 * t) + 1).toNatClampNeg), .int (xs (nI (6 * t) + 2).toNatClampNeg)]) (ci := 9) md_X9_lay mv_X9_lay ml_L_109 rfl h1 (kX9_lay (n := n)) (by decide) ⟨show cells ≤ 601024 by omega, show slots ≤ 7293034 by omega⟩ rfl rfl (Nat.le_of_ble_eq_true rfl) dL_law_920 (fun H locs I => ?_)
  refine lv_aload_n X.1 X.2.1 dL_law_923 rfl (lv_at hl 2 rfl) ?_
  refine lv_aload_n X.1 X.2.1 dL_law_924 rfl (lv_at hl 0 rfl) ?_
  refine lv_iload X.1 X.2.1 dL_law_925 (lv_at hl 4 rfl) ?_
  refine lv_iconst (v := 1) X.1 X.2.1 dL_law_927 (by decide) ?_
  refine lv_iadd X.1 X.2.1 dL_law_928 ?_
  refine va_sld X.1 X.2.1 hX hbl hbA I.2 i1 dL_law_929 ?_
  refine lv_aload_n X.1 X.2.1 dL_law_930 rfl (lv_at hl 0 rfl) ?_
  refine lv_iload X.1 X.2.1 dL_law_931 (lv_at hl 4 rfl) ?_
  refine lv_iconst (v := 2) X.1 X.2.1 dL_law_933 (by decide) ?_
  refine lv_iadd X.1 X.2.1 dL_law_934 ?_
  refine va_sld X.1 X.2.1 hX hbl hbA I.2 i2 dL_law_935 ?_
  refine mm_cVe X I hl (As := [.int (xs (nI (6 * t) + 1).toNatClampNeg), .int (xs (nI (6 * t) + 2).toNatClampNeg)]) (ci := 10) md_X10_lay mv_X10_lay ml_L_112 rfl h2 (kX10_lay (n := n)) (by decide) ⟨show cells ≤ 601024 by omega, show slots ≤ 7293034 by omega⟩ rfl rfl (Nat.le_of_ble_eq_true rfl) dL_law_936 (fun H locs I => ?_)
  refine lv_icmp_eq (tgt := 1535) X.1 X.2.1 dL_law_939 (by decide) (fun _ => ?_) (fun q => absurd rfl q)
  exact kk cells slots M2 _ _ ls (by omega) (by omega) I hl hS
set_option maxHeartbeats 4000000 in
set_option maxRecDepth 100000 in
theorem lw_case_21 {p : Program} {l : Launch} {e : Env} {s : State} {m : MethodId} {below : List Frame} {meth : Method} {c : Code} {D : va_G} {dA : Nat → ClassId} {b L : Nat} {xs : Nat → Int32} (hst : l.stackTraces = false) (hL : L ≤ 3072) (X : mm_C D dA s.heap.size cL_law RL 7 p s m #[Value.ref b] c) (XN : mm_XN s.heap.size s s.heap) (hX : va_X b L xs s s.heap) (hbl : b < s.heap.size) {n ax am ao : Nat} {Sim : Nat → mm_M → Prop} (h_page : lw_s_page n ax am Sim) {t cells slots : Nat} {M : mm_M} {H : Heap} {locs : List Loc} {ls : Array Slot} (ht : 6 * t + 6 ≤ L) (hc : cells ≤ 3495 + t) (hs : slots ≤ 65634 + 6 * t) (I : mm_I D dA s.heap.size s M H locs) (hl : lv_has ls 7 [(0, .ref b), (1, .ref ax), (2, .ref am), (3, .ref ao), (4, .int (nI (6 * t)))]) (hS : Sim t M) (kk : ∀ (cells slots : Nat) (M : mm_M) (H : Heap) (locs : List Loc) (ls : Array Slot), cells ≤ 3495 + t + 1 → slots ≤ 65634 + 6 * t + 6 → mm_I D dA s.heap.size s M H locs → lv_has ls 7 [(0, .ref b), (1, .ref ax), (2, .ref am), (3, .ref ao), (4, .int (nI (6 * t)))] → Sim (t + 1) M → W p l e room_1 s m #[Value.ref b] below meth c H locs cells slots (lw_Z below #[Value.ref b] s) (F0 m 1535 ls [])) : W p l e room_1 s m #[Value.ref b] below meth c H locs cells slots (lw_Z below #[Value.ref b] s) (F0 m 944 ls []) := by
  have hbA : ¬ mm_fr s.heap.size b := Nat.not_le.mpr hbl
  have i1 : vp_in (nI (6 * t) + 1) L := by rw [show nI (6 * t) + 1 = nI (6 * t + 1) from lw_ix _ 1]; exact vp_in_nI (by omega) (by omega)
  have i2 : vp_in (nI (6 * t) + 2) L := by rw [show nI (6 * t) + 2 = nI (6 * t + 2) from lw_ix _ 2]; exact vp_in_nI (by omega) (by omega)
  have i3 : vp_in (nI (6 * t) + 3) L := by rw [show nI (6 * t) + 3 = nI (6 * t + 3) from lw_ix _ 3]; exact vp_in_nI (by omega) (by omega)
  have i4 : vp_in (nI (6 * t) + 4) L := by rw [show nI (6 * t) + 4 = nI (6 * t + 4) from lw_ix _ 4]; exact vp_in_nI (by omega) (by omega)
  have i5 : vp_in (nI (6 * t) + 5) L := by rw [show nI (6 * t) + 5 = nI (6 * t + 5) from lw_ix _ 5]; exact vp_in_nI (by omega) (by omega)
  obtain ⟨r, M1, M2, h1, h2, hS⟩ := h_page t M (by omega) hS (xs (nI (6 * t) + 1).toNatClampNeg)
  refine lv_aload_n X.1 X.2.1 dL_law_944 rfl (lv_at hl 1 rfl) ?_
  refine lv_aload_n X.1 X.2.1 dL_law_945 rfl (lv_at hl 0 rfl) ?_
  refine lv_iload X.1 X.2.1 dL_law_946 (lv_at hl 4 rfl) ?_
  refine lv_iconst (v := 1) X.1 X.2.1 dL_law_948 (by decide) ?_
  refine lv_iadd X.1 X.2.1 dL_law_949 ?_
  refine va_sld X.1 X.2.1 hX hbl hbA I.2 i1 dL_law_950 ?_
  refine mm_cVe X I hl (As := [.int (xs (nI (6 * t) + 1).toNatClampNeg)]) (ci := 9) md_X9_page mv_X9_page ml_L_113 rfl h1 (kX9_page (n := n)) (by decide) ⟨show cells ≤ 601024 by omega, show slots ≤ 7293034 by omega⟩ rfl rfl (Nat.le_of_ble_eq_true rfl) dL_law_951 (fun H locs I => ?_)
  refine lv_aload_n X.1 X.2.1 dL_law_954 rfl (lv_at hl 2 rfl) ?_
  refine lv_aload_n X.1 X.2.1 dL_law_955 rfl (lv_at hl 0 rfl) ?_
  refine lv_iload X.1 X.2.1 dL_law_956 (lv_at hl 4 rfl) ?_
  refine lv_iconst (v := 1) X.1 X.2.1 dL_law_958 (by decide) ?_
  refine lv_iadd X.1 X.2.1 dL_law_959 ?_
  refine va_sld X.1 X.2.1 hX hbl hbA I.2 i1 dL_law_960 ?_
  refine mm_cVe X I hl (As := [.int (xs (nI (6 * t) + 1).toNatClampNeg)]) (ci := 10) md_X10_page mv_X10_page ml_L_116 rfl h2 (kX10_page (n := n)) (by decide) ⟨show cells ≤ 601024 by omega, show slots ≤ 7293034 by omega⟩ rfl rfl (Nat.le_of_ble_eq_true rfl) dL_law_961 (fun H locs I => ?_)
  refine lv_icmp_eq (tgt := 1535) X.1 X.2.1 dL_law_964 (by decide) (fun _ => ?_) (fun q => absurd rfl q)
  exact kk cells slots M2 _ _ ls (by omega) (by omega) I hl hS
set_option maxHeartbeats 4000000 in
set_option maxRecDepth 100000 in
theorem lw_case_22 {p : Program} {l : Launch} {e : Env} {s : State} {m : MethodId} {below : List Frame} {meth : Method} {c : Code} {D : va_G} {dA : Nat → ClassId} {b L : Nat} {xs : Nat → Int32} (hst : l.stackTraces = false) (hL : L ≤ 3072) (X : mm_C D dA s.heap.size cL_law RL 7 p s m #[Value.ref b] c) (XN : mm_XN s.heap.size s s.heap) (hX : va_X b L xs s s.heap) (hbl : b < s.heap.size) {n ax am ao : Nat} {Sim : Nat → mm_M → Prop} (h_rewind : lw_s_rewind n ax am Sim) {t cells slots : Nat} {M : mm_M} {H : Heap} {locs : List Loc} {ls : Array Slot} (ht : 6 * t + 6 ≤ L) (hc : cells ≤ 3495 + t) (hs : slots ≤ 65634 + 6 * t) (I : mm_I D dA s.heap.size s M H locs) (hl : lv_has ls 7 [(0, .ref b), (1, .ref ax), (2, .ref am), (3, .ref ao), (4, .int (nI (6 * t)))]) (hS : Sim t M) (kk : ∀ (cells slots : Nat) (M : mm_M) (H : Heap) (locs : List Loc) (ls : Array Slot), cells ≤ 3495 + t + 1 → slots ≤ 65634 + 6 * t + 6 → mm_I D dA s.heap.size s M H locs → lv_has ls 7 [(0, .ref b), (1, .ref ax), (2, .ref am), (3, .ref ao), (4, .int (nI (6 * t)))] → Sim (t + 1) M → W p l e room_1 s m #[Value.ref b] below meth c H locs cells slots (lw_Z below #[Value.ref b] s) (F0 m 1535 ls [])) : W p l e room_1 s m #[Value.ref b] below meth c H locs cells slots (lw_Z below #[Value.ref b] s) (F0 m 969 ls []) := by
  have hbA : ¬ mm_fr s.heap.size b := Nat.not_le.mpr hbl
  have i1 : vp_in (nI (6 * t) + 1) L := by rw [show nI (6 * t) + 1 = nI (6 * t + 1) from lw_ix _ 1]; exact vp_in_nI (by omega) (by omega)
  have i2 : vp_in (nI (6 * t) + 2) L := by rw [show nI (6 * t) + 2 = nI (6 * t + 2) from lw_ix _ 2]; exact vp_in_nI (by omega) (by omega)
  have i3 : vp_in (nI (6 * t) + 3) L := by rw [show nI (6 * t) + 3 = nI (6 * t + 3) from lw_ix _ 3]; exact vp_in_nI (by omega) (by omega)
  have i4 : vp_in (nI (6 * t) + 4) L := by rw [show nI (6 * t) + 4 = nI (6 * t + 4) from lw_ix _ 4]; exact vp_in_nI (by omega) (by omega)
  have i5 : vp_in (nI (6 * t) + 5) L := by rw [show nI (6 * t) + 5 = nI (6 * t + 5) from lw_ix _ 5]; exact vp_in_nI (by omega) (by omega)
  obtain ⟨r, M1, M2, h1, h2, hS⟩ := h_rewind t M (by omega) hS (xs (nI (6 * t) + 1).toNatClampNeg)
  refine lv_aload_n X.1 X.2.1 dL_law_969 rfl (lv_at hl 1 rfl) ?_
  refine lv_aload_n X.1 X.2.1 dL_law_970 rfl (lv_at hl 0 rfl) ?_
  refine lv_iload X.1 X.2.1 dL_law_971 (lv_at hl 4 rfl) ?_
  refine lv_iconst (v := 1) X.1 X.2.1 dL_law_973 (by decide) ?_
  refine lv_iadd X.1 X.2.1 dL_law_974 ?_
  refine va_sld X.1 X.2.1 hX hbl hbA I.2 i1 dL_law_975 ?_
  refine mm_cVe X I hl (As := [.int (xs (nI (6 * t) + 1).toNatClampNeg)]) (ci := 9) md_X9_rewind mv_X9_rewind ml_L_117 rfl h1 (kX9_rewind (n := n)) (by decide) ⟨show cells ≤ 601024 by omega, show slots ≤ 7293034 by omega⟩ rfl rfl (Nat.le_of_ble_eq_true rfl) dL_law_976 (fun H locs I => ?_)
  refine lv_aload_n X.1 X.2.1 dL_law_979 rfl (lv_at hl 2 rfl) ?_
  refine lv_aload_n X.1 X.2.1 dL_law_980 rfl (lv_at hl 0 rfl) ?_
  refine lv_iload X.1 X.2.1 dL_law_981 (lv_at hl 4 rfl) ?_
  refine lv_iconst (v := 1) X.1 X.2.1 dL_law_983 (by decide) ?_
  refine lv_iadd X.1 X.2.1 dL_law_984 ?_
  refine va_sld X.1 X.2.1 hX hbl hbA I.2 i1 dL_law_985 ?_
  refine mm_cVe X I hl (As := [.int (xs (nI (6 * t) + 1).toNatClampNeg)]) (ci := 10) md_X10_rewind mv_X10_rewind ml_L_120 rfl h2 (kX10_rewind (n := n)) (by decide) ⟨show cells ≤ 601024 by omega, show slots ≤ 7293034 by omega⟩ rfl rfl (Nat.le_of_ble_eq_true rfl) dL_law_986 (fun H locs I => ?_)
  refine lv_icmp_eq (tgt := 1535) X.1 X.2.1 dL_law_989 (by decide) (fun _ => ?_) (fun q => absurd rfl q)
  exact kk cells slots M2 _ _ ls (by omega) (by omega) I hl hS
set_option maxHeartbeats 4000000 in
set_option maxRecDepth 100000 in
theorem lw_case_23 {p : Program} {l : Launch} {e : Env} {s : State} {m : MethodId} {below : List Frame} {meth : Method} {c : Code} {D : va_G} {dA : Nat → ClassId} {b L : Nat} {xs : Nat → Int32} (hst : l.stackTraces = false) (hL : L ≤ 3072) (X : mm_C D dA s.heap.size cL_law RL 7 p s m #[Value.ref b] c) (XN : mm_XN s.heap.size s s.heap) (hX : va_X b L xs s s.heap) (hbl : b < s.heap.size) {n ax am ao : Nat} {Sim : Nat → mm_M → Prop} (h_cursor : lw_s_cursor n ax am Sim) {t cells slots : Nat} {M : mm_M} {H : Heap} {locs : List Loc} {ls : Array Slot} (ht : 6 * t + 6 ≤ L) (hc : cells ≤ 3495 + t) (hs : slots ≤ 65634 + 6 * t) (I : mm_I D dA s.heap.size s M H locs) (hl : lv_has ls 7 [(0, .ref b), (1, .ref ax), (2, .ref am), (3, .ref ao), (4, .int (nI (6 * t)))]) (hS : Sim t M) (kk : ∀ (cells slots : Nat) (M : mm_M) (H : Heap) (locs : List Loc) (ls : Array Slot), cells ≤ 3495 + t + 1 → slots ≤ 65634 + 6 * t + 6 → mm_I D dA s.heap.size s M H locs → lv_has ls 7 [(0, .ref b), (1, .ref ax), (2, .ref am), (3, .ref ao), (4, .int (nI (6 * t)))] → Sim (t + 1) M → W p l e room_1 s m #[Value.ref b] below meth c H locs cells slots (lw_Z below #[Value.ref b] s) (F0 m 1535 ls [])) : W p l e room_1 s m #[Value.ref b] below meth c H locs cells slots (lw_Z below #[Value.ref b] s) (F0 m 994 ls []) := by
  have hbA : ¬ mm_fr s.heap.size b := Nat.not_le.mpr hbl
  have i1 : vp_in (nI (6 * t) + 1) L := by rw [show nI (6 * t) + 1 = nI (6 * t + 1) from lw_ix _ 1]; exact vp_in_nI (by omega) (by omega)
  have i2 : vp_in (nI (6 * t) + 2) L := by rw [show nI (6 * t) + 2 = nI (6 * t + 2) from lw_ix _ 2]; exact vp_in_nI (by omega) (by omega)
  have i3 : vp_in (nI (6 * t) + 3) L := by rw [show nI (6 * t) + 3 = nI (6 * t + 3) from lw_ix _ 3]; exact vp_in_nI (by omega) (by omega)
  have i4 : vp_in (nI (6 * t) + 4) L := by rw [show nI (6 * t) + 4 = nI (6 * t + 4) from lw_ix _ 4]; exact vp_in_nI (by omega) (by omega)
  have i5 : vp_in (nI (6 * t) + 5) L := by rw [show nI (6 * t) + 5 = nI (6 * t + 5) from lw_ix _ 5]; exact vp_in_nI (by omega) (by omega)
  obtain ⟨r, M1, M2, h1, h2, hS⟩ := h_cursor t M (by omega) hS (xs (nI (6 * t) + 1).toNatClampNeg) (xs (nI (6 * t) + 2).toNatClampNeg)
  refine lv_aload_n X.1 X.2.1 dL_law_994 rfl (lv_at hl 1 rfl) ?_
  refine lv_aload_n X.1 X.2.1 dL_law_995 rfl (lv_at hl 0 rfl) ?_
  refine lv_iload X.1 X.2.1 dL_law_996 (lv_at hl 4 rfl) ?_
  refine lv_iconst (v := 1) X.1 X.2.1 dL_law_998 (by decide) ?_
  refine lv_iadd X.1 X.2.1 dL_law_999 ?_
  refine va_sld X.1 X.2.1 hX hbl hbA I.2 i1 dL_law_1000 ?_
  refine lv_aload_n X.1 X.2.1 dL_law_1001 rfl (lv_at hl 0 rfl) ?_
  refine lv_iload X.1 X.2.1 dL_law_1002 (lv_at hl 4 rfl) ?_
  refine lv_iconst (v := 2) X.1 X.2.1 dL_law_1004 (by decide) ?_
  refine lv_iadd X.1 X.2.1 dL_law_1005 ?_
  refine va_sld X.1 X.2.1 hX hbl hbA I.2 i2 dL_law_1006 ?_
  refine mm_cVe X I hl (As := [.int (xs (nI (6 * t) + 1).toNatClampNeg), .int (xs (nI (6 * t) + 2).toNatClampNeg)]) (ci := 9) md_X9_cursor mv_X9_cursor ml_L_121 rfl h1 (kX9_cursor (n := n)) (by decide) ⟨show cells ≤ 601024 by omega, show slots ≤ 7293034 by omega⟩ rfl rfl (Nat.le_of_ble_eq_true rfl) dL_law_1007 (fun H locs I => ?_)
  refine lv_aload_n X.1 X.2.1 dL_law_1010 rfl (lv_at hl 2 rfl) ?_
  refine lv_aload_n X.1 X.2.1 dL_law_1011 rfl (lv_at hl 0 rfl) ?_
  refine lv_iload X.1 X.2.1 dL_law_1012 (lv_at hl 4 rfl) ?_
  refine lv_iconst (v := 1) X.1 X.2.1 dL_law_1014 (by decide) ?_
  refine lv_iadd X.1 X.2.1 dL_law_1015 ?_
  refine va_sld X.1 X.2.1 hX hbl hbA I.2 i1 dL_law_1016 ?_
  refine lv_aload_n X.1 X.2.1 dL_law_1017 rfl (lv_at hl 0 rfl) ?_
  refine lv_iload X.1 X.2.1 dL_law_1018 (lv_at hl 4 rfl) ?_
  refine lv_iconst (v := 2) X.1 X.2.1 dL_law_1020 (by decide) ?_
  refine lv_iadd X.1 X.2.1 dL_law_1021 ?_
  refine va_sld X.1 X.2.1 hX hbl hbA I.2 i2 dL_law_1022 ?_
  refine mm_cVe X I hl (As := [.int (xs (nI (6 * t) + 1).toNatClampNeg), .int (xs (nI (6 * t) + 2).toNatClampNeg)]) (ci := 10) md_X10_cursor mv_X10_cursor ml_L_124 rfl h2 (kX10_cursor (n := n)) (by decide) ⟨show cells ≤ 601024 by omega, show slots ≤ 7293034 by omega⟩ rfl rfl (Nat.le_of_ble_eq_true rfl) dL_law_1023 (fun H locs I => ?_)
  refine lv_icmp_eq (tgt := 1535) X.1 X.2.1 dL_law_1026 (by decide) (fun _ => ?_) (fun q => absurd rfl q)
  exact kk cells slots M2 _ _ ls (by omega) (by omega) I hl hS
set_option maxHeartbeats 4000000 in
set_option maxRecDepth 100000 in
theorem lw_case_24 {p : Program} {l : Launch} {e : Env} {s : State} {m : MethodId} {below : List Frame} {meth : Method} {c : Code} {D : va_G} {dA : Nat → ClassId} {b L : Nat} {xs : Nat → Int32} (hst : l.stackTraces = false) (hL : L ≤ 3072) (X : mm_C D dA s.heap.size cL_law RL 7 p s m #[Value.ref b] c) (XN : mm_XN s.heap.size s s.heap) (hX : va_X b L xs s s.heap) (hbl : b < s.heap.size) {n ax am ao : Nat} {Sim : Nat → mm_M → Prop} (h_told : lw_s_told n ax am Sim) {t cells slots : Nat} {M : mm_M} {H : Heap} {locs : List Loc} {ls : Array Slot} (ht : 6 * t + 6 ≤ L) (hc : cells ≤ 3495 + t) (hs : slots ≤ 65634 + 6 * t) (I : mm_I D dA s.heap.size s M H locs) (hl : lv_has ls 7 [(0, .ref b), (1, .ref ax), (2, .ref am), (3, .ref ao), (4, .int (nI (6 * t)))]) (hS : Sim t M) (kk : ∀ (cells slots : Nat) (M : mm_M) (H : Heap) (locs : List Loc) (ls : Array Slot), cells ≤ 3495 + t + 1 → slots ≤ 65634 + 6 * t + 6 → mm_I D dA s.heap.size s M H locs → lv_has ls 7 [(0, .ref b), (1, .ref ax), (2, .ref am), (3, .ref ao), (4, .int (nI (6 * t)))] → Sim (t + 1) M → W p l e room_1 s m #[Value.ref b] below meth c H locs cells slots (lw_Z below #[Value.ref b] s) (F0 m 1535 ls [])) : W p l e room_1 s m #[Value.ref b] below meth c H locs cells slots (lw_Z below #[Value.ref b] s) (F0 m 1031 ls []) := by
  have hbA : ¬ mm_fr s.heap.size b := Nat.not_le.mpr hbl
  have i1 : vp_in (nI (6 * t) + 1) L := by rw [show nI (6 * t) + 1 = nI (6 * t + 1) from lw_ix _ 1]; exact vp_in_nI (by omega) (by omega)
  have i2 : vp_in (nI (6 * t) + 2) L := by rw [show nI (6 * t) + 2 = nI (6 * t + 2) from lw_ix _ 2]; exact vp_in_nI (by omega) (by omega)
  have i3 : vp_in (nI (6 * t) + 3) L := by rw [show nI (6 * t) + 3 = nI (6 * t + 3) from lw_ix _ 3]; exact vp_in_nI (by omega) (by omega)
  have i4 : vp_in (nI (6 * t) + 4) L := by rw [show nI (6 * t) + 4 = nI (6 * t + 4) from lw_ix _ 4]; exact vp_in_nI (by omega) (by omega)
  have i5 : vp_in (nI (6 * t) + 5) L := by rw [show nI (6 * t) + 5 = nI (6 * t + 5) from lw_ix _ 5]; exact vp_in_nI (by omega) (by omega)
  obtain ⟨r, M1, M2, h1, h2, hS⟩ := h_told t M (by omega) hS (xs (nI (6 * t) + 1).toNatClampNeg) (xs (nI (6 * t) + 2).toNatClampNeg) (xs (nI (6 * t) + 3).toNatClampNeg)
  refine lv_aload_n X.1 X.2.1 dL_law_1031 rfl (lv_at hl 1 rfl) ?_
  refine lv_aload_n X.1 X.2.1 dL_law_1032 rfl (lv_at hl 0 rfl) ?_
  refine lv_iload X.1 X.2.1 dL_law_1033 (lv_at hl 4 rfl) ?_
  refine lv_iconst (v := 1) X.1 X.2.1 dL_law_1035 (by decide) ?_
  refine lv_iadd X.1 X.2.1 dL_law_1036 ?_
  refine va_sld X.1 X.2.1 hX hbl hbA I.2 i1 dL_law_1037 ?_
  refine lv_aload_n X.1 X.2.1 dL_law_1038 rfl (lv_at hl 0 rfl) ?_
  refine lv_iload X.1 X.2.1 dL_law_1039 (lv_at hl 4 rfl) ?_
  refine lv_iconst (v := 2) X.1 X.2.1 dL_law_1041 (by decide) ?_
  refine lv_iadd X.1 X.2.1 dL_law_1042 ?_
  refine va_sld X.1 X.2.1 hX hbl hbA I.2 i2 dL_law_1043 ?_
  refine lv_aload_n X.1 X.2.1 dL_law_1044 rfl (lv_at hl 0 rfl) ?_
  refine lv_iload X.1 X.2.1 dL_law_1045 (lv_at hl 4 rfl) ?_
  refine lv_iconst (v := 3) X.1 X.2.1 dL_law_1047 (by decide) ?_
  refine lv_iadd X.1 X.2.1 dL_law_1048 ?_
  refine va_sld X.1 X.2.1 hX hbl hbA I.2 i3 dL_law_1049 ?_
  refine mm_cVe X I hl (As := [.int (xs (nI (6 * t) + 1).toNatClampNeg), .int (xs (nI (6 * t) + 2).toNatClampNeg), .int (xs (nI (6 * t) + 3).toNatClampNeg)]) (ci := 9) md_X9_told mv_X9_told ml_L_125 rfl h1 (kX9_told (n := n)) (by decide) ⟨show cells ≤ 601024 by omega, show slots ≤ 7293034 by omega⟩ rfl rfl (Nat.le_of_ble_eq_true rfl) dL_law_1050 (fun H locs I => ?_)
  refine lv_aload_n X.1 X.2.1 dL_law_1053 rfl (lv_at hl 2 rfl) ?_
  refine lv_aload_n X.1 X.2.1 dL_law_1054 rfl (lv_at hl 0 rfl) ?_
  refine lv_iload X.1 X.2.1 dL_law_1055 (lv_at hl 4 rfl) ?_
  refine lv_iconst (v := 1) X.1 X.2.1 dL_law_1057 (by decide) ?_
  refine lv_iadd X.1 X.2.1 dL_law_1058 ?_
  refine va_sld X.1 X.2.1 hX hbl hbA I.2 i1 dL_law_1059 ?_
  refine lv_aload_n X.1 X.2.1 dL_law_1060 rfl (lv_at hl 0 rfl) ?_
  refine lv_iload X.1 X.2.1 dL_law_1061 (lv_at hl 4 rfl) ?_
  refine lv_iconst (v := 2) X.1 X.2.1 dL_law_1063 (by decide) ?_
  refine lv_iadd X.1 X.2.1 dL_law_1064 ?_
  refine va_sld X.1 X.2.1 hX hbl hbA I.2 i2 dL_law_1065 ?_
  refine lv_aload_n X.1 X.2.1 dL_law_1066 rfl (lv_at hl 0 rfl) ?_
  refine lv_iload X.1 X.2.1 dL_law_1067 (lv_at hl 4 rfl) ?_
  refine lv_iconst (v := 3) X.1 X.2.1 dL_law_1069 (by decide) ?_
  refine lv_iadd X.1 X.2.1 dL_law_1070 ?_
  refine va_sld X.1 X.2.1 hX hbl hbA I.2 i3 dL_law_1071 ?_
  refine mm_cVe X I hl (As := [.int (xs (nI (6 * t) + 1).toNatClampNeg), .int (xs (nI (6 * t) + 2).toNatClampNeg), .int (xs (nI (6 * t) + 3).toNatClampNeg)]) (ci := 10) md_X10_told mv_X10_told ml_L_129 rfl h2 (kX10_told (n := n)) (by decide) ⟨show cells ≤ 601024 by omega, show slots ≤ 7293034 by omega⟩ rfl rfl (Nat.le_of_ble_eq_true rfl) dL_law_1072 (fun H locs I => ?_)
  refine lv_icmp_eq (tgt := 1535) X.1 X.2.1 dL_law_1075 (by decide) (fun _ => ?_) (fun q => absurd rfl q)
  exact kk cells slots M2 _ _ ls (by omega) (by omega) I hl hS
set_option maxHeartbeats 4000000 in
set_option maxRecDepth 100000 in
theorem lw_case_25 {p : Program} {l : Launch} {e : Env} {s : State} {m : MethodId} {below : List Frame} {meth : Method} {c : Code} {D : va_G} {dA : Nat → ClassId} {b L : Nat} {xs : Nat → Int32} (hst : l.stackTraces = false) (hL : L ≤ 3072) (X : mm_C D dA s.heap.size cL_law RL 7 p s m #[Value.ref b] c) (XN : mm_XN s.heap.size s s.heap) (hX : va_X b L xs s s.heap) (hbl : b < s.heap.size) {n ax am ao : Nat} {Sim : Nat → mm_M → Prop} (h_split : lw_s_split n ax am Sim) {t cells slots : Nat} {M : mm_M} {H : Heap} {locs : List Loc} {ls : Array Slot} (ht : 6 * t + 6 ≤ L) (hc : cells ≤ 3495 + t) (hs : slots ≤ 65634 + 6 * t) (I : mm_I D dA s.heap.size s M H locs) (hl : lv_has ls 7 [(0, .ref b), (1, .ref ax), (2, .ref am), (3, .ref ao), (4, .int (nI (6 * t)))]) (hS : Sim t M) (kk : ∀ (cells slots : Nat) (M : mm_M) (H : Heap) (locs : List Loc) (ls : Array Slot), cells ≤ 3495 + t + 1 → slots ≤ 65634 + 6 * t + 6 → mm_I D dA s.heap.size s M H locs → lv_has ls 7 [(0, .ref b), (1, .ref ax), (2, .ref am), (3, .ref ao), (4, .int (nI (6 * t)))] → Sim (t + 1) M → W p l e room_1 s m #[Value.ref b] below meth c H locs cells slots (lw_Z below #[Value.ref b] s) (F0 m 1535 ls [])) : W p l e room_1 s m #[Value.ref b] below meth c H locs cells slots (lw_Z below #[Value.ref b] s) (F0 m 1080 ls []) := by
  have hbA : ¬ mm_fr s.heap.size b := Nat.not_le.mpr hbl
  have i1 : vp_in (nI (6 * t) + 1) L := by rw [show nI (6 * t) + 1 = nI (6 * t + 1) from lw_ix _ 1]; exact vp_in_nI (by omega) (by omega)
  have i2 : vp_in (nI (6 * t) + 2) L := by rw [show nI (6 * t) + 2 = nI (6 * t + 2) from lw_ix _ 2]; exact vp_in_nI (by omega) (by omega)
  have i3 : vp_in (nI (6 * t) + 3) L := by rw [show nI (6 * t) + 3 = nI (6 * t + 3) from lw_ix _ 3]; exact vp_in_nI (by omega) (by omega)
  have i4 : vp_in (nI (6 * t) + 4) L := by rw [show nI (6 * t) + 4 = nI (6 * t + 4) from lw_ix _ 4]; exact vp_in_nI (by omega) (by omega)
  have i5 : vp_in (nI (6 * t) + 5) L := by rw [show nI (6 * t) + 5 = nI (6 * t + 5) from lw_ix _ 5]; exact vp_in_nI (by omega) (by omega)
  obtain ⟨r, M1, M2, h1, h2, hS⟩ := h_split t M (by omega) hS (xs (nI (6 * t) + 1).toNatClampNeg) (xs (nI (6 * t) + 2).toNatClampNeg)
  refine lv_aload_n X.1 X.2.1 dL_law_1080 rfl (lv_at hl 1 rfl) ?_
  refine lv_aload_n X.1 X.2.1 dL_law_1081 rfl (lv_at hl 0 rfl) ?_
  refine lv_iload X.1 X.2.1 dL_law_1082 (lv_at hl 4 rfl) ?_
  refine lv_iconst (v := 1) X.1 X.2.1 dL_law_1084 (by decide) ?_
  refine lv_iadd X.1 X.2.1 dL_law_1085 ?_
  refine va_sld X.1 X.2.1 hX hbl hbA I.2 i1 dL_law_1086 ?_
  refine lv_aload_n X.1 X.2.1 dL_law_1087 rfl (lv_at hl 0 rfl) ?_
  refine lv_iload X.1 X.2.1 dL_law_1088 (lv_at hl 4 rfl) ?_
  refine lv_iconst (v := 2) X.1 X.2.1 dL_law_1090 (by decide) ?_
  refine lv_iadd X.1 X.2.1 dL_law_1091 ?_
  refine va_sld X.1 X.2.1 hX hbl hbA I.2 i2 dL_law_1092 ?_
  refine mm_cVe X I hl (As := [.int (xs (nI (6 * t) + 1).toNatClampNeg), .int (xs (nI (6 * t) + 2).toNatClampNeg)]) (ci := 9) md_X9_split mv_X9_split ml_L_130 rfl h1 (kX9_split (n := n)) (by decide) ⟨show cells ≤ 601024 by omega, show slots ≤ 7293034 by omega⟩ rfl rfl (Nat.le_of_ble_eq_true rfl) dL_law_1093 (fun H locs I => ?_)
  refine lv_aload_n X.1 X.2.1 dL_law_1096 rfl (lv_at hl 2 rfl) ?_
  refine lv_aload_n X.1 X.2.1 dL_law_1097 rfl (lv_at hl 0 rfl) ?_
  refine lv_iload X.1 X.2.1 dL_law_1098 (lv_at hl 4 rfl) ?_
  refine lv_iconst (v := 1) X.1 X.2.1 dL_law_1100 (by decide) ?_
  refine lv_iadd X.1 X.2.1 dL_law_1101 ?_
  refine va_sld X.1 X.2.1 hX hbl hbA I.2 i1 dL_law_1102 ?_
  refine lv_aload_n X.1 X.2.1 dL_law_1103 rfl (lv_at hl 0 rfl) ?_
  refine lv_iload X.1 X.2.1 dL_law_1104 (lv_at hl 4 rfl) ?_
  refine lv_iconst (v := 2) X.1 X.2.1 dL_law_1106 (by decide) ?_
  refine lv_iadd X.1 X.2.1 dL_law_1107 ?_
  refine va_sld X.1 X.2.1 hX hbl hbA I.2 i2 dL_law_1108 ?_
  refine mm_cVe X I hl (As := [.int (xs (nI (6 * t) + 1).toNatClampNeg), .int (xs (nI (6 * t) + 2).toNatClampNeg)]) (ci := 10) md_X10_split mv_X10_split ml_L_133 rfl h2 (kX10_split (n := n)) (by decide) ⟨show cells ≤ 601024 by omega, show slots ≤ 7293034 by omega⟩ rfl rfl (Nat.le_of_ble_eq_true rfl) dL_law_1109 (fun H locs I => ?_)
  refine lv_icmp_eq (tgt := 1535) X.1 X.2.1 dL_law_1112 (by decide) (fun _ => ?_) (fun q => absurd rfl q)
  exact kk cells slots M2 _ _ ls (by omega) (by omega) I hl hS
set_option maxHeartbeats 4000000 in
set_option maxRecDepth 100000 in
theorem lw_case_26 {p : Program} {l : Launch} {e : Env} {s : State} {m : MethodId} {below : List Frame} {meth : Method} {c : Code} {D : va_G} {dA : Nat → ClassId} {b L : Nat} {xs : Nat → Int32} (hst : l.stackTraces = false) (hL : L ≤ 3072) (X : mm_C D dA s.heap.size cL_law RL 7 p s m #[Value.ref b] c) (XN : mm_XN s.heap.size s s.heap) (hX : va_X b L xs s s.heap) (hbl : b < s.heap.size) {n ax am ao : Nat} {Sim : Nat → mm_M → Prop} (h_join : lw_s_join n ax am Sim) {t cells slots : Nat} {M : mm_M} {H : Heap} {locs : List Loc} {ls : Array Slot} (ht : 6 * t + 6 ≤ L) (hc : cells ≤ 3495 + t) (hs : slots ≤ 65634 + 6 * t) (I : mm_I D dA s.heap.size s M H locs) (hl : lv_has ls 7 [(0, .ref b), (1, .ref ax), (2, .ref am), (3, .ref ao), (4, .int (nI (6 * t)))]) (hS : Sim t M) (kk : ∀ (cells slots : Nat) (M : mm_M) (H : Heap) (locs : List Loc) (ls : Array Slot), cells ≤ 3495 + t + 1 → slots ≤ 65634 + 6 * t + 6 → mm_I D dA s.heap.size s M H locs → lv_has ls 7 [(0, .ref b), (1, .ref ax), (2, .ref am), (3, .ref ao), (4, .int (nI (6 * t)))] → Sim (t + 1) M → W p l e room_1 s m #[Value.ref b] below meth c H locs cells slots (lw_Z below #[Value.ref b] s) (F0 m 1535 ls [])) : W p l e room_1 s m #[Value.ref b] below meth c H locs cells slots (lw_Z below #[Value.ref b] s) (F0 m 1117 ls []) := by
  have hbA : ¬ mm_fr s.heap.size b := Nat.not_le.mpr hbl
  have i1 : vp_in (nI (6 * t) + 1) L := by rw [show nI (6 * t) + 1 = nI (6 * t + 1) from lw_ix _ 1]; exact vp_in_nI (by omega) (by omega)
  have i2 : vp_in (nI (6 * t) + 2) L := by rw [show nI (6 * t) + 2 = nI (6 * t + 2) from lw_ix _ 2]; exact vp_in_nI (by omega) (by omega)
  have i3 : vp_in (nI (6 * t) + 3) L := by rw [show nI (6 * t) + 3 = nI (6 * t + 3) from lw_ix _ 3]; exact vp_in_nI (by omega) (by omega)
  have i4 : vp_in (nI (6 * t) + 4) L := by rw [show nI (6 * t) + 4 = nI (6 * t + 4) from lw_ix _ 4]; exact vp_in_nI (by omega) (by omega)
  have i5 : vp_in (nI (6 * t) + 5) L := by rw [show nI (6 * t) + 5 = nI (6 * t + 5) from lw_ix _ 5]; exact vp_in_nI (by omega) (by omega)
  obtain ⟨r, M1, M2, h1, h2, hS⟩ := h_join t M (by omega) hS (xs (nI (6 * t) + 1).toNatClampNeg)
  refine lv_aload_n X.1 X.2.1 dL_law_1117 rfl (lv_at hl 1 rfl) ?_
  refine lv_aload_n X.1 X.2.1 dL_law_1118 rfl (lv_at hl 0 rfl) ?_
  refine lv_iload X.1 X.2.1 dL_law_1119 (lv_at hl 4 rfl) ?_
  refine lv_iconst (v := 1) X.1 X.2.1 dL_law_1121 (by decide) ?_
  refine lv_iadd X.1 X.2.1 dL_law_1122 ?_
  refine va_sld X.1 X.2.1 hX hbl hbA I.2 i1 dL_law_1123 ?_
  refine mm_cVe X I hl (As := [.int (xs (nI (6 * t) + 1).toNatClampNeg)]) (ci := 9) md_X9_join mv_X9_join ml_L_134 rfl h1 (kX9_join (n := n)) (by decide) ⟨show cells ≤ 601024 by omega, show slots ≤ 7293034 by omega⟩ rfl rfl (Nat.le_of_ble_eq_true rfl) dL_law_1124 (fun H locs I => ?_)
  refine lv_aload_n X.1 X.2.1 dL_law_1127 rfl (lv_at hl 2 rfl) ?_
  refine lv_aload_n X.1 X.2.1 dL_law_1128 rfl (lv_at hl 0 rfl) ?_
  refine lv_iload X.1 X.2.1 dL_law_1129 (lv_at hl 4 rfl) ?_
  refine lv_iconst (v := 1) X.1 X.2.1 dL_law_1131 (by decide) ?_
  refine lv_iadd X.1 X.2.1 dL_law_1132 ?_
  refine va_sld X.1 X.2.1 hX hbl hbA I.2 i1 dL_law_1133 ?_
  refine mm_cVe X I hl (As := [.int (xs (nI (6 * t) + 1).toNatClampNeg)]) (ci := 10) md_X10_join mv_X10_join ml_L_137 rfl h2 (kX10_join (n := n)) (by decide) ⟨show cells ≤ 601024 by omega, show slots ≤ 7293034 by omega⟩ rfl rfl (Nat.le_of_ble_eq_true rfl) dL_law_1134 (fun H locs I => ?_)
  refine lv_icmp_eq (tgt := 1535) X.1 X.2.1 dL_law_1137 (by decide) (fun _ => ?_) (fun q => absurd rfl q)
  exact kk cells slots M2 _ _ ls (by omega) (by omega) I hl hS
set_option maxHeartbeats 4000000 in
set_option maxRecDepth 100000 in
theorem lw_case_27 {p : Program} {l : Launch} {e : Env} {s : State} {m : MethodId} {below : List Frame} {meth : Method} {c : Code} {D : va_G} {dA : Nat → ClassId} {b L : Nat} {xs : Nat → Int32} (hst : l.stackTraces = false) (hL : L ≤ 3072) (X : mm_C D dA s.heap.size cL_law RL 7 p s m #[Value.ref b] c) (XN : mm_XN s.heap.size s s.heap) (hX : va_X b L xs s s.heap) (hbl : b < s.heap.size) {n ax am ao : Nat} {Sim : Nat → mm_M → Prop} (h_ways : lw_s_ways n ax am Sim) {t cells slots : Nat} {M : mm_M} {H : Heap} {locs : List Loc} {ls : Array Slot} (ht : 6 * t + 6 ≤ L) (hc : cells ≤ 3495 + t) (hs : slots ≤ 65634 + 6 * t) (I : mm_I D dA s.heap.size s M H locs) (hl : lv_has ls 7 [(0, .ref b), (1, .ref ax), (2, .ref am), (3, .ref ao), (4, .int (nI (6 * t)))]) (hS : Sim t M) (kk : ∀ (cells slots : Nat) (M : mm_M) (H : Heap) (locs : List Loc) (ls : Array Slot), cells ≤ 3495 + t + 1 → slots ≤ 65634 + 6 * t + 6 → mm_I D dA s.heap.size s M H locs → lv_has ls 7 [(0, .ref b), (1, .ref ax), (2, .ref am), (3, .ref ao), (4, .int (nI (6 * t)))] → Sim (t + 1) M → W p l e room_1 s m #[Value.ref b] below meth c H locs cells slots (lw_Z below #[Value.ref b] s) (F0 m 1535 ls [])) : W p l e room_1 s m #[Value.ref b] below meth c H locs cells slots (lw_Z below #[Value.ref b] s) (F0 m 1142 ls []) := by
  have hbA : ¬ mm_fr s.heap.size b := Nat.not_le.mpr hbl
  have i1 : vp_in (nI (6 * t) + 1) L := by rw [show nI (6 * t) + 1 = nI (6 * t + 1) from lw_ix _ 1]; exact vp_in_nI (by omega) (by omega)
  have i2 : vp_in (nI (6 * t) + 2) L := by rw [show nI (6 * t) + 2 = nI (6 * t + 2) from lw_ix _ 2]; exact vp_in_nI (by omega) (by omega)
  have i3 : vp_in (nI (6 * t) + 3) L := by rw [show nI (6 * t) + 3 = nI (6 * t + 3) from lw_ix _ 3]; exact vp_in_nI (by omega) (by omega)
  have i4 : vp_in (nI (6 * t) + 4) L := by rw [show nI (6 * t) + 4 = nI (6 * t + 4) from lw_ix _ 4]; exact vp_in_nI (by omega) (by omega)
  have i5 : vp_in (nI (6 * t) + 5) L := by rw [show nI (6 * t) + 5 = nI (6 * t + 5) from lw_ix _ 5]; exact vp_in_nI (by omega) (by omega)
  obtain ⟨r, M1, M2, h1, h2, hS⟩ := h_ways t M (by omega) hS (xs (nI (6 * t) + 1).toNatClampNeg) (((Int32.toInt64 (xs (nI (6 * t) + 2).toNatClampNeg)) <<< (Int32.toInt64 32 &&& 63)) ||| ((Int32.toInt64 (xs (nI (6 * t) + 3).toNatClampNeg)) &&& 4294967295))
  refine lv_aload_n X.1 X.2.1 dL_law_1142 rfl (lv_at hl 1 rfl) ?_
  refine lv_aload_n X.1 X.2.1 dL_law_1143 rfl (lv_at hl 0 rfl) ?_
  refine lv_iload X.1 X.2.1 dL_law_1144 (lv_at hl 4 rfl) ?_
  refine lv_iconst (v := 1) X.1 X.2.1 dL_law_1146 (by decide) ?_
  refine lv_iadd X.1 X.2.1 dL_law_1147 ?_
  refine va_sld X.1 X.2.1 hX hbl hbA I.2 i1 dL_law_1148 ?_
  refine lv_aload_n X.1 X.2.1 dL_law_1149 rfl (lv_at hl 0 rfl) ?_
  refine lv_iload X.1 X.2.1 dL_law_1150 (lv_at hl 4 rfl) ?_
  refine lv_iconst (v := 2) X.1 X.2.1 dL_law_1152 (by decide) ?_
  refine lv_iadd X.1 X.2.1 dL_law_1153 ?_
  refine va_sld X.1 X.2.1 hX hbl hbA I.2 i2 dL_law_1154 ?_
  refine lv_i2l (v := (Int32.toInt64 (xs (nI (6 * t) + 2).toNatClampNeg))) X.1 X.2.1 dL_law_1155 rfl ?_
  refine lv_bipush (v := 32) X.1 X.2.1 dL_law_1156 (by decide) ?_
  refine lv_lshl (v := ((Int32.toInt64 (xs (nI (6 * t) + 2).toNatClampNeg)) <<< (Int32.toInt64 32 &&& 63))) X.1 X.2.1 dL_law_1158 rfl ?_
  refine lv_aload_n X.1 X.2.1 dL_law_1159 rfl (lv_at hl 0 rfl) ?_
  refine lv_iload X.1 X.2.1 dL_law_1160 (lv_at hl 4 rfl) ?_
  refine lv_iconst (v := 3) X.1 X.2.1 dL_law_1162 (by decide) ?_
  refine lv_iadd X.1 X.2.1 dL_law_1163 ?_
  refine va_sld X.1 X.2.1 hX hbl hbA I.2 i3 dL_law_1164 ?_
  refine lv_i2l (v := (Int32.toInt64 (xs (nI (6 * t) + 3).toNatClampNeg))) X.1 X.2.1 dL_law_1165 rfl ?_
  refine lv_ldc2 (v := 4294967295) X.1 X.2.1 X.2.2.2.1 (X.2.2.2.2.1 _ cn_L_138) dL_law_1166 ?_
  refine lv_land X.1 X.2.1 dL_law_1169 ?_
  refine lv_lor X.1 X.2.1 dL_law_1170 ?_
  refine mm_cVe X I hl (As := [.int (xs (nI (6 * t) + 1).toNatClampNeg), .long (((Int32.toInt64 (xs (nI (6 * t) + 2).toNatClampNeg)) <<< (Int32.toInt64 32 &&& 63)) ||| ((Int32.toInt64 (xs (nI (6 * t) + 3).toNatClampNeg)) &&& 4294967295))]) (ci := 9) md_X9_ways mv_X9_ways ml_L_140 rfl h1 (kX9_ways (n := n)) (by decide) ⟨show cells ≤ 601024 by omega, show slots ≤ 7293034 by omega⟩ rfl rfl (Nat.le_of_ble_eq_true rfl) dL_law_1171 (fun H locs I => ?_)
  refine lv_aload_n X.1 X.2.1 dL_law_1174 rfl (lv_at hl 2 rfl) ?_
  refine lv_aload_n X.1 X.2.1 dL_law_1175 rfl (lv_at hl 0 rfl) ?_
  refine lv_iload X.1 X.2.1 dL_law_1176 (lv_at hl 4 rfl) ?_
  refine lv_iconst (v := 1) X.1 X.2.1 dL_law_1178 (by decide) ?_
  refine lv_iadd X.1 X.2.1 dL_law_1179 ?_
  refine va_sld X.1 X.2.1 hX hbl hbA I.2 i1 dL_law_1180 ?_
  refine lv_aload_n X.1 X.2.1 dL_law_1181 rfl (lv_at hl 0 rfl) ?_
  refine lv_iload X.1 X.2.1 dL_law_1182 (lv_at hl 4 rfl) ?_
  refine lv_iconst (v := 2) X.1 X.2.1 dL_law_1184 (by decide) ?_
  refine lv_iadd X.1 X.2.1 dL_law_1185 ?_
  refine va_sld X.1 X.2.1 hX hbl hbA I.2 i2 dL_law_1186 ?_
  refine lv_i2l (v := (Int32.toInt64 (xs (nI (6 * t) + 2).toNatClampNeg))) X.1 X.2.1 dL_law_1187 rfl ?_
  refine lv_bipush (v := 32) X.1 X.2.1 dL_law_1188 (by decide) ?_
  refine lv_lshl (v := ((Int32.toInt64 (xs (nI (6 * t) + 2).toNatClampNeg)) <<< (Int32.toInt64 32 &&& 63))) X.1 X.2.1 dL_law_1190 rfl ?_
  refine lv_aload_n X.1 X.2.1 dL_law_1191 rfl (lv_at hl 0 rfl) ?_
  refine lv_iload X.1 X.2.1 dL_law_1192 (lv_at hl 4 rfl) ?_
  refine lv_iconst (v := 3) X.1 X.2.1 dL_law_1194 (by decide) ?_
  refine lv_iadd X.1 X.2.1 dL_law_1195 ?_
  refine va_sld X.1 X.2.1 hX hbl hbA I.2 i3 dL_law_1196 ?_
  refine lv_i2l (v := (Int32.toInt64 (xs (nI (6 * t) + 3).toNatClampNeg))) X.1 X.2.1 dL_law_1197 rfl ?_
  refine lv_ldc2 (v := 4294967295) X.1 X.2.1 X.2.2.2.1 (X.2.2.2.2.1 _ cn_L_138) dL_law_1198 ?_
  refine lv_land X.1 X.2.1 dL_law_1201 ?_
  refine lv_lor X.1 X.2.1 dL_law_1202 ?_
  refine mm_cVe X I hl (As := [.int (xs (nI (6 * t) + 1).toNatClampNeg), .long (((Int32.toInt64 (xs (nI (6 * t) + 2).toNatClampNeg)) <<< (Int32.toInt64 32 &&& 63)) ||| ((Int32.toInt64 (xs (nI (6 * t) + 3).toNatClampNeg)) &&& 4294967295))]) (ci := 10) md_X10_ways mv_X10_ways ml_L_144 rfl h2 (kX10_ways (n := n)) (by decide) ⟨show cells ≤ 601024 by omega, show slots ≤ 7293034 by omega⟩ rfl rfl (Nat.le_of_ble_eq_true rfl) dL_law_1203 (fun H locs I => ?_)
  refine lv_icmp_eq (tgt := 1535) X.1 X.2.1 dL_law_1206 (by decide) (fun _ => ?_) (fun q => absurd rfl q)
  exact kk cells slots M2 _ _ ls (by omega) (by omega) I hl hS
set_option maxHeartbeats 4000000 in
set_option maxRecDepth 100000 in
theorem lw_case_28 {p : Program} {l : Launch} {e : Env} {s : State} {m : MethodId} {below : List Frame} {meth : Method} {c : Code} {D : va_G} {dA : Nat → ClassId} {b L : Nat} {xs : Nat → Int32} (hst : l.stackTraces = false) (hL : L ≤ 3072) (X : mm_C D dA s.heap.size cL_law RL 7 p s m #[Value.ref b] c) (XN : mm_XN s.heap.size s s.heap) (hX : va_X b L xs s s.heap) (hbl : b < s.heap.size) {n ax am ao : Nat} {Sim : Nat → mm_M → Prop} (h_status : lw_s_status n ax am Sim) {t cells slots : Nat} {M : mm_M} {H : Heap} {locs : List Loc} {ls : Array Slot} (ht : 6 * t + 6 ≤ L) (hc : cells ≤ 3495 + t) (hs : slots ≤ 65634 + 6 * t) (I : mm_I D dA s.heap.size s M H locs) (hl : lv_has ls 7 [(0, .ref b), (1, .ref ax), (2, .ref am), (3, .ref ao), (4, .int (nI (6 * t)))]) (hS : Sim t M) (kk : ∀ (cells slots : Nat) (M : mm_M) (H : Heap) (locs : List Loc) (ls : Array Slot), cells ≤ 3495 + t + 1 → slots ≤ 65634 + 6 * t + 6 → mm_I D dA s.heap.size s M H locs → lv_has ls 7 [(0, .ref b), (1, .ref ax), (2, .ref am), (3, .ref ao), (4, .int (nI (6 * t)))] → Sim (t + 1) M → W p l e room_1 s m #[Value.ref b] below meth c H locs cells slots (lw_Z below #[Value.ref b] s) (F0 m 1535 ls [])) : W p l e room_1 s m #[Value.ref b] below meth c H locs cells slots (lw_Z below #[Value.ref b] s) (F0 m 1211 ls []) := by
  have hbA : ¬ mm_fr s.heap.size b := Nat.not_le.mpr hbl
  have i1 : vp_in (nI (6 * t) + 1) L := by rw [show nI (6 * t) + 1 = nI (6 * t + 1) from lw_ix _ 1]; exact vp_in_nI (by omega) (by omega)
  have i2 : vp_in (nI (6 * t) + 2) L := by rw [show nI (6 * t) + 2 = nI (6 * t + 2) from lw_ix _ 2]; exact vp_in_nI (by omega) (by omega)
  have i3 : vp_in (nI (6 * t) + 3) L := by rw [show nI (6 * t) + 3 = nI (6 * t + 3) from lw_ix _ 3]; exact vp_in_nI (by omega) (by omega)
  have i4 : vp_in (nI (6 * t) + 4) L := by rw [show nI (6 * t) + 4 = nI (6 * t + 4) from lw_ix _ 4]; exact vp_in_nI (by omega) (by omega)
  have i5 : vp_in (nI (6 * t) + 5) L := by rw [show nI (6 * t) + 5 = nI (6 * t + 5) from lw_ix _ 5]; exact vp_in_nI (by omega) (by omega)
  obtain ⟨r, M1, M2, h1, h2, hS⟩ := h_status t M (by omega) hS (xs (nI (6 * t) + 1).toNatClampNeg)
  refine lv_aload_n X.1 X.2.1 dL_law_1211 rfl (lv_at hl 1 rfl) ?_
  refine lv_aload_n X.1 X.2.1 dL_law_1212 rfl (lv_at hl 0 rfl) ?_
  refine lv_iload X.1 X.2.1 dL_law_1213 (lv_at hl 4 rfl) ?_
  refine lv_iconst (v := 1) X.1 X.2.1 dL_law_1215 (by decide) ?_
  refine lv_iadd X.1 X.2.1 dL_law_1216 ?_
  refine va_sld X.1 X.2.1 hX hbl hbA I.2 i1 dL_law_1217 ?_
  refine mm_cVe X I hl (As := [.int (xs (nI (6 * t) + 1).toNatClampNeg)]) (ci := 9) md_X9_status mv_X9_status ml_L_145 rfl h1 (kX9_status (n := n)) (by decide) ⟨show cells ≤ 601024 by omega, show slots ≤ 7293034 by omega⟩ rfl rfl (Nat.le_of_ble_eq_true rfl) dL_law_1218 (fun H locs I => ?_)
  refine lv_aload_n X.1 X.2.1 dL_law_1221 rfl (lv_at hl 2 rfl) ?_
  refine lv_aload_n X.1 X.2.1 dL_law_1222 rfl (lv_at hl 0 rfl) ?_
  refine lv_iload X.1 X.2.1 dL_law_1223 (lv_at hl 4 rfl) ?_
  refine lv_iconst (v := 1) X.1 X.2.1 dL_law_1225 (by decide) ?_
  refine lv_iadd X.1 X.2.1 dL_law_1226 ?_
  refine va_sld X.1 X.2.1 hX hbl hbA I.2 i1 dL_law_1227 ?_
  refine mm_cVe X I hl (As := [.int (xs (nI (6 * t) + 1).toNatClampNeg)]) (ci := 10) md_X10_status mv_X10_status ml_L_148 rfl h2 (kX10_status (n := n)) (by decide) ⟨show cells ≤ 601024 by omega, show slots ≤ 7293034 by omega⟩ rfl rfl (Nat.le_of_ble_eq_true rfl) dL_law_1228 (fun H locs I => ?_)
  refine lv_icmp_eq (tgt := 1535) X.1 X.2.1 dL_law_1231 (by decide) (fun _ => ?_) (fun q => absurd rfl q)
  exact kk cells slots M2 _ _ ls (by omega) (by omega) I hl hS
set_option maxHeartbeats 4000000 in
set_option maxRecDepth 100000 in
theorem lw_case_29 {p : Program} {l : Launch} {e : Env} {s : State} {m : MethodId} {below : List Frame} {meth : Method} {c : Code} {D : va_G} {dA : Nat → ClassId} {b L : Nat} {xs : Nat → Int32} (hst : l.stackTraces = false) (hL : L ≤ 3072) (X : mm_C D dA s.heap.size cL_law RL 7 p s m #[Value.ref b] c) (XN : mm_XN s.heap.size s s.heap) (hX : va_X b L xs s s.heap) (hbl : b < s.heap.size) {n ax am ao : Nat} {Sim : Nat → mm_M → Prop} (h_undo : lw_s_undo n ax am Sim) {t cells slots : Nat} {M : mm_M} {H : Heap} {locs : List Loc} {ls : Array Slot} (ht : 6 * t + 6 ≤ L) (hc : cells ≤ 3495 + t) (hs : slots ≤ 65634 + 6 * t) (I : mm_I D dA s.heap.size s M H locs) (hl : lv_has ls 7 [(0, .ref b), (1, .ref ax), (2, .ref am), (3, .ref ao), (4, .int (nI (6 * t)))]) (hS : Sim t M) (kk : ∀ (cells slots : Nat) (M : mm_M) (H : Heap) (locs : List Loc) (ls : Array Slot), cells ≤ 3495 + t + 1 → slots ≤ 65634 + 6 * t + 6 → mm_I D dA s.heap.size s M H locs → lv_has ls 7 [(0, .ref b), (1, .ref ax), (2, .ref am), (3, .ref ao), (4, .int (nI (6 * t)))] → Sim (t + 1) M → W p l e room_1 s m #[Value.ref b] below meth c H locs cells slots (lw_Z below #[Value.ref b] s) (F0 m 1535 ls [])) : W p l e room_1 s m #[Value.ref b] below meth c H locs cells slots (lw_Z below #[Value.ref b] s) (F0 m 1236 ls []) := by
  have hbA : ¬ mm_fr s.heap.size b := Nat.not_le.mpr hbl
  have i1 : vp_in (nI (6 * t) + 1) L := by rw [show nI (6 * t) + 1 = nI (6 * t + 1) from lw_ix _ 1]; exact vp_in_nI (by omega) (by omega)
  have i2 : vp_in (nI (6 * t) + 2) L := by rw [show nI (6 * t) + 2 = nI (6 * t + 2) from lw_ix _ 2]; exact vp_in_nI (by omega) (by omega)
  have i3 : vp_in (nI (6 * t) + 3) L := by rw [show nI (6 * t) + 3 = nI (6 * t + 3) from lw_ix _ 3]; exact vp_in_nI (by omega) (by omega)
  have i4 : vp_in (nI (6 * t) + 4) L := by rw [show nI (6 * t) + 4 = nI (6 * t + 4) from lw_ix _ 4]; exact vp_in_nI (by omega) (by omega)
  have i5 : vp_in (nI (6 * t) + 5) L := by rw [show nI (6 * t) + 5 = nI (6 * t + 5) from lw_ix _ 5]; exact vp_in_nI (by omega) (by omega)
  obtain ⟨r, M1, M2, h1, h2, hS⟩ := h_undo t M (by omega) hS ()
  refine lv_aload_n X.1 X.2.1 dL_law_1236 rfl (lv_at hl 1 rfl) ?_
  refine mm_cVe X I hl (As := []) (ci := 9) md_X9_undo mv_X9_undo ml_L_149 rfl h1 (kX9_undo (n := n)) (by decide) ⟨show cells ≤ 601024 by omega, show slots ≤ 7293034 by omega⟩ rfl rfl (Nat.le_of_ble_eq_true rfl) dL_law_1237 (fun H locs I => ?_)
  refine lv_aload_n X.1 X.2.1 dL_law_1240 rfl (lv_at hl 2 rfl) ?_
  refine mm_cVe X I hl (As := []) (ci := 10) md_X10_undo mv_X10_undo ml_L_152 rfl h2 (kX10_undo (n := n)) (by decide) ⟨show cells ≤ 601024 by omega, show slots ≤ 7293034 by omega⟩ rfl rfl (Nat.le_of_ble_eq_true rfl) dL_law_1241 (fun H locs I => ?_)
  refine lv_icmp_eq (tgt := 1535) X.1 X.2.1 dL_law_1244 (by decide) (fun _ => ?_) (fun q => absurd rfl q)
  exact kk cells slots M2 _ _ ls (by omega) (by omega) I hl hS
set_option maxHeartbeats 4000000 in
set_option maxRecDepth 100000 in
theorem lw_case_30 {p : Program} {l : Launch} {e : Env} {s : State} {m : MethodId} {below : List Frame} {meth : Method} {c : Code} {D : va_G} {dA : Nat → ClassId} {b L : Nat} {xs : Nat → Int32} (hst : l.stackTraces = false) (hL : L ≤ 3072) (X : mm_C D dA s.heap.size cL_law RL 7 p s m #[Value.ref b] c) (XN : mm_XN s.heap.size s s.heap) (hX : va_X b L xs s s.heap) (hbl : b < s.heap.size) {n ax am ao : Nat} {Sim : Nat → mm_M → Prop} (h_log : lw_s_log n ax am Sim) {t cells slots : Nat} {M : mm_M} {H : Heap} {locs : List Loc} {ls : Array Slot} (ht : 6 * t + 6 ≤ L) (hc : cells ≤ 3495 + t) (hs : slots ≤ 65634 + 6 * t) (I : mm_I D dA s.heap.size s M H locs) (hl : lv_has ls 7 [(0, .ref b), (1, .ref ax), (2, .ref am), (3, .ref ao), (4, .int (nI (6 * t)))]) (hS : Sim t M) (kk : ∀ (cells slots : Nat) (M : mm_M) (H : Heap) (locs : List Loc) (ls : Array Slot), cells ≤ 3495 + t + 1 → slots ≤ 65634 + 6 * t + 6 → mm_I D dA s.heap.size s M H locs → lv_has ls 7 [(0, .ref b), (1, .ref ax), (2, .ref am), (3, .ref ao), (4, .int (nI (6 * t)))] → Sim (t + 1) M → W p l e room_1 s m #[Value.ref b] below meth c H locs cells slots (lw_Z below #[Value.ref b] s) (F0 m 1535 ls [])) : W p l e room_1 s m #[Value.ref b] below meth c H locs cells slots (lw_Z below #[Value.ref b] s) (F0 m 1249 ls []) := by
  have hbA : ¬ mm_fr s.heap.size b := Nat.not_le.mpr hbl
  have i1 : vp_in (nI (6 * t) + 1) L := by rw [show nI (6 * t) + 1 = nI (6 * t + 1) from lw_ix _ 1]; exact vp_in_nI (by omega) (by omega)
  have i2 : vp_in (nI (6 * t) + 2) L := by rw [show nI (6 * t) + 2 = nI (6 * t + 2) from lw_ix _ 2]; exact vp_in_nI (by omega) (by omega)
  have i3 : vp_in (nI (6 * t) + 3) L := by rw [show nI (6 * t) + 3 = nI (6 * t + 3) from lw_ix _ 3]; exact vp_in_nI (by omega) (by omega)
  have i4 : vp_in (nI (6 * t) + 4) L := by rw [show nI (6 * t) + 4 = nI (6 * t + 4) from lw_ix _ 4]; exact vp_in_nI (by omega) (by omega)
  have i5 : vp_in (nI (6 * t) + 5) L := by rw [show nI (6 * t) + 5 = nI (6 * t + 5) from lw_ix _ 5]; exact vp_in_nI (by omega) (by omega)
  obtain ⟨r, M1, M2, h1, h2, hS⟩ := h_log t M (by omega) hS (xs (nI (6 * t) + 1).toNatClampNeg) (xs (nI (6 * t) + 2).toNatClampNeg)
  refine lv_aload_n X.1 X.2.1 dL_law_1249 rfl (lv_at hl 1 rfl) ?_
  refine lv_aload_n X.1 X.2.1 dL_law_1250 rfl (lv_at hl 0 rfl) ?_
  refine lv_iload X.1 X.2.1 dL_law_1251 (lv_at hl 4 rfl) ?_
  refine lv_iconst (v := 1) X.1 X.2.1 dL_law_1253 (by decide) ?_
  refine lv_iadd X.1 X.2.1 dL_law_1254 ?_
  refine va_sld X.1 X.2.1 hX hbl hbA I.2 i1 dL_law_1255 ?_
  refine lv_aload_n X.1 X.2.1 dL_law_1256 rfl (lv_at hl 0 rfl) ?_
  refine lv_iload X.1 X.2.1 dL_law_1257 (lv_at hl 4 rfl) ?_
  refine lv_iconst (v := 2) X.1 X.2.1 dL_law_1259 (by decide) ?_
  refine lv_iadd X.1 X.2.1 dL_law_1260 ?_
  refine va_sld X.1 X.2.1 hX hbl hbA I.2 i2 dL_law_1261 ?_
  refine mm_cVe X I hl (As := [.int (xs (nI (6 * t) + 1).toNatClampNeg), .int (xs (nI (6 * t) + 2).toNatClampNeg)]) (ci := 9) md_X9_log mv_X9_log ml_L_153 rfl h1 (kX9_log (n := n)) (by decide) ⟨show cells ≤ 601024 by omega, show slots ≤ 7293034 by omega⟩ rfl rfl (Nat.le_of_ble_eq_true rfl) dL_law_1262 (fun H locs I => ?_)
  refine lv_aload_n X.1 X.2.1 dL_law_1265 rfl (lv_at hl 2 rfl) ?_
  refine lv_aload_n X.1 X.2.1 dL_law_1266 rfl (lv_at hl 0 rfl) ?_
  refine lv_iload X.1 X.2.1 dL_law_1267 (lv_at hl 4 rfl) ?_
  refine lv_iconst (v := 1) X.1 X.2.1 dL_law_1269 (by decide) ?_
  refine lv_iadd X.1 X.2.1 dL_law_1270 ?_
  refine va_sld X.1 X.2.1 hX hbl hbA I.2 i1 dL_law_1271 ?_
  refine lv_aload_n X.1 X.2.1 dL_law_1272 rfl (lv_at hl 0 rfl) ?_
  refine lv_iload X.1 X.2.1 dL_law_1273 (lv_at hl 4 rfl) ?_
  refine lv_iconst (v := 2) X.1 X.2.1 dL_law_1275 (by decide) ?_
  refine lv_iadd X.1 X.2.1 dL_law_1276 ?_
  refine va_sld X.1 X.2.1 hX hbl hbA I.2 i2 dL_law_1277 ?_
  refine mm_cVe X I hl (As := [.int (xs (nI (6 * t) + 1).toNatClampNeg), .int (xs (nI (6 * t) + 2).toNatClampNeg)]) (ci := 10) md_X10_log mv_X10_log ml_L_156 rfl h2 (kX10_log (n := n)) (by decide) ⟨show cells ≤ 601024 by omega, show slots ≤ 7293034 by omega⟩ rfl rfl (Nat.le_of_ble_eq_true rfl) dL_law_1278 (fun H locs I => ?_)
  refine lv_icmp_eq (tgt := 1535) X.1 X.2.1 dL_law_1281 (by decide) (fun _ => ?_) (fun q => absurd rfl q)
  exact kk cells slots M2 _ _ ls (by omega) (by omega) I hl hS
set_option maxHeartbeats 4000000 in
set_option maxRecDepth 100000 in
theorem lw_case_31 {p : Program} {l : Launch} {e : Env} {s : State} {m : MethodId} {below : List Frame} {meth : Method} {c : Code} {D : va_G} {dA : Nat → ClassId} {b L : Nat} {xs : Nat → Int32} (hst : l.stackTraces = false) (hL : L ≤ 3072) (X : mm_C D dA s.heap.size cL_law RL 7 p s m #[Value.ref b] c) (XN : mm_XN s.heap.size s s.heap) (hX : va_X b L xs s s.heap) (hbl : b < s.heap.size) {n ax am ao : Nat} {Sim : Nat → mm_M → Prop} (h_spell : lw_s_spell n ax am Sim) {t cells slots : Nat} {M : mm_M} {H : Heap} {locs : List Loc} {ls : Array Slot} (ht : 6 * t + 6 ≤ L) (hc : cells ≤ 3495 + t) (hs : slots ≤ 65634 + 6 * t) (I : mm_I D dA s.heap.size s M H locs) (hl : lv_has ls 7 [(0, .ref b), (1, .ref ax), (2, .ref am), (3, .ref ao), (4, .int (nI (6 * t)))]) (hS : Sim t M) (kk : ∀ (cells slots : Nat) (M : mm_M) (H : Heap) (locs : List Loc) (ls : Array Slot), cells ≤ 3495 + t + 1 → slots ≤ 65634 + 6 * t + 6 → mm_I D dA s.heap.size s M H locs → lv_has ls 7 [(0, .ref b), (1, .ref ax), (2, .ref am), (3, .ref ao), (4, .int (nI (6 * t)))] → Sim (t + 1) M → W p l e room_1 s m #[Value.ref b] below meth c H locs cells slots (lw_Z below #[Value.ref b] s) (F0 m 1535 ls [])) : W p l e room_1 s m #[Value.ref b] below meth c H locs cells slots (lw_Z below #[Value.ref b] s) (F0 m 1286 ls []) := by
  have hbA : ¬ mm_fr s.heap.size b := Nat.not_le.mpr hbl
  have i1 : vp_in (nI (6 * t) + 1) L := by rw [show nI (6 * t) + 1 = nI (6 * t + 1) from lw_ix _ 1]; exact vp_in_nI (by omega) (by omega)
  have i2 : vp_in (nI (6 * t) + 2) L := by rw [show nI (6 * t) + 2 = nI (6 * t + 2) from lw_ix _ 2]; exact vp_in_nI (by omega) (by omega)
  have i3 : vp_in (nI (6 * t) + 3) L := by rw [show nI (6 * t) + 3 = nI (6 * t + 3) from lw_ix _ 3]; exact vp_in_nI (by omega) (by omega)
  have i4 : vp_in (nI (6 * t) + 4) L := by rw [show nI (6 * t) + 4 = nI (6 * t + 4) from lw_ix _ 4]; exact vp_in_nI (by omega) (by omega)
  have i5 : vp_in (nI (6 * t) + 5) L := by rw [show nI (6 * t) + 5 = nI (6 * t + 5) from lw_ix _ 5]; exact vp_in_nI (by omega) (by omega)
  obtain ⟨r, M1, M2, h1, h2, hS⟩ := h_spell t M (by omega) hS (xs (nI (6 * t) + 1).toNatClampNeg) (xs (nI (6 * t) + 2).toNatClampNeg)
  refine lv_aload_n X.1 X.2.1 dL_law_1286 rfl (lv_at hl 1 rfl) ?_
  refine lv_aload_n X.1 X.2.1 dL_law_1287 rfl (lv_at hl 0 rfl) ?_
  refine lv_iload X.1 X.2.1 dL_law_1288 (lv_at hl 4 rfl) ?_
  refine lv_iconst (v := 1) X.1 X.2.1 dL_law_1290 (by decide) ?_
  refine lv_iadd X.1 X.2.1 dL_law_1291 ?_
  refine va_sld X.1 X.2.1 hX hbl hbA I.2 i1 dL_law_1292 ?_
  refine lv_aload_n X.1 X.2.1 dL_law_1293 rfl (lv_at hl 0 rfl) ?_
  refine lv_iload X.1 X.2.1 dL_law_1294 (lv_at hl 4 rfl) ?_
  refine lv_iconst (v := 2) X.1 X.2.1 dL_law_1296 (by decide) ?_
  refine lv_iadd X.1 X.2.1 dL_law_1297 ?_
  refine va_sld X.1 X.2.1 hX hbl hbA I.2 i2 dL_law_1298 ?_
  refine mm_cVe X I hl (As := [.int (xs (nI (6 * t) + 1).toNatClampNeg), .int (xs (nI (6 * t) + 2).toNatClampNeg)]) (ci := 9) md_X9_spell mv_X9_spell ml_L_157 rfl h1 (kX9_spell (n := n)) (by decide) ⟨show cells ≤ 601024 by omega, show slots ≤ 7293034 by omega⟩ rfl rfl (Nat.le_of_ble_eq_true rfl) dL_law_1299 (fun H locs I => ?_)
  refine lv_aload_n X.1 X.2.1 dL_law_1302 rfl (lv_at hl 2 rfl) ?_
  refine lv_aload_n X.1 X.2.1 dL_law_1303 rfl (lv_at hl 0 rfl) ?_
  refine lv_iload X.1 X.2.1 dL_law_1304 (lv_at hl 4 rfl) ?_
  refine lv_iconst (v := 1) X.1 X.2.1 dL_law_1306 (by decide) ?_
  refine lv_iadd X.1 X.2.1 dL_law_1307 ?_
  refine va_sld X.1 X.2.1 hX hbl hbA I.2 i1 dL_law_1308 ?_
  refine lv_aload_n X.1 X.2.1 dL_law_1309 rfl (lv_at hl 0 rfl) ?_
  refine lv_iload X.1 X.2.1 dL_law_1310 (lv_at hl 4 rfl) ?_
  refine lv_iconst (v := 2) X.1 X.2.1 dL_law_1312 (by decide) ?_
  refine lv_iadd X.1 X.2.1 dL_law_1313 ?_
  refine va_sld X.1 X.2.1 hX hbl hbA I.2 i2 dL_law_1314 ?_
  refine mm_cVe X I hl (As := [.int (xs (nI (6 * t) + 1).toNatClampNeg), .int (xs (nI (6 * t) + 2).toNatClampNeg)]) (ci := 10) md_X10_spell mv_X10_spell ml_L_160 rfl h2 (kX10_spell (n := n)) (by decide) ⟨show cells ≤ 601024 by omega, show slots ≤ 7293034 by omega⟩ rfl rfl (Nat.le_of_ble_eq_true rfl) dL_law_1315 (fun H locs I => ?_)
  refine lv_icmp_eq (tgt := 1535) X.1 X.2.1 dL_law_1318 (by decide) (fun _ => ?_) (fun q => absurd rfl q)
  exact kk cells slots M2 _ _ ls (by omega) (by omega) I hl hS
set_option maxHeartbeats 4000000 in
set_option maxRecDepth 100000 in
theorem lw_case_32 {p : Program} {l : Launch} {e : Env} {s : State} {m : MethodId} {below : List Frame} {meth : Method} {c : Code} {D : va_G} {dA : Nat → ClassId} {b L : Nat} {xs : Nat → Int32} (hst : l.stackTraces = false) (hL : L ≤ 3072) (X : mm_C D dA s.heap.size cL_law RL 7 p s m #[Value.ref b] c) (XN : mm_XN s.heap.size s s.heap) (hX : va_X b L xs s s.heap) (hbl : b < s.heap.size) {n ax am ao : Nat} {Sim : Nat → mm_M → Prop} (h_would : lw_s_would n ax am Sim) {t cells slots : Nat} {M : mm_M} {H : Heap} {locs : List Loc} {ls : Array Slot} (ht : 6 * t + 6 ≤ L) (hc : cells ≤ 3495 + t) (hs : slots ≤ 65634 + 6 * t) (I : mm_I D dA s.heap.size s M H locs) (hl : lv_has ls 7 [(0, .ref b), (1, .ref ax), (2, .ref am), (3, .ref ao), (4, .int (nI (6 * t)))]) (hS : Sim t M) (kk : ∀ (cells slots : Nat) (M : mm_M) (H : Heap) (locs : List Loc) (ls : Array Slot), cells ≤ 3495 + t + 1 → slots ≤ 65634 + 6 * t + 6 → mm_I D dA s.heap.size s M H locs → lv_has ls 7 [(0, .ref b), (1, .ref ax), (2, .ref am), (3, .ref ao), (4, .int (nI (6 * t)))] → Sim (t + 1) M → W p l e room_1 s m #[Value.ref b] below meth c H locs cells slots (lw_Z below #[Value.ref b] s) (F0 m 1535 ls [])) : W p l e room_1 s m #[Value.ref b] below meth c H locs cells slots (lw_Z below #[Value.ref b] s) (F0 m 1323 ls []) := by
  have hbA : ¬ mm_fr s.heap.size b := Nat.not_le.mpr hbl
  have i1 : vp_in (nI (6 * t) + 1) L := by rw [show nI (6 * t) + 1 = nI (6 * t + 1) from lw_ix _ 1]; exact vp_in_nI (by omega) (by omega)
  have i2 : vp_in (nI (6 * t) + 2) L := by rw [show nI (6 * t) + 2 = nI (6 * t + 2) from lw_ix _ 2]; exact vp_in_nI (by omega) (by omega)
  have i3 : vp_in (nI (6 * t) + 3) L := by rw [show nI (6 * t) + 3 = nI (6 * t + 3) from lw_ix _ 3]; exact vp_in_nI (by omega) (by omega)
  have i4 : vp_in (nI (6 * t) + 4) L := by rw [show nI (6 * t) + 4 = nI (6 * t + 4) from lw_ix _ 4]; exact vp_in_nI (by omega) (by omega)
  have i5 : vp_in (nI (6 * t) + 5) L := by rw [show nI (6 * t) + 5 = nI (6 * t + 5) from lw_ix _ 5]; exact vp_in_nI (by omega) (by omega)
  obtain ⟨r, M1, M2, h1, h2, hS⟩ := h_would t M (by omega) hS (xs (nI (6 * t) + 1).toNatClampNeg)
  refine lv_aload_n X.1 X.2.1 dL_law_1323 rfl (lv_at hl 1 rfl) ?_
  refine lv_aload_n X.1 X.2.1 dL_law_1324 rfl (lv_at hl 0 rfl) ?_
  refine lv_iload X.1 X.2.1 dL_law_1325 (lv_at hl 4 rfl) ?_
  refine lv_iconst (v := 1) X.1 X.2.1 dL_law_1327 (by decide) ?_
  refine lv_iadd X.1 X.2.1 dL_law_1328 ?_
  refine va_sld X.1 X.2.1 hX hbl hbA I.2 i1 dL_law_1329 ?_
  refine mm_cVe X I hl (As := [.int (xs (nI (6 * t) + 1).toNatClampNeg)]) (ci := 9) md_X9_would mv_X9_would ml_L_161 rfl h1 (kX9_would (n := n)) (by decide) ⟨show cells ≤ 601024 by omega, show slots ≤ 7293034 by omega⟩ rfl rfl (Nat.le_of_ble_eq_true rfl) dL_law_1330 (fun H locs I => ?_)
  refine lv_aload_n X.1 X.2.1 dL_law_1333 rfl (lv_at hl 2 rfl) ?_
  refine lv_aload_n X.1 X.2.1 dL_law_1334 rfl (lv_at hl 0 rfl) ?_
  refine lv_iload X.1 X.2.1 dL_law_1335 (lv_at hl 4 rfl) ?_
  refine lv_iconst (v := 1) X.1 X.2.1 dL_law_1337 (by decide) ?_
  refine lv_iadd X.1 X.2.1 dL_law_1338 ?_
  refine va_sld X.1 X.2.1 hX hbl hbA I.2 i1 dL_law_1339 ?_
  refine mm_cVe X I hl (As := [.int (xs (nI (6 * t) + 1).toNatClampNeg)]) (ci := 10) md_X10_would mv_X10_would ml_L_164 rfl h2 (kX10_would (n := n)) (by decide) ⟨show cells ≤ 601024 by omega, show slots ≤ 7293034 by omega⟩ rfl rfl (Nat.le_of_ble_eq_true rfl) dL_law_1340 (fun H locs I => ?_)
  refine lv_icmp_eq (tgt := 1535) X.1 X.2.1 dL_law_1343 (by decide) (fun _ => ?_) (fun q => absurd rfl q)
  exact kk cells slots M2 _ _ ls (by omega) (by omega) I hl hS
set_option maxHeartbeats 4000000 in
set_option maxRecDepth 100000 in
theorem lw_case_33 {p : Program} {l : Launch} {e : Env} {s : State} {m : MethodId} {below : List Frame} {meth : Method} {c : Code} {D : va_G} {dA : Nat → ClassId} {b L : Nat} {xs : Nat → Int32} (hst : l.stackTraces = false) (hL : L ≤ 3072) (X : mm_C D dA s.heap.size cL_law RL 7 p s m #[Value.ref b] c) (XN : mm_XN s.heap.size s s.heap) (hX : va_X b L xs s s.heap) (hbl : b < s.heap.size) {n ax am ao : Nat} {Sim : Nat → mm_M → Prop} (h_step : lw_s_step n ax am Sim) {t cells slots : Nat} {M : mm_M} {H : Heap} {locs : List Loc} {ls : Array Slot} (ht : 6 * t + 6 ≤ L) (hc : cells ≤ 3495 + t) (hs : slots ≤ 65634 + 6 * t) (I : mm_I D dA s.heap.size s M H locs) (hl : lv_has ls 7 [(0, .ref b), (1, .ref ax), (2, .ref am), (3, .ref ao), (4, .int (nI (6 * t)))]) (hS : Sim t M) (kk : ∀ (cells slots : Nat) (M : mm_M) (H : Heap) (locs : List Loc) (ls : Array Slot), cells ≤ 3495 + t + 1 → slots ≤ 65634 + 6 * t + 6 → mm_I D dA s.heap.size s M H locs → lv_has ls 7 [(0, .ref b), (1, .ref ax), (2, .ref am), (3, .ref ao), (4, .int (nI (6 * t)))] → Sim (t + 1) M → W p l e room_1 s m #[Value.ref b] below meth c H locs cells slots (lw_Z below #[Value.ref b] s) (F0 m 1535 ls [])) : W p l e room_1 s m #[Value.ref b] below meth c H locs cells slots (lw_Z below #[Value.ref b] s) (F0 m 1348 ls []) := by
  have hbA : ¬ mm_fr s.heap.size b := Nat.not_le.mpr hbl
  have i1 : vp_in (nI (6 * t) + 1) L := by rw [show nI (6 * t) + 1 = nI (6 * t + 1) from lw_ix _ 1]; exact vp_in_nI (by omega) (by omega)
  have i2 : vp_in (nI (6 * t) + 2) L := by rw [show nI (6 * t) + 2 = nI (6 * t + 2) from lw_ix _ 2]; exact vp_in_nI (by omega) (by omega)
  have i3 : vp_in (nI (6 * t) + 3) L := by rw [show nI (6 * t) + 3 = nI (6 * t + 3) from lw_ix _ 3]; exact vp_in_nI (by omega) (by omega)
  have i4 : vp_in (nI (6 * t) + 4) L := by rw [show nI (6 * t) + 4 = nI (6 * t + 4) from lw_ix _ 4]; exact vp_in_nI (by omega) (by omega)
  have i5 : vp_in (nI (6 * t) + 5) L := by rw [show nI (6 * t) + 5 = nI (6 * t + 5) from lw_ix _ 5]; exact vp_in_nI (by omega) (by omega)
  obtain ⟨r, M1, M2, h1, h2, hS⟩ := h_step t M (by omega) hS (xs (nI (6 * t) + 1).toNatClampNeg) (xs (nI (6 * t) + 2).toNatClampNeg) (xs (nI (6 * t) + 3).toNatClampNeg)
  refine lv_aload_n X.1 X.2.1 dL_law_1348 rfl (lv_at hl 1 rfl) ?_
  refine lv_aload_n X.1 X.2.1 dL_law_1349 rfl (lv_at hl 0 rfl) ?_
  refine lv_iload X.1 X.2.1 dL_law_1350 (lv_at hl 4 rfl) ?_
  refine lv_iconst (v := 1) X.1 X.2.1 dL_law_1352 (by decide) ?_
  refine lv_iadd X.1 X.2.1 dL_law_1353 ?_
  refine va_sld X.1 X.2.1 hX hbl hbA I.2 i1 dL_law_1354 ?_
  refine lv_aload_n X.1 X.2.1 dL_law_1355 rfl (lv_at hl 0 rfl) ?_
  refine lv_iload X.1 X.2.1 dL_law_1356 (lv_at hl 4 rfl) ?_
  refine lv_iconst (v := 2) X.1 X.2.1 dL_law_1358 (by decide) ?_
  refine lv_iadd X.1 X.2.1 dL_law_1359 ?_
  refine va_sld X.1 X.2.1 hX hbl hbA I.2 i2 dL_law_1360 ?_
  refine lv_aload_n X.1 X.2.1 dL_law_1361 rfl (lv_at hl 0 rfl) ?_
  refine lv_iload X.1 X.2.1 dL_law_1362 (lv_at hl 4 rfl) ?_
  refine lv_iconst (v := 3) X.1 X.2.1 dL_law_1364 (by decide) ?_
  refine lv_iadd X.1 X.2.1 dL_law_1365 ?_
  refine va_sld X.1 X.2.1 hX hbl hbA I.2 i3 dL_law_1366 ?_
  refine mm_cVe X I hl (As := [.int (xs (nI (6 * t) + 1).toNatClampNeg), .int (xs (nI (6 * t) + 2).toNatClampNeg), .int (xs (nI (6 * t) + 3).toNatClampNeg)]) (ci := 9) md_X9_step mv_X9_step ml_L_165 rfl h1 (kX9_step (n := n)) (by decide) ⟨show cells ≤ 601024 by omega, show slots ≤ 7293034 by omega⟩ rfl rfl (Nat.le_of_ble_eq_true rfl) dL_law_1367 (fun H locs I => ?_)
  refine lv_aload_n X.1 X.2.1 dL_law_1370 rfl (lv_at hl 2 rfl) ?_
  refine lv_aload_n X.1 X.2.1 dL_law_1371 rfl (lv_at hl 0 rfl) ?_
  refine lv_iload X.1 X.2.1 dL_law_1372 (lv_at hl 4 rfl) ?_
  refine lv_iconst (v := 1) X.1 X.2.1 dL_law_1374 (by decide) ?_
  refine lv_iadd X.1 X.2.1 dL_law_1375 ?_
  refine va_sld X.1 X.2.1 hX hbl hbA I.2 i1 dL_law_1376 ?_
  refine lv_aload_n X.1 X.2.1 dL_law_1377 rfl (lv_at hl 0 rfl) ?_
  refine lv_iload X.1 X.2.1 dL_law_1378 (lv_at hl 4 rfl) ?_
  refine lv_iconst (v := 2) X.1 X.2.1 dL_law_1380 (by decide) ?_
  refine lv_iadd X.1 X.2.1 dL_law_1381 ?_
  refine va_sld X.1 X.2.1 hX hbl hbA I.2 i2 dL_law_1382 ?_
  refine lv_aload_n X.1 X.2.1 dL_law_1383 rfl (lv_at hl 0 rfl) ?_
  refine lv_iload X.1 X.2.1 dL_law_1384 (lv_at hl 4 rfl) ?_
  refine lv_iconst (v := 3) X.1 X.2.1 dL_law_1386 (by decide) ?_
  refine lv_iadd X.1 X.2.1 dL_law_1387 ?_
  refine va_sld X.1 X.2.1 hX hbl hbA I.2 i3 dL_law_1388 ?_
  refine mm_cVe X I hl (As := [.int (xs (nI (6 * t) + 1).toNatClampNeg), .int (xs (nI (6 * t) + 2).toNatClampNeg), .int (xs (nI (6 * t) + 3).toNatClampNeg)]) (ci := 10) md_X10_step mv_X10_step ml_L_168 rfl h2 (kX10_step (n := n)) (by decide) ⟨show cells ≤ 601024 by omega, show slots ≤ 7293034 by omega⟩ rfl rfl (Nat.le_of_ble_eq_true rfl) dL_law_1389 (fun H locs I => ?_)
  refine lv_icmp_eq (tgt := 1535) X.1 X.2.1 dL_law_1392 (by decide) (fun _ => ?_) (fun q => absurd rfl q)
  exact kk cells slots M2 _ _ ls (by omega) (by omega) I hl hS
set_option maxHeartbeats 4000000 in
set_option maxRecDepth 100000 in
theorem lw_case_34 {p : Program} {l : Launch} {e : Env} {s : State} {m : MethodId} {below : List Frame} {meth : Method} {c : Code} {D : va_G} {dA : Nat → ClassId} {b L : Nat} {xs : Nat → Int32} (hst : l.stackTraces = false) (hL : L ≤ 3072) (X : mm_C D dA s.heap.size cL_law RL 7 p s m #[Value.ref b] c) (XN : mm_XN s.heap.size s s.heap) (hX : va_X b L xs s s.heap) (hbl : b < s.heap.size) {n ax am ao : Nat} {Sim : Nat → mm_M → Prop} (h_run : lw_s_run n ax am Sim) {t cells slots : Nat} {M : mm_M} {H : Heap} {locs : List Loc} {ls : Array Slot} (ht : 6 * t + 6 ≤ L) (hc : cells ≤ 3495 + t) (hs : slots ≤ 65634 + 6 * t) (I : mm_I D dA s.heap.size s M H locs) (hl : lv_has ls 7 [(0, .ref b), (1, .ref ax), (2, .ref am), (3, .ref ao), (4, .int (nI (6 * t)))]) (hS : Sim t M) (kk : ∀ (cells slots : Nat) (M : mm_M) (H : Heap) (locs : List Loc) (ls : Array Slot), cells ≤ 3495 + t + 1 → slots ≤ 65634 + 6 * t + 6 → mm_I D dA s.heap.size s M H locs → lv_has ls 7 [(0, .ref b), (1, .ref ax), (2, .ref am), (3, .ref ao), (4, .int (nI (6 * t)))] → Sim (t + 1) M → W p l e room_1 s m #[Value.ref b] below meth c H locs cells slots (lw_Z below #[Value.ref b] s) (F0 m 1535 ls [])) : W p l e room_1 s m #[Value.ref b] below meth c H locs cells slots (lw_Z below #[Value.ref b] s) (F0 m 1397 ls []) := by
  have hbA : ¬ mm_fr s.heap.size b := Nat.not_le.mpr hbl
  have i1 : vp_in (nI (6 * t) + 1) L := by rw [show nI (6 * t) + 1 = nI (6 * t + 1) from lw_ix _ 1]; exact vp_in_nI (by omega) (by omega)
  have i2 : vp_in (nI (6 * t) + 2) L := by rw [show nI (6 * t) + 2 = nI (6 * t + 2) from lw_ix _ 2]; exact vp_in_nI (by omega) (by omega)
  have i3 : vp_in (nI (6 * t) + 3) L := by rw [show nI (6 * t) + 3 = nI (6 * t + 3) from lw_ix _ 3]; exact vp_in_nI (by omega) (by omega)
  have i4 : vp_in (nI (6 * t) + 4) L := by rw [show nI (6 * t) + 4 = nI (6 * t + 4) from lw_ix _ 4]; exact vp_in_nI (by omega) (by omega)
  have i5 : vp_in (nI (6 * t) + 5) L := by rw [show nI (6 * t) + 5 = nI (6 * t + 5) from lw_ix _ 5]; exact vp_in_nI (by omega) (by omega)
  obtain ⟨r, M1, M2, h1, h2, hS⟩ := h_run t M (by omega) hS (xs (nI (6 * t) + 1).toNatClampNeg) (xs (nI (6 * t) + 2).toNatClampNeg)
  refine lv_aload_n X.1 X.2.1 dL_law_1397 rfl (lv_at hl 1 rfl) ?_
  refine lv_aload_n X.1 X.2.1 dL_law_1398 rfl (lv_at hl 0 rfl) ?_
  refine lv_iload X.1 X.2.1 dL_law_1399 (lv_at hl 4 rfl) ?_
  refine lv_iconst (v := 1) X.1 X.2.1 dL_law_1401 (by decide) ?_
  refine lv_iadd X.1 X.2.1 dL_law_1402 ?_
  refine va_sld X.1 X.2.1 hX hbl hbA I.2 i1 dL_law_1403 ?_
  refine lv_aload_n X.1 X.2.1 dL_law_1404 rfl (lv_at hl 0 rfl) ?_
  refine lv_iload X.1 X.2.1 dL_law_1405 (lv_at hl 4 rfl) ?_
  refine lv_iconst (v := 2) X.1 X.2.1 dL_law_1407 (by decide) ?_
  refine lv_iadd X.1 X.2.1 dL_law_1408 ?_
  refine va_sld X.1 X.2.1 hX hbl hbA I.2 i2 dL_law_1409 ?_
  refine mm_cVe X I hl (As := [.int (xs (nI (6 * t) + 1).toNatClampNeg), .int (xs (nI (6 * t) + 2).toNatClampNeg)]) (ci := 9) md_X9_run mv_X9_run ml_L_169 rfl h1 (kX9_run (n := n)) (by decide) ⟨show cells ≤ 601024 by omega, show slots ≤ 7293034 by omega⟩ rfl rfl (Nat.le_of_ble_eq_true rfl) dL_law_1410 (fun H locs I => ?_)
  refine lv_aload_n X.1 X.2.1 dL_law_1413 rfl (lv_at hl 2 rfl) ?_
  refine lv_aload_n X.1 X.2.1 dL_law_1414 rfl (lv_at hl 0 rfl) ?_
  refine lv_iload X.1 X.2.1 dL_law_1415 (lv_at hl 4 rfl) ?_
  refine lv_iconst (v := 1) X.1 X.2.1 dL_law_1417 (by decide) ?_
  refine lv_iadd X.1 X.2.1 dL_law_1418 ?_
  refine va_sld X.1 X.2.1 hX hbl hbA I.2 i1 dL_law_1419 ?_
  refine lv_aload_n X.1 X.2.1 dL_law_1420 rfl (lv_at hl 0 rfl) ?_
  refine lv_iload X.1 X.2.1 dL_law_1421 (lv_at hl 4 rfl) ?_
  refine lv_iconst (v := 2) X.1 X.2.1 dL_law_1423 (by decide) ?_
  refine lv_iadd X.1 X.2.1 dL_law_1424 ?_
  refine va_sld X.1 X.2.1 hX hbl hbA I.2 i2 dL_law_1425 ?_
  refine mm_cVe X I hl (As := [.int (xs (nI (6 * t) + 1).toNatClampNeg), .int (xs (nI (6 * t) + 2).toNatClampNeg)]) (ci := 10) md_X10_run mv_X10_run ml_L_172 rfl h2 (kX10_run (n := n)) (by decide) ⟨show cells ≤ 601024 by omega, show slots ≤ 7293034 by omega⟩ rfl rfl (Nat.le_of_ble_eq_true rfl) dL_law_1426 (fun H locs I => ?_)
  refine lv_icmp_eq (tgt := 1535) X.1 X.2.1 dL_law_1429 (by decide) (fun _ => ?_) (fun q => absurd rfl q)
  exact kk cells slots M2 _ _ ls (by omega) (by omega) I hl hS
set_option maxHeartbeats 4000000 in
set_option maxRecDepth 100000 in
theorem lw_case_35 {p : Program} {l : Launch} {e : Env} {s : State} {m : MethodId} {below : List Frame} {meth : Method} {c : Code} {D : va_G} {dA : Nat → ClassId} {b L : Nat} {xs : Nat → Int32} (hst : l.stackTraces = false) (hL : L ≤ 3072) (X : mm_C D dA s.heap.size cL_law RL 7 p s m #[Value.ref b] c) (XN : mm_XN s.heap.size s s.heap) (hX : va_X b L xs s s.heap) (hbl : b < s.heap.size) {n ax am ao : Nat} {Sim : Nat → mm_M → Prop} (h_perform : lw_s_perform n ax am Sim) {t cells slots : Nat} {M : mm_M} {H : Heap} {locs : List Loc} {ls : Array Slot} (ht : 6 * t + 6 ≤ L) (hc : cells ≤ 3495 + t) (hs : slots ≤ 65634 + 6 * t) (I : mm_I D dA s.heap.size s M H locs) (hl : lv_has ls 7 [(0, .ref b), (1, .ref ax), (2, .ref am), (3, .ref ao), (4, .int (nI (6 * t)))]) (hS : Sim t M) (kk : ∀ (cells slots : Nat) (M : mm_M) (H : Heap) (locs : List Loc) (ls : Array Slot), cells ≤ 3495 + t + 1 → slots ≤ 65634 + 6 * t + 6 → mm_I D dA s.heap.size s M H locs → lv_has ls 7 [(0, .ref b), (1, .ref ax), (2, .ref am), (3, .ref ao), (4, .int (nI (6 * t)))] → Sim (t + 1) M → W p l e room_1 s m #[Value.ref b] below meth c H locs cells slots (lw_Z below #[Value.ref b] s) (F0 m 1535 ls [])) : W p l e room_1 s m #[Value.ref b] below meth c H locs cells slots (lw_Z below #[Value.ref b] s) (F0 m 1434 ls []) := by
  have hbA : ¬ mm_fr s.heap.size b := Nat.not_le.mpr hbl
  have i1 : vp_in (nI (6 * t) + 1) L := by rw [show nI (6 * t) + 1 = nI (6 * t + 1) from lw_ix _ 1]; exact vp_in_nI (by omega) (by omega)
  have i2 : vp_in (nI (6 * t) + 2) L := by rw [show nI (6 * t) + 2 = nI (6 * t + 2) from lw_ix _ 2]; exact vp_in_nI (by omega) (by omega)
  have i3 : vp_in (nI (6 * t) + 3) L := by rw [show nI (6 * t) + 3 = nI (6 * t + 3) from lw_ix _ 3]; exact vp_in_nI (by omega) (by omega)
  have i4 : vp_in (nI (6 * t) + 4) L := by rw [show nI (6 * t) + 4 = nI (6 * t + 4) from lw_ix _ 4]; exact vp_in_nI (by omega) (by omega)
  have i5 : vp_in (nI (6 * t) + 5) L := by rw [show nI (6 * t) + 5 = nI (6 * t + 5) from lw_ix _ 5]; exact vp_in_nI (by omega) (by omega)
  obtain ⟨r, M1, M2, h1, h2, hS⟩ := h_perform t M (by omega) hS (xs (nI (6 * t) + 1).toNatClampNeg)
  refine lv_aload_n X.1 X.2.1 dL_law_1434 rfl (lv_at hl 1 rfl) ?_
  refine lv_aload_n X.1 X.2.1 dL_law_1435 rfl (lv_at hl 0 rfl) ?_
  refine lv_iload X.1 X.2.1 dL_law_1436 (lv_at hl 4 rfl) ?_
  refine lv_iconst (v := 1) X.1 X.2.1 dL_law_1438 (by decide) ?_
  refine lv_iadd X.1 X.2.1 dL_law_1439 ?_
  refine va_sld X.1 X.2.1 hX hbl hbA I.2 i1 dL_law_1440 ?_
  refine mm_cVe X I hl (As := [.int (xs (nI (6 * t) + 1).toNatClampNeg)]) (ci := 9) md_X9_perform mv_X9_perform ml_L_173 rfl h1 (kX9_perform (n := n)) (by decide) ⟨show cells ≤ 601024 by omega, show slots ≤ 7293034 by omega⟩ rfl rfl (Nat.le_of_ble_eq_true rfl) dL_law_1441 (fun H locs I => ?_)
  refine lv_aload_n X.1 X.2.1 dL_law_1444 rfl (lv_at hl 2 rfl) ?_
  refine lv_aload_n X.1 X.2.1 dL_law_1445 rfl (lv_at hl 0 rfl) ?_
  refine lv_iload X.1 X.2.1 dL_law_1446 (lv_at hl 4 rfl) ?_
  refine lv_iconst (v := 1) X.1 X.2.1 dL_law_1448 (by decide) ?_
  refine lv_iadd X.1 X.2.1 dL_law_1449 ?_
  refine va_sld X.1 X.2.1 hX hbl hbA I.2 i1 dL_law_1450 ?_
  refine mm_cVe X I hl (As := [.int (xs (nI (6 * t) + 1).toNatClampNeg)]) (ci := 10) md_X10_perform mv_X10_perform ml_L_176 rfl h2 (kX10_perform (n := n)) (by decide) ⟨show cells ≤ 601024 by omega, show slots ≤ 7293034 by omega⟩ rfl rfl (Nat.le_of_ble_eq_true rfl) dL_law_1451 (fun H locs I => ?_)
  refine lv_icmp_eq (tgt := 1535) X.1 X.2.1 dL_law_1454 (by decide) (fun _ => ?_) (fun q => absurd rfl q)
  exact kk cells slots M2 _ _ ls (by omega) (by omega) I hl hS
set_option maxHeartbeats 4000000 in
set_option maxRecDepth 100000 in
theorem lw_case_36 {p : Program} {l : Launch} {e : Env} {s : State} {m : MethodId} {below : List Frame} {meth : Method} {c : Code} {D : va_G} {dA : Nat → ClassId} {b L : Nat} {xs : Nat → Int32} (hst : l.stackTraces = false) (hL : L ≤ 3072) (X : mm_C D dA s.heap.size cL_law RL 7 p s m #[Value.ref b] c) (XN : mm_XN s.heap.size s s.heap) (hX : va_X b L xs s s.heap) (hbl : b < s.heap.size) {n ax am ao : Nat} {Sim : Nat → mm_M → Prop} (h_most : lw_s_most n ax am Sim) {t cells slots : Nat} {M : mm_M} {H : Heap} {locs : List Loc} {ls : Array Slot} (ht : 6 * t + 6 ≤ L) (hc : cells ≤ 3495 + t) (hs : slots ≤ 65634 + 6 * t) (I : mm_I D dA s.heap.size s M H locs) (hl : lv_has ls 7 [(0, .ref b), (1, .ref ax), (2, .ref am), (3, .ref ao), (4, .int (nI (6 * t)))]) (hS : Sim t M) (kk : ∀ (cells slots : Nat) (M : mm_M) (H : Heap) (locs : List Loc) (ls : Array Slot), cells ≤ 3495 + t + 1 → slots ≤ 65634 + 6 * t + 6 → mm_I D dA s.heap.size s M H locs → lv_has ls 7 [(0, .ref b), (1, .ref ax), (2, .ref am), (3, .ref ao), (4, .int (nI (6 * t)))] → Sim (t + 1) M → W p l e room_1 s m #[Value.ref b] below meth c H locs cells slots (lw_Z below #[Value.ref b] s) (F0 m 1535 ls [])) : W p l e room_1 s m #[Value.ref b] below meth c H locs cells slots (lw_Z below #[Value.ref b] s) (F0 m 1459 ls []) := by
  have hbA : ¬ mm_fr s.heap.size b := Nat.not_le.mpr hbl
  have i1 : vp_in (nI (6 * t) + 1) L := by rw [show nI (6 * t) + 1 = nI (6 * t + 1) from lw_ix _ 1]; exact vp_in_nI (by omega) (by omega)
  have i2 : vp_in (nI (6 * t) + 2) L := by rw [show nI (6 * t) + 2 = nI (6 * t + 2) from lw_ix _ 2]; exact vp_in_nI (by omega) (by omega)
  have i3 : vp_in (nI (6 * t) + 3) L := by rw [show nI (6 * t) + 3 = nI (6 * t + 3) from lw_ix _ 3]; exact vp_in_nI (by omega) (by omega)
  have i4 : vp_in (nI (6 * t) + 4) L := by rw [show nI (6 * t) + 4 = nI (6 * t + 4) from lw_ix _ 4]; exact vp_in_nI (by omega) (by omega)
  have i5 : vp_in (nI (6 * t) + 5) L := by rw [show nI (6 * t) + 5 = nI (6 * t + 5) from lw_ix _ 5]; exact vp_in_nI (by omega) (by omega)
  obtain ⟨r, M1, M2, h1, h2, hS⟩ := h_most t M (by omega) hS (xs (nI (6 * t) + 1).toNatClampNeg)
  refine lv_aload_n X.1 X.2.1 dL_law_1459 rfl (lv_at hl 1 rfl) ?_
  refine lv_aload_n X.1 X.2.1 dL_law_1460 rfl (lv_at hl 0 rfl) ?_
  refine lv_iload X.1 X.2.1 dL_law_1461 (lv_at hl 4 rfl) ?_
  refine lv_iconst (v := 1) X.1 X.2.1 dL_law_1463 (by decide) ?_
  refine lv_iadd X.1 X.2.1 dL_law_1464 ?_
  refine va_sld X.1 X.2.1 hX hbl hbA I.2 i1 dL_law_1465 ?_
  refine mm_cVe X I hl (As := [.int (xs (nI (6 * t) + 1).toNatClampNeg)]) (ci := 9) md_X9_most mv_X9_most ml_L_177 rfl h1 (kX9_most (n := n)) (by decide) ⟨show cells ≤ 601024 by omega, show slots ≤ 7293034 by omega⟩ rfl rfl (Nat.le_of_ble_eq_true rfl) dL_law_1466 (fun H locs I => ?_)
  refine lv_aload_n X.1 X.2.1 dL_law_1469 rfl (lv_at hl 2 rfl) ?_
  refine lv_aload_n X.1 X.2.1 dL_law_1470 rfl (lv_at hl 0 rfl) ?_
  refine lv_iload X.1 X.2.1 dL_law_1471 (lv_at hl 4 rfl) ?_
  refine lv_iconst (v := 1) X.1 X.2.1 dL_law_1473 (by decide) ?_
  refine lv_iadd X.1 X.2.1 dL_law_1474 ?_
  refine va_sld X.1 X.2.1 hX hbl hbA I.2 i1 dL_law_1475 ?_
  refine mm_cVe X I hl (As := [.int (xs (nI (6 * t) + 1).toNatClampNeg)]) (ci := 10) md_X10_most mv_X10_most ml_L_180 rfl h2 (kX10_most (n := n)) (by decide) ⟨show cells ≤ 601024 by omega, show slots ≤ 7293034 by omega⟩ rfl rfl (Nat.le_of_ble_eq_true rfl) dL_law_1476 (fun H locs I => ?_)
  refine lv_icmp_eq (tgt := 1535) X.1 X.2.1 dL_law_1479 (by decide) (fun _ => ?_) (fun q => absurd rfl q)
  exact kk cells slots M2 _ _ ls (by omega) (by omega) I hl hS
set_option maxHeartbeats 4000000 in
set_option maxRecDepth 100000 in
theorem lw_case_37 {p : Program} {l : Launch} {e : Env} {s : State} {m : MethodId} {below : List Frame} {meth : Method} {c : Code} {D : va_G} {dA : Nat → ClassId} {b L : Nat} {xs : Nat → Int32} (hst : l.stackTraces = false) (hL : L ≤ 3072) (X : mm_C D dA s.heap.size cL_law RL 7 p s m #[Value.ref b] c) (XN : mm_XN s.heap.size s s.heap) (hX : va_X b L xs s s.heap) (hbl : b < s.heap.size) {n ax am ao : Nat} {Sim : Nat → mm_M → Prop} (h_image : lw_s_image n ax am Sim) {t cells slots : Nat} {M : mm_M} {H : Heap} {locs : List Loc} {ls : Array Slot} (ht : 6 * t + 6 ≤ L) (hc : cells ≤ 3495 + t) (hs : slots ≤ 65634 + 6 * t) (I : mm_I D dA s.heap.size s M H locs) (hl : lv_has ls 7 [(0, .ref b), (1, .ref ax), (2, .ref am), (3, .ref ao), (4, .int (nI (6 * t)))]) (hS : Sim t M) (kk : ∀ (cells slots : Nat) (M : mm_M) (H : Heap) (locs : List Loc) (ls : Array Slot), cells ≤ 3495 + t + 1 → slots ≤ 65634 + 6 * t + 6 → mm_I D dA s.heap.size s M H locs → lv_has ls 7 [(0, .ref b), (1, .ref ax), (2, .ref am), (3, .ref ao), (4, .int (nI (6 * t)))] → Sim (t + 1) M → W p l e room_1 s m #[Value.ref b] below meth c H locs cells slots (lw_Z below #[Value.ref b] s) (F0 m 1535 ls [])) : W p l e room_1 s m #[Value.ref b] below meth c H locs cells slots (lw_Z below #[Value.ref b] s) (F0 m 1484 ls []) := by
  have hbA : ¬ mm_fr s.heap.size b := Nat.not_le.mpr hbl
  have i1 : vp_in (nI (6 * t) + 1) L := by rw [show nI (6 * t) + 1 = nI (6 * t + 1) from lw_ix _ 1]; exact vp_in_nI (by omega) (by omega)
  have i2 : vp_in (nI (6 * t) + 2) L := by rw [show nI (6 * t) + 2 = nI (6 * t + 2) from lw_ix _ 2]; exact vp_in_nI (by omega) (by omega)
  have i3 : vp_in (nI (6 * t) + 3) L := by rw [show nI (6 * t) + 3 = nI (6 * t + 3) from lw_ix _ 3]; exact vp_in_nI (by omega) (by omega)
  have i4 : vp_in (nI (6 * t) + 4) L := by rw [show nI (6 * t) + 4 = nI (6 * t + 4) from lw_ix _ 4]; exact vp_in_nI (by omega) (by omega)
  have i5 : vp_in (nI (6 * t) + 5) L := by rw [show nI (6 * t) + 5 = nI (6 * t + 5) from lw_ix _ 5]; exact vp_in_nI (by omega) (by omega)
  obtain ⟨r, M1, M2, h1, h2, hS⟩ := h_image t M (by omega) hS ()
  refine lv_aload_n X.1 X.2.1 dL_law_1484 rfl (lv_at hl 1 rfl) ?_
  refine mm_cVe X I hl (As := []) (ci := 9) md_X9_image mv_X9_image ml_L_181 rfl h1 (kX9_image (n := n)) (by decide) ⟨show cells ≤ 601024 by omega, show slots ≤ 7293034 by omega⟩ rfl rfl (Nat.le_of_ble_eq_true rfl) dL_law_1485 (fun H locs I => ?_)
  refine lv_aload_n X.1 X.2.1 dL_law_1488 rfl (lv_at hl 2 rfl) ?_
  refine mm_cVe X I hl (As := []) (ci := 10) md_X10_image mv_X10_image ml_L_184 rfl h2 (kX10_image (n := n)) (by decide) ⟨show cells ≤ 601024 by omega, show slots ≤ 7293034 by omega⟩ rfl rfl (Nat.le_of_ble_eq_true rfl) dL_law_1489 (fun H locs I => ?_)
  refine lv_icmp_eq (tgt := 1535) X.1 X.2.1 dL_law_1492 (by decide) (fun _ => ?_) (fun q => absurd rfl q)
  exact kk cells slots M2 _ _ ls (by omega) (by omega) I hl hS
set_option maxHeartbeats 4000000 in
set_option maxRecDepth 100000 in
theorem lw_case_38 {p : Program} {l : Launch} {e : Env} {s : State} {m : MethodId} {below : List Frame} {meth : Method} {c : Code} {D : va_G} {dA : Nat → ClassId} {b L : Nat} {xs : Nat → Int32} (hst : l.stackTraces = false) (hL : L ≤ 3072) (X : mm_C D dA s.heap.size cL_law RL 7 p s m #[Value.ref b] c) (XN : mm_XN s.heap.size s s.heap) (hX : va_X b L xs s s.heap) (hbl : b < s.heap.size) {n ax am ao : Nat} {Sim : Nat → mm_M → Prop} (h_back : lw_s_back n ax am Sim) {t cells slots : Nat} {M : mm_M} {H : Heap} {locs : List Loc} {ls : Array Slot} (ht : 6 * t + 6 ≤ L) (hc : cells ≤ 3495 + t) (hs : slots ≤ 65634 + 6 * t) (I : mm_I D dA s.heap.size s M H locs) (hl : lv_has ls 7 [(0, .ref b), (1, .ref ax), (2, .ref am), (3, .ref ao), (4, .int (nI (6 * t)))]) (hS : Sim t M) (kk : ∀ (cells slots : Nat) (M : mm_M) (H : Heap) (locs : List Loc) (ls : Array Slot), cells ≤ 3495 + t + 1 → slots ≤ 65634 + 6 * t + 6 → mm_I D dA s.heap.size s M H locs → lv_has ls 7 [(0, .ref b), (1, .ref ax), (2, .ref am), (3, .ref ao), (4, .int (nI (6 * t)))] → Sim (t + 1) M → W p l e room_1 s m #[Value.ref b] below meth c H locs cells slots (lw_Z below #[Value.ref b] s) (F0 m 1535 ls [])) : W p l e room_1 s m #[Value.ref b] below meth c H locs cells slots (lw_Z below #[Value.ref b] s) (F0 m 1497 ls []) := by
  have hbA : ¬ mm_fr s.heap.size b := Nat.not_le.mpr hbl
  have i1 : vp_in (nI (6 * t) + 1) L := by rw [show nI (6 * t) + 1 = nI (6 * t + 1) from lw_ix _ 1]; exact vp_in_nI (by omega) (by omega)
  have i2 : vp_in (nI (6 * t) + 2) L := by rw [show nI (6 * t) + 2 = nI (6 * t + 2) from lw_ix _ 2]; exact vp_in_nI (by omega) (by omega)
  have i3 : vp_in (nI (6 * t) + 3) L := by rw [show nI (6 * t) + 3 = nI (6 * t + 3) from lw_ix _ 3]; exact vp_in_nI (by omega) (by omega)
  have i4 : vp_in (nI (6 * t) + 4) L := by rw [show nI (6 * t) + 4 = nI (6 * t + 4) from lw_ix _ 4]; exact vp_in_nI (by omega) (by omega)
  have i5 : vp_in (nI (6 * t) + 5) L := by rw [show nI (6 * t) + 5 = nI (6 * t + 5) from lw_ix _ 5]; exact vp_in_nI (by omega) (by omega)
  obtain ⟨r, M1, M2, h1, h2, hS⟩ := h_back t M (by omega) hS ()
  refine lv_aload_n X.1 X.2.1 dL_law_1497 rfl (lv_at hl 1 rfl) ?_
  refine mm_cVe X I hl (As := []) (ci := 9) md_X9_back mv_X9_back ml_L_185 rfl h1 (kX9_back (n := n)) (by decide) ⟨show cells ≤ 601024 by omega, show slots ≤ 7293034 by omega⟩ rfl rfl (Nat.le_of_ble_eq_true rfl) dL_law_1498 (fun H locs I => ?_)
  refine lv_aload_n X.1 X.2.1 dL_law_1501 rfl (lv_at hl 2 rfl) ?_
  refine mm_cVe X I hl (As := []) (ci := 10) md_X10_back mv_X10_back ml_L_188 rfl h2 (kX10_back (n := n)) (by decide) ⟨show cells ≤ 601024 by omega, show slots ≤ 7293034 by omega⟩ rfl rfl (Nat.le_of_ble_eq_true rfl) dL_law_1502 (fun H locs I => ?_)
  refine lv_icmp_eq (tgt := 1535) X.1 X.2.1 dL_law_1505 (by decide) (fun _ => ?_) (fun q => absurd rfl q)
  exact kk cells slots M2 _ _ ls (by omega) (by omega) I hl hS
set_option maxHeartbeats 4000000 in
set_option maxRecDepth 100000 in
theorem lw_case_39 {p : Program} {l : Launch} {e : Env} {s : State} {m : MethodId} {below : List Frame} {meth : Method} {c : Code} {D : va_G} {dA : Nat → ClassId} {b L : Nat} {xs : Nat → Int32} (hst : l.stackTraces = false) (hL : L ≤ 3072) (X : mm_C D dA s.heap.size cL_law RL 7 p s m #[Value.ref b] c) (XN : mm_XN s.heap.size s s.heap) (hX : va_X b L xs s s.heap) (hbl : b < s.heap.size) {n ax am ao : Nat} {Sim : Nat → mm_M → Prop} (h_count : lw_s_count n ax am Sim) {t cells slots : Nat} {M : mm_M} {H : Heap} {locs : List Loc} {ls : Array Slot} (ht : 6 * t + 6 ≤ L) (hc : cells ≤ 3495 + t) (hs : slots ≤ 65634 + 6 * t) (I : mm_I D dA s.heap.size s M H locs) (hl : lv_has ls 7 [(0, .ref b), (1, .ref ax), (2, .ref am), (3, .ref ao), (4, .int (nI (6 * t)))]) (hS : Sim t M) (kk : ∀ (cells slots : Nat) (M : mm_M) (H : Heap) (locs : List Loc) (ls : Array Slot), cells ≤ 3495 + t + 1 → slots ≤ 65634 + 6 * t + 6 → mm_I D dA s.heap.size s M H locs → lv_has ls 7 [(0, .ref b), (1, .ref ax), (2, .ref am), (3, .ref ao), (4, .int (nI (6 * t)))] → Sim (t + 1) M → W p l e room_1 s m #[Value.ref b] below meth c H locs cells slots (lw_Z below #[Value.ref b] s) (F0 m 1535 ls [])) : W p l e room_1 s m #[Value.ref b] below meth c H locs cells slots (lw_Z below #[Value.ref b] s) (F0 m 1510 ls []) := by
  have hbA : ¬ mm_fr s.heap.size b := Nat.not_le.mpr hbl
  have i1 : vp_in (nI (6 * t) + 1) L := by rw [show nI (6 * t) + 1 = nI (6 * t + 1) from lw_ix _ 1]; exact vp_in_nI (by omega) (by omega)
  have i2 : vp_in (nI (6 * t) + 2) L := by rw [show nI (6 * t) + 2 = nI (6 * t + 2) from lw_ix _ 2]; exact vp_in_nI (by omega) (by omega)
  have i3 : vp_in (nI (6 * t) + 3) L := by rw [show nI (6 * t) + 3 = nI (6 * t + 3) from lw_ix _ 3]; exact vp_in_nI (by omega) (by omega)
  have i4 : vp_in (nI (6 * t) + 4) L := by rw [show nI (6 * t) + 4 = nI (6 * t + 4) from lw_ix _ 4]; exact vp_in_nI (by omega) (by omega)
  have i5 : vp_in (nI (6 * t) + 5) L := by rw [show nI (6 * t) + 5 = nI (6 * t + 5) from lw_ix _ 5]; exact vp_in_nI (by omega) (by omega)
  obtain ⟨r, M1, M2, h1, h2, hS⟩ := h_count t M (by omega) hS (xs (nI (6 * t) + 1).toNatClampNeg)
  refine lv_aload_n X.1 X.2.1 dL_law_1510 rfl (lv_at hl 1 rfl) ?_
  refine lv_aload_n X.1 X.2.1 dL_law_1511 rfl (lv_at hl 0 rfl) ?_
  refine lv_iload X.1 X.2.1 dL_law_1512 (lv_at hl 4 rfl) ?_
  refine lv_iconst (v := 1) X.1 X.2.1 dL_law_1514 (by decide) ?_
  refine lv_iadd X.1 X.2.1 dL_law_1515 ?_
  refine va_sld X.1 X.2.1 hX hbl hbA I.2 i1 dL_law_1516 ?_
  refine mm_cVe X I hl (As := [.int (xs (nI (6 * t) + 1).toNatClampNeg)]) (ci := 9) md_X9_count mv_X9_count ml_L_189 rfl h1 (kX9_count (n := n)) (by decide) ⟨show cells ≤ 601024 by omega, show slots ≤ 7293034 by omega⟩ rfl rfl (Nat.le_of_ble_eq_true rfl) dL_law_1517 (fun H locs I => ?_)
  refine lv_aload_n X.1 X.2.1 dL_law_1520 rfl (lv_at hl 2 rfl) ?_
  refine lv_aload_n X.1 X.2.1 dL_law_1521 rfl (lv_at hl 0 rfl) ?_
  refine lv_iload X.1 X.2.1 dL_law_1522 (lv_at hl 4 rfl) ?_
  refine lv_iconst (v := 1) X.1 X.2.1 dL_law_1524 (by decide) ?_
  refine lv_iadd X.1 X.2.1 dL_law_1525 ?_
  refine va_sld X.1 X.2.1 hX hbl hbA I.2 i1 dL_law_1526 ?_
  refine mm_cVe X I hl (As := [.int (xs (nI (6 * t) + 1).toNatClampNeg)]) (ci := 10) md_X10_count mv_X10_count ml_L_192 rfl h2 (kX10_count (n := n)) (by decide) ⟨show cells ≤ 601024 by omega, show slots ≤ 7293034 by omega⟩ rfl rfl (Nat.le_of_ble_eq_true rfl) dL_law_1527 (fun H locs I => ?_)
  refine lv_icmp_eq (tgt := 1535) X.1 X.2.1 dL_law_1530 (by decide) (fun _ => ?_) (fun q => absurd rfl q)
  exact kk cells slots M2 _ _ ls (by omega) (by omega) I hl hS
set_option maxHeartbeats 4000000 in
set_option maxRecDepth 100000 in
theorem lw_case_6 {p : Program} {l : Launch} {e : Env} {s : State} {m : MethodId} {below : List Frame} {meth : Method} {c : Code} {D : va_G} {dA : Nat → ClassId} {b L : Nat} {xs : Nat → Int32} (hst : l.stackTraces = false) (hL : L ≤ 3072) (X : mm_C D dA s.heap.size cL_law RL 7 p s m #[Value.ref b] c) (XN : mm_XN s.heap.size s s.heap) (hX : va_X b L xs s s.heap) (hbl : b < s.heap.size) {n ax am ao : Nat} {Sim : Nat → mm_M → Prop} (h_line : lw_s_line n ax am ao Sim) {t cells slots : Nat} {M : mm_M} {H : Heap} {locs : List Loc} {ls : Array Slot} (ht : 6 * t + 6 ≤ L) (hc : cells ≤ 3495 + t) (hs : slots ≤ 65634 + 6 * t) (I : mm_I D dA s.heap.size s M H locs) (hl : lv_has ls 7 [(0, .ref b), (1, .ref ax), (2, .ref am), (3, .ref ao), (4, .int (nI (6 * t)))]) (hS : Sim t M) (kk : ∀ (cells slots : Nat) (M : mm_M) (H : Heap) (locs : List Loc) (ls : Array Slot), cells ≤ 3495 + t + 1 → slots ≤ 65634 + 6 * t + 6 → mm_I D dA s.heap.size s M H locs → lv_has ls 7 [(0, .ref b), (1, .ref ax), (2, .ref am), (3, .ref ao), (4, .int (nI (6 * t)))] → Sim (t + 1) M → W p l e room_1 s m #[Value.ref b] below meth c H locs cells slots (lw_Z below #[Value.ref b] s) (F0 m 1535 ls [])) : W p l e room_1 s m #[Value.ref b] below meth c H locs cells slots (lw_Z below #[Value.ref b] s) (F0 m 402 ls []) := by
  have hbA : ¬ mm_fr s.heap.size b := Nat.not_le.mpr hbl
  have i1 : vp_in (nI (6 * t) + 1) L := by rw [show nI (6 * t) + 1 = nI (6 * t + 1) from lw_ix _ 1]; exact vp_in_nI (by omega) (by omega)
  have i2 : vp_in (nI (6 * t) + 2) L := by rw [show nI (6 * t) + 2 = nI (6 * t + 2) from lw_ix _ 2]; exact vp_in_nI (by omega) (by omega)
  have i3 : vp_in (nI (6 * t) + 3) L := by rw [show nI (6 * t) + 3 = nI (6 * t + 3) from lw_ix _ 3]; exact vp_in_nI (by omega) (by omega)
  have i4 : vp_in (nI (6 * t) + 4) L := by rw [show nI (6 * t) + 4 = nI (6 * t + 4) from lw_ix _ 4]; exact vp_in_nI (by omega) (by omega)
  have i5 : vp_in (nI (6 * t) + 5) L := by rw [show nI (6 * t) + 5 = nI (6 * t + 5) from lw_ix _ 5]; exact vp_in_nI (by omega) (by omega)
  obtain ⟨o, h0, hA, hB⟩ := h_line t M (by omega) hS (xs (nI (6 * t) + 1).toNatClampNeg) (xs (nI (6 * t) + 2).toNatClampNeg)
  refine lv_aload_n X.1 X.2.1 dL_law_402 rfl (lv_at hl 1 rfl) ?_
  refine lv_aload_n X.1 X.2.1 dL_law_403 rfl (lv_at hl 0 rfl) ?_
  refine lv_iload X.1 X.2.1 dL_law_404 (lv_at hl 4 rfl) ?_
  refine lv_iconst (v := 1) X.1 X.2.1 dL_law_406 (by decide) ?_
  refine lv_iadd X.1 X.2.1 dL_law_407 ?_
  refine va_sld X.1 X.2.1 hX hbl hbA I.2 i1 dL_law_408 ?_
  refine lv_aload_n X.1 X.2.1 dL_law_409 rfl (lv_at hl 0 rfl) ?_
  refine lv_iload X.1 X.2.1 dL_law_410 (lv_at hl 4 rfl) ?_
  refine lv_iconst (v := 2) X.1 X.2.1 dL_law_412 (by decide) ?_
  refine lv_iadd X.1 X.2.1 dL_law_413 ?_
  refine va_sld X.1 X.2.1 hX hbl hbA I.2 i2 dL_law_414 ?_
  refine lv_aload_n X.1 X.2.1 dL_law_415 rfl (lv_at hl 3 rfl) ?_
  refine mm_afterL (a3 := ao) (o := o) (vx_runSW (hh := [(0, 10, 13, 13)]) (As := [.ref ax, .int (xs (nI (6 * t) + 1).toNatClampNeg), .int (xs (nI (6 * t) + 2).toNatClampNeg), .ref ao]) (rest := []) ⟨X.1, X.2.1, X.2.2.1, X.2.2.2.1, X.2.2.2.2.1⟩ (kL_line hst (D := D) (dA := dA) (lo := s.heap.size) o h0 (fun v hv => by obtain ⟨M2, M3, M4, f, g, -⟩ := hA v hv; exact ⟨M2, g⟩)) (vx_cwSW 4 X.2.2.2.2.1 (mm_good (fun w hw => ?_)) rfl rfl rfl (by decide +kernel) (by decide)) ⟨mm_blindX, fun U hU hW => ⟨mm_pre X I U hU hW, by rw [hU]; exact XN.to hW (fun a h1 h2 => I.2.2.1 a h1 h2)⟩⟩ rfl rfl hl.1 rfl (lv_room (Nat.le_of_ble_eq_true rfl)) dL_law_416 ⟨show cells + 1 ≤ 601024 by omega, show slots + 6 ≤ 7293034 by omega⟩) I (fun v M2 H locs ho hM2 I => ?_) (fun k H locs ho I => ?_)
  · simp only [va_wsS, List.cons_append, List.nil_append, List.mem_cons] at hw
    rcases hw with rfl | rfl | rfl | rfl | hw
    · exact ml_L_47
    · exact ms_L_line
    · exact ini_L
    · exact cw_L
    · exact hw
  · obtain ⟨M2', M3, M4, f, g0, h1, h2, h3, h4, hS⟩ := hA v ho
    cases g0.symm.trans hM2
    refine lv_istore (lv' := [(5, .int 0), (0, .ref b), (1, .ref ax), (2, .ref am), (3, .ref ao), (4, .int (nI (6 * t)))]) X.1 X.2.1 dL_law_419 hl (by decide) rfl (fun ls hl => ?_)
    refine lv_aload_n X.1 X.2.1 dL_law_421 rfl (lv_at hl 3 rfl) ?_
    refine lv_aload_n X.1 X.2.1 dL_law_422 rfl (lv_at hl 1 rfl) ?_
    refine lv_iload X.1 X.2.1 dL_law_423 (lv_at hl 5 rfl) ?_
    refine lv_iconst (v := 1) X.1 X.2.1 dL_law_425 (by decide) ?_
    refine lv_iadd X.1 X.2.1 dL_law_426 ?_
    refine va_sld X.1 X.2.1 hX hbl hbA I.2 i1 dL_law_427 ?_
    refine lv_aload_n X.1 X.2.1 dL_law_428 rfl (lv_at hl 1 rfl) ?_
    refine lv_iload X.1 X.2.1 dL_law_429 (lv_at hl 5 rfl) ?_
    refine lv_iconst (v := 2) X.1 X.2.1 dL_law_431 (by decide) ?_
    refine lv_iadd X.1 X.2.1 dL_law_432 ?_
    refine va_sld X.1 X.2.1 hX hbl hbA I.2 i2 dL_law_433 ?_
    refine mm_cVe X I hl (As := [.int (xs (nI (6 * t) + 1).toNatClampNeg), .int (xs (nI (6 * t) + 2).toNatClampNeg)]) (ci := 10) md_X10_line mv_X10_line ml_L_52 rfl h1 (kX10_line (n := n)) (by decide) ⟨show cells + 1 ≤ 601024 by omega, show slots + 6 ≤ 7293034 by omega⟩ rfl rfl (Nat.le_of_ble_eq_true rfl) dL_law_434 (fun H locs I => ?_)
    refine lv_istore (lv' := [(6, .int v), (5, .int 0), (0, .ref b), (1, .ref ax), (2, .ref am), (3, .ref ao), (4, .int (nI (6 * t)))]) X.1 X.2.1 dL_law_437 hl (by decide) rfl (fun ls hl => ?_)
    refine lv_aload_n X.1 X.2.1 dL_law_439 rfl (lv_at hl 4 rfl) ?_
    refine mm_cVe X I hl (As := []) (ci := 10) md_X10_thrown mv_X10_thrown ml_L_53 rfl h2 (kX10_thrown (n := n)) (by decide) ⟨show cells + 1 ≤ 601024 by omega, show slots + 6 ≤ 7293034 by omega⟩ rfl rfl (Nat.le_of_ble_eq_true rfl) dL_law_440 (fun H locs I => ?_)
    refine lv_iload X.1 X.2.1 dL_law_443 (lv_at hl 1 rfl) ?_
    refine lv_icmp_eq (tgt := 450) X.1 X.2.1 dL_law_445 (by decide) (fun _ => ?_) (fun q => absurd rfl q)
    refine lv_iload X.1 X.2.1 dL_law_450 (lv_at hl 1 rfl) ?_
    refine lv_if_ne (tgt := 467) X.1 X.2.1 dL_law_452 (by decide) (fun q => absurd rfl q) (fun _ => ?_)
    refine lv_aload_n X.1 X.2.1 dL_law_455 rfl (lv_at hl 5 rfl) ?_
    refine lv_iconst (v := 0) X.1 X.2.1 dL_law_456 (by decide) ?_
    refine mm_rla (F := fun z => some z) X I dL_law_457 (show mm_b1 (mm_la M4 ao 0) (fun z => some z) = some (Int32.toInt64 v) by simp [mm_b1, mm_la, h3, h4]) (fun z hz => ?_)
    cases hz
    refine lv_iload X.1 X.2.1 dL_law_458 (lv_at hl 0 rfl) ?_
    refine lv_i2l (v := Int32.toInt64 v) X.1 X.2.1 dL_law_460 rfl ?_
    refine W.lcmp X.1 X.2.1 dL_law_461 ?_
    refine lv_if_eq (tgt := 467) X.1 X.2.1 dL_law_462 (by decide) (fun _ => ?_) (fun q => absurd (by simp [lg_cmp]) q)
    refine lv_goto (tgt := 1535) X.1 X.2.1 dL_law_467 (by decide) ?_
    exact kk _ _ M4 _ _ ls (by omega) (by omega) I (lv_sub hl [2, 3, 4, 5, 6] rfl) hS
  · obtain ⟨w, M3, M4, h1, h2, hS⟩ := hB ho k
    refine lv_istore (lv' := [(5, .int 1), (0, .ref b), (1, .ref ax), (2, .ref am), (3, .ref ao), (4, .int (nI (6 * t)))]) X.1 X.2.1 dL_law_419 hl (by decide) rfl (fun ls hl => ?_)
    refine lv_aload_n X.1 X.2.1 dL_law_421 rfl (lv_at hl 3 rfl) ?_
    refine lv_aload_n X.1 X.2.1 dL_law_422 rfl (lv_at hl 1 rfl) ?_
    refine lv_iload X.1 X.2.1 dL_law_423 (lv_at hl 5 rfl) ?_
    refine lv_iconst (v := 1) X.1 X.2.1 dL_law_425 (by decide) ?_
    refine lv_iadd X.1 X.2.1 dL_law_426 ?_
    refine va_sld X.1 X.2.1 hX hbl hbA I.2 i1 dL_law_427 ?_
    refine lv_aload_n X.1 X.2.1 dL_law_428 rfl (lv_at hl 1 rfl) ?_
    refine lv_iload X.1 X.2.1 dL_law_429 (lv_at hl 5 rfl) ?_
    refine lv_iconst (v := 2) X.1 X.2.1 dL_law_431 (by decide) ?_
    refine lv_iadd X.1 X.2.1 dL_law_432 ?_
    refine va_sld X.1 X.2.1 hX hbl hbA I.2 i2 dL_law_433 ?_
    refine mm_cVe X I hl (As := [.int (xs (nI (6 * t) + 1).toNatClampNeg), .int (xs (nI (6 * t) + 2).toNatClampNeg)]) (ci := 10) md_X10_line mv_X10_line ml_L_52 rfl h1 (kX10_line (n := n)) (by decide) ⟨show cells + 1 ≤ 601024 by omega, show slots + 6 ≤ 7293034 by omega⟩ rfl rfl (Nat.le_of_ble_eq_true rfl) dL_law_434 (fun H locs I => ?_)
    refine lv_istore (lv' := [(6, .int w), (5, .int 1), (0, .ref b), (1, .ref ax), (2, .ref am), (3, .ref ao), (4, .int (nI (6 * t)))]) X.1 X.2.1 dL_law_437 hl (by decide) rfl (fun ls hl => ?_)
    refine lv_aload_n X.1 X.2.1 dL_law_439 rfl (lv_at hl 4 rfl) ?_
    refine mm_cVe X I hl (As := []) (ci := 10) md_X10_thrown mv_X10_thrown ml_L_53 rfl h2 (kX10_thrown (n := n)) (by decide) ⟨show cells + 1 ≤ 601024 by omega, show slots + 6 ≤ 7293034 by omega⟩ rfl rfl (Nat.le_of_ble_eq_true rfl) dL_law_440 (fun H locs I => ?_)
    refine lv_iload X.1 X.2.1 dL_law_443 (lv_at hl 1 rfl) ?_
    refine lv_icmp_eq (tgt := 450) X.1 X.2.1 dL_law_445 (by decide) (fun _ => ?_) (fun q => absurd rfl q)
    refine lv_iload X.1 X.2.1 dL_law_450 (lv_at hl 1 rfl) ?_
    refine lv_if_ne (tgt := 467) X.1 X.2.1 dL_law_452 (by decide) (fun _ => ?_) (fun q => absurd q (by decide))
    refine lv_goto (tgt := 1535) X.1 X.2.1 dL_law_467 (by decide) ?_
    exact kk _ _ M4 _ _ ls (by omega) (by omega) I (lv_sub hl [2, 3, 4, 5, 6] rfl) hS
