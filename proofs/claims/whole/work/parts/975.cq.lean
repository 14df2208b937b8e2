/-! the class: what is asked of hits and places -/
theorem okH.sm {ls : List kL} {L : List kH} (h : okH ls L) (ho : okL ls) : smH L := fun x hx => by
  obtain ⟨h1, h2⟩ := h x hx
  have := ho.1
  have := (ho.2 _ h1).2.1
  exact ⟨by omega, by omega⟩
theorem rs_line {n : Nat} {M : mm_M} {r a : Nat} {ls : List kL} {L : List kH} {b : Bool} (h : RkS M r a ls L b) (ho : okL ls) {j : Nat} (hj : j < L.length) : pX3_lineOf n M r (iI j) = some (iI (L.getD j (0, 0)).1, M) := by
  obtain ⟨F, D, cc, giv, -, -, -, r, ok⟩ := h; exact rk_line r (ok.sm ho) hj
theorem rs_place {n : Nat} {M : mm_M} {r a : Nat} {ls : List kL} {L : List kH} {b : Bool} (h : RkS M r a ls L b) (ho : okL ls) {j : Nat} (hj : j < L.length) : pX3_placeOf n M r (iI j) = some (iI (L.getD j (0, 0)).2, M) := by
  obtain ⟨F, D, cc, giv, -, -, -, r, ok⟩ := h; exact rk_place r (ok.sm ho) hj
theorem rs_has {n : Nat} {M : mm_M} {r a : Nat} {ls : List kL} {L : List kH} {b : Bool} (h : RkS M r a ls L b) {i : Int} (hi : sm i) : pX3_has n M r (iI i) = some (bI (decide (0 ≤ i ∧ i < L.length)), M) := by
  obtain ⟨F, D, cc, giv, -, -, -, r, ok⟩ := h; exact rk_has r hi
theorem rs_n {M : mm_M} {r a : Nat} {ls : List kL} {L : List kH} {b : Bool} (h : RkS M r a ls L b) : mm_gi 3 2 M r = some (iI L.length) ∧ L.length ≤ 200 := by
  obtain ⟨F, D, cc, giv, -, -, -, r, ok⟩ := h; exact ⟨rk_n r, r.1⟩
theorem k_hit {n : Nat} (hn : 300 ≤ n) {M : mm_M} {ax : Nat} {B : Int} {tp : List Int} {T : kT} {wd : List Int} {ps : List kT} {im : Option kT} {sc : List (List kS)} {rf : Nat → Int} (h : Cls M ax B tp T wd ps im sc rf) (hI : Inv T wd ps im sc) {x y : Int} (hx : sm x) (hy : sm y) : ∃ M', pX9_hit n M ax (iI x) (iI y) = some (iI (hitK T.1 wd x y), M') ∧ Cls M' ax B tp T wd ps im sc rf ∧ fr M M' ax 2875 := by
  obtain ⟨np, d, fw, ff, h⟩ := h
  have ho := hI.1.1
  have hd := hI.1.2.1
  obtain ⟨M1, e1, h1, f1⟩ := c_rh hn h ho hd
  have rs := c_rsw (fw := true) h1 hd
  have hs := rs_has (n := n) rs hx
  refine ⟨M1, ?_, ⟨np, d, true, ff, h1⟩, f1⟩
  unfold hitK
  by_cases g : 0 ≤ x ∧ x < (hL T.1 wd).length
  · obtain ⟨k, rfl⟩ := Int.eq_ofNat_of_zero_le g.1
    rw [decide_eq_true g] at hs
    rw [if_pos g, gH_k]
    have sl := rs_line (n := n) rs ho (j := k) (by omega)
    have sp := rs_place (n := n) rs ho (j := k) (by omega)
    have sf := rk_sf (n := n) rs g
    have sb := sgK_bd ho (hL_ok hd wd) (show k < (hL T.1 wd).length by omega)
    have w6 := hI.2.2.1
    have wn := sg_n h1.2.2.2.2.2.1
    by_cases y0 : y = 0
    · subst y0
      simp (disch := (first | assumption | (refine sm_of ?_ ?_ <;> omega) | fail)) only [iI_add, iI_sub, iI_mul, iI_neg, iI_lt, iI_le, iI_eq, b1_s, b2_s, ↓reduceIte, L0, L1, L2, L3, L4, L5, L6, L7, L8, L9, L10, L12, L20, L22, L24, L26, L27, L28, L32, L40, L60, L73, L95, L97, L222, L240, L441, L442, L622, Lm1, Lmh, L11, L13, L14, L15, L16, L17, L18, L19, L21, L23, L25, L30, L31, L33, L36, L39, L41, L44, L48, L53, L54, L55, L57, L58, L59, L91, L93, L98, L99, L100, L105, L106, L112, L114, L115, L119, L122, L160, L180, L200, L255, L1440, L24880, L63, Lm2, pX9_hit, h.1.all, e1, hs, bI_t, Int.reduceEq, sl]
    · by_cases y1 : y = 1
      · subst y1
        simp (disch := (first | assumption | (refine sm_of ?_ ?_ <;> omega) | fail)) only [iI_add, iI_sub, iI_mul, iI_neg, iI_lt, iI_le, iI_eq, b1_s, b2_s, ↓reduceIte, L0, L1, L2, L3, L4, L5, L6, L7, L8, L9, L10, L12, L20, L22, L24, L26, L27, L28, L32, L40, L60, L73, L95, L97, L222, L240, L441, L442, L622, Lm1, Lmh, L11, L13, L14, L15, L16, L17, L18, L19, L21, L23, L25, L30, L31, L33, L36, L39, L41, L44, L48, L53, L54, L55, L57, L58, L59, L91, L93, L98, L99, L100, L105, L106, L112, L114, L115, L119, L122, L160, L180, L200, L255, L1440, L24880, L63, Lm2, pX9_hit, h.1.all, e1, hs, bI_t, Int.reduceEq, sp, true_or]
      · by_cases y2 : y = 2
        · subst y2
          simp (disch := (first | assumption | (refine sm_of ?_ ?_ <;> omega) | fail)) only [iI_add, iI_sub, iI_mul, iI_neg, iI_lt, iI_le, iI_eq, b1_s, b2_s, ↓reduceIte, L0, L1, L2, L3, L4, L5, L6, L7, L8, L9, L10, L12, L20, L22, L24, L26, L27, L28, L32, L40, L60, L73, L95, L97, L222, L240, L441, L442, L622, Lm1, Lmh, L11, L13, L14, L15, L16, L17, L18, L19, L21, L23, L25, L30, L31, L33, L36, L39, L41, L44, L48, L53, L54, L55, L57, L58, L59, L91, L93, L98, L99, L100, L105, L106, L112, L114, L115, L119, L122, L160, L180, L200, L255, L1440, L24880, L63, Lm2, pX9_hit, h.1.all, e1, hs, bI_t, Int.reduceEq, sf, h1.1.all, wn, or_self]
        · by_cases y3 : y = 3
          · subst y3
            simp (disch := (first | assumption | (refine sm_of ?_ ?_ <;> omega) | fail)) only [iI_add, iI_sub, iI_mul, iI_neg, iI_lt, iI_le, iI_eq, b1_s, b2_s, ↓reduceIte, L0, L1, L2, L3, L4, L5, L6, L7, L8, L9, L10, L12, L20, L22, L24, L26, L27, L28, L32, L40, L60, L73, L95, L97, L222, L240, L441, L442, L622, Lm1, Lmh, L11, L13, L14, L15, L16, L17, L18, L19, L21, L23, L25, L30, L31, L33, L36, L39, L41, L44, L48, L53, L54, L55, L57, L58, L59, L91, L93, L98, L99, L100, L105, L106, L112, L114, L115, L119, L122, L160, L180, L200, L255, L1440, L24880, L63, Lm2, pX9_hit, h.1.all, e1, hs, bI_t, Int.reduceEq, sp, or_true]
          · simp (disch := (first | assumption | (refine sm_of ?_ ?_ <;> omega) | fail)) only [iI_add, iI_sub, iI_mul, iI_neg, iI_lt, iI_le, iI_eq, b1_s, b2_s, ↓reduceIte, L0, L1, L2, L3, L4, L5, L6, L7, L8, L9, L10, L12, L20, L22, L24, L26, L27, L28, L32, L40, L60, L73, L95, L97, L222, L240, L441, L442, L622, Lm1, Lmh, L11, L13, L14, L15, L16, L17, L18, L19, L21, L23, L25, L30, L31, L33, L36, L39, L41, L44, L48, L53, L54, L55, L57, L58, L59, L91, L93, L98, L99, L100, L105, L106, L112, L114, L115, L119, L122, L160, L180, L200, L255, L1440, L24880, L63, Lm2, pX9_hit, h.1.all, e1, hs, bI_t, Int.reduceEq, y0, y1, y2, y3, or_self]
  · rw [decide_eq_false g] at hs
    rw [if_neg g]
    simp (disch := (first | assumption | (refine sm_of ?_ ?_ <;> omega) | fail)) only [iI_add, iI_sub, iI_mul, iI_neg, iI_lt, iI_le, iI_eq, b1_s, b2_s, ↓reduceIte, L0, L1, L2, L3, L4, L5, L6, L7, L8, L9, L10, L12, L20, L22, L24, L26, L27, L28, L32, L40, L60, L73, L95, L97, L222, L240, L441, L442, L622, Lm1, Lmh, L11, L13, L14, L15, L16, L17, L18, L19, L21, L23, L25, L30, L31, L33, L36, L39, L41, L44, L48, L53, L54, L55, L57, L58, L59, L91, L93, L98, L99, L100, L105, L106, L112, L114, L115, L119, L122, L160, L180, L200, L255, L1440, L24880, L63, Lm2, pX9_hit, h.1.all, e1, hs, bI_f]
theorem k_rank {n : Nat} (hn : 300 ≤ n) {M : mm_M} {ax : Nat} {B : Int} {tp : List Int} {T : kT} {wd : List Int} {ps : List kT} {im : Option kT} {sc : List (List kS)} {rf : Nat → Int} (h : Cls M ax B tp T wd ps im sc rf) (hI : Inv T wd ps im sc) {x y : Int} (hx : sm x) (hy : sm y) : ∃ M', pX9_rank n M ax (iI x) (iI y) = some (iI (fdN (hL T.1 wd) x y 201 0), M') ∧ Cls M' ax B tp T wd ps im sc rf ∧ fr M M' ax 2875 := by
  obtain ⟨np, d, fw, ff, h⟩ := h
  have ho := hI.1.1
  have hd := hI.1.2.1
  obtain ⟨M1, e1, h1, f1⟩ := c_rh hn h ho hd
  have rs := c_rsw (fw := true) h1 hd
  have fd := rk_find hn rs hx hy
  refine ⟨M1, ?_, ⟨np, d, true, ff, h1⟩, f1⟩
  simp (disch := (first | assumption | (refine sm_of ?_ ?_ <;> omega) | fail)) only [iI_add, iI_sub, iI_mul, iI_neg, iI_lt, iI_le, iI_eq, b1_s, b2_s, ↓reduceIte, L0, L1, L2, L3, L4, L5, L6, L7, L8, L9, L10, L12, L20, L22, L24, L26, L27, L28, L32, L40, L60, L73, L95, L97, L222, L240, L441, L442, L622, Lm1, Lmh, L11, L13, L14, L15, L16, L17, L18, L19, L21, L23, L25, L30, L31, L33, L36, L39, L41, L44, L48, L53, L54, L55, L57, L58, L59, L91, L93, L98, L99, L100, L105, L106, L112, L114, L115, L119, L122, L160, L180, L200, L255, L1440, L24880, L63, Lm2, pX9_rank, h.1.all, e1, fd]
theorem k_all {n : Nat} (hn : 300 ≤ n) {M : mm_M} {ax : Nat} {B : Int} {tp : List Int} {T : kT} {wd : List Int} {ps : List kT} {im : Option kT} {sc : List (List kS)} {rf : Nat → Int} (h : Cls M ax B tp T wd ps im sc rf) (hI : Inv T wd ps im sc) {x y : Int} (hx : sm x) (hy : sm y) : ∃ M', pX9_all n M ax (iI x) (iI y) = some (iI (allK T.1 x y), M') ∧ Cls M' ax B tp T wd ps im sc rf ∧ fr M M' ax 2875 := by
  obtain ⟨np, d, fw, ff, h⟩ := h
  have ho := hI.1.1
  have hd := hI.1.2.1
  obtain ⟨M1, e1, h1, f1⟩ := c_rp hn h ho hd
  have rs := c_rsa (ff := true) h1 hd
  have hs := rs_has (n := n) rs hx
  have l2 := (rs_n rs).2
  refine ⟨M1, ?_, ⟨np, d, fw, true, h1⟩, f1⟩
  unfold allK
  by_cases g : 0 ≤ x ∧ x < (aL T.1).length
  · obtain ⟨k, rfl⟩ := Int.eq_ofNat_of_zero_le g.1
    rw [decide_eq_true g] at hs
    rw [if_pos g, gH_k]
    have sl := rs_line (n := n) rs ho (j := k) (by omega)
    have sp := rs_place (n := n) rs ho (j := k) (by omega)
    have sh := rk_sh (n := n) (by omega) rs (i := (k : Int)) (by omega)
    by_cases y0 : y = 0
    · subst y0
      simp (disch := (first | assumption | (refine sm_of ?_ ?_ <;> omega) | fail)) only [iI_add, iI_sub, iI_mul, iI_neg, iI_lt, iI_le, iI_eq, b1_s, b2_s, ↓reduceIte, L0, L1, L2, L3, L4, L5, L6, L7, L8, L9, L10, L12, L20, L22, L24, L26, L27, L28, L32, L40, L60, L73, L95, L97, L222, L240, L441, L442, L622, Lm1, Lmh, L11, L13, L14, L15, L16, L17, L18, L19, L21, L23, L25, L30, L31, L33, L36, L39, L41, L44, L48, L53, L54, L55, L57, L58, L59, L91, L93, L98, L99, L100, L105, L106, L112, L114, L115, L119, L122, L160, L180, L200, L255, L1440, L24880, L63, Lm2, pX9_all, h.1.all, e1, hs, bI_t, Int.reduceEq, sl]
    · by_cases y1 : y = 1
      · subst y1
        simp (disch := (first | assumption | (refine sm_of ?_ ?_ <;> omega) | fail)) only [iI_add, iI_sub, iI_mul, iI_neg, iI_lt, iI_le, iI_eq, b1_s, b2_s, ↓reduceIte, L0, L1, L2, L3, L4, L5, L6, L7, L8, L9, L10, L12, L20, L22, L24, L26, L27, L28, L32, L40, L60, L73, L95, L97, L222, L240, L441, L442, L622, Lm1, Lmh, L11, L13, L14, L15, L16, L17, L18, L19, L21, L23, L25, L30, L31, L33, L36, L39, L41, L44, L48, L53, L54, L55, L57, L58, L59, L91, L93, L98, L99, L100, L105, L106, L112, L114, L115, L119, L122, L160, L180, L200, L255, L1440, L24880, L63, Lm2, pX9_all, h.1.all, e1, hs, bI_t, Int.reduceEq, sp]
      · by_cases y2 : y = 2
        · subst y2
          simp (disch := (first | assumption | (refine sm_of ?_ ?_ <;> omega) | fail)) only [iI_add, iI_sub, iI_mul, iI_neg, iI_lt, iI_le, iI_eq, b1_s, b2_s, ↓reduceIte, L0, L1, L2, L3, L4, L5, L6, L7, L8, L9, L10, L12, L20, L22, L24, L26, L27, L28, L32, L40, L60, L73, L95, L97, L222, L240, L441, L442, L622, Lm1, Lmh, L11, L13, L14, L15, L16, L17, L18, L19, L21, L23, L25, L30, L31, L33, L36, L39, L41, L44, L48, L53, L54, L55, L57, L58, L59, L91, L93, L98, L99, L100, L105, L106, L112, L114, L115, L119, L122, L160, L180, L200, L255, L1440, L24880, L63, Lm2, pX9_all, h.1.all, e1, hs, bI_t, Int.reduceEq, sh]
        · simp (disch := (first | assumption | (refine sm_of ?_ ?_ <;> omega) | fail)) only [iI_add, iI_sub, iI_mul, iI_neg, iI_lt, iI_le, iI_eq, b1_s, b2_s, ↓reduceIte, L0, L1, L2, L3, L4, L5, L6, L7, L8, L9, L10, L12, L20, L22, L24, L26, L27, L28, L32, L40, L60, L73, L95, L97, L222, L240, L441, L442, L622, Lm1, Lmh, L11, L13, L14, L15, L16, L17, L18, L19, L21, L23, L25, L30, L31, L33, L36, L39, L41, L44, L48, L53, L54, L55, L57, L58, L59, L91, L93, L98, L99, L100, L105, L106, L112, L114, L115, L119, L122, L160, L180, L200, L255, L1440, L24880, L63, Lm2, pX9_all, h.1.all, e1, hs, bI_t, Int.reduceEq, y0, y1, y2]
  · rw [decide_eq_false g] at hs
    rw [if_neg g]
    simp (disch := (first | assumption | (refine sm_of ?_ ?_ <;> omega) | fail)) only [iI_add, iI_sub, iI_mul, iI_neg, iI_lt, iI_le, iI_eq, b1_s, b2_s, ↓reduceIte, L0, L1, L2, L3, L4, L5, L6, L7, L8, L9, L10, L12, L20, L22, L24, L26, L27, L28, L32, L40, L60, L73, L95, L97, L222, L240, L441, L442, L622, Lm1, Lmh, L11, L13, L14, L15, L16, L17, L18, L19, L21, L23, L25, L30, L31, L33, L36, L39, L41, L44, L48, L53, L54, L55, L57, L58, L59, L91, L93, L98, L99, L100, L105, L106, L112, L114, L115, L119, L122, L160, L180, L200, L255, L1440, L24880, L63, Lm2, pX9_all, h.1.all, e1, hs, bI_f]
theorem k_twice {n : Nat} (hn : 300 ≤ n) {M : mm_M} {ax : Nat} {B : Int} {tp : List Int} {T : kT} {wd : List Int} {ps : List kT} {im : Option kT} {sc : List (List kS)} {rf : Nat → Int} (h : Cls M ax B tp T wd ps im sc rf) (hI : Inv T wd ps im sc) {y : Int} (hy : sm y) : ∃ M', pX9_twice n M ax (iI y) = some (iI (twiceK T.1 y), M') ∧ Cls M' ax B tp T wd ps im sc rf ∧ fr M M' ax 2875 := by
  obtain ⟨np, d, fw, ff, h⟩ := h
  have ho := hI.1.1
  have hd := hI.1.2.1
  obtain ⟨M1, e1, h1, f1⟩ := c_rp hn h ho hd
  have rs := c_rsa (ff := true) h1 hd
  have ms := rk_ms hn rs
  have l2 := (rs_n rs).2
  have mb := msN_bd T.1 (aL T.1) ho.all (aL T.1).length
  have sh := rk_sh (n := n) (by omega) rs (i := (msN T.1 (aL T.1) (aL T.1).length).1) (by omega)
  refine ⟨M1, ?_, ⟨np, d, fw, true, h1⟩, f1⟩
  unfold twiceK
  by_cases y0 : y = 0
  · subst y0
    simp (disch := (first | assumption | (refine sm_of ?_ ?_ <;> omega) | fail)) only [iI_add, iI_sub, iI_mul, iI_neg, iI_lt, iI_le, iI_eq, b1_s, b2_s, ↓reduceIte, L0, L1, L2, L3, L4, L5, L6, L7, L8, L9, L10, L12, L20, L22, L24, L26, L27, L28, L32, L40, L60, L73, L95, L97, L222, L240, L441, L442, L622, Lm1, Lmh, L11, L13, L14, L15, L16, L17, L18, L19, L21, L23, L25, L30, L31, L33, L36, L39, L41, L44, L48, L53, L54, L55, L57, L58, L59, L91, L93, L98, L99, L100, L105, L106, L112, L114, L115, L119, L122, L160, L180, L200, L255, L1440, L24880, L63, Lm2, pX9_twice, h.1.all, e1, ms]
  · by_cases y1 : y = 1
    · subst y1
      simp (disch := (first | assumption | (refine sm_of ?_ ?_ <;> omega) | fail)) only [iI_add, iI_sub, iI_mul, iI_neg, iI_lt, iI_le, iI_eq, b1_s, b2_s, ↓reduceIte, L0, L1, L2, L3, L4, L5, L6, L7, L8, L9, L10, L12, L20, L22, L24, L26, L27, L28, L32, L40, L60, L73, L95, L97, L222, L240, L441, L442, L622, Lm1, Lmh, L11, L13, L14, L15, L16, L17, L18, L19, L21, L23, L25, L30, L31, L33, L36, L39, L41, L44, L48, L53, L54, L55, L57, L58, L59, L91, L93, L98, L99, L100, L105, L106, L112, L114, L115, L119, L122, L160, L180, L200, L255, L1440, L24880, L63, Lm2, pX9_twice, h.1.all, e1, ms, Int.reduceEq, sh]
    · simp (disch := (first | assumption | (refine sm_of ?_ ?_ <;> omega) | fail)) only [iI_add, iI_sub, iI_mul, iI_neg, iI_lt, iI_le, iI_eq, b1_s, b2_s, ↓reduceIte, L0, L1, L2, L3, L4, L5, L6, L7, L8, L9, L10, L12, L20, L22, L24, L26, L27, L28, L32, L40, L60, L73, L95, L97, L222, L240, L441, L442, L622, Lm1, Lmh, L11, L13, L14, L15, L16, L17, L18, L19, L21, L23, L25, L30, L31, L33, L36, L39, L41, L44, L48, L53, L54, L55, L57, L58, L59, L91, L93, L98, L99, L100, L105, L106, L112, L114, L115, L119, L122, L160, L180, L200, L255, L1440, L24880, L63, Lm2, pX9_twice, h.1.all, e1, ms, y0, y1]
theorem mfN_lt (ls : List kL) (L : List kH) (m : Int) (k : Nat) : (mfN ls L m k).1 < k := by
  induction k with
  | zero => simp [mfN]
  | succ k ih =>
    simp only [mfN]
    (repeat' split) <;> first | omega | (show (k : Int) < _; omega)
theorem max_ii {a b : Int} (ha : sm a) (hb : sm b) : mm_max (iI a) (iI b) = iI (max a b) := by
  unfold mm_max
  by_cases c : a < b
  · rw [if_pos (by rw [iI_lt ha hb]; exact c)]; congr 1; omega
  · rw [if_neg (by rw [iI_lt ha hb]; exact c)]; congr 1; omega
theorem k_frequent {n : Nat} (hn : 300 ≤ n) {M : mm_M} {ax : Nat} {B : Int} {tp : List Int} {T : kT} {wd : List Int} {ps : List kT} {im : Option kT} {sc : List (List kS)} {rf : Nat → Int} (h : Cls M ax B tp T wd ps im sc rf) (hI : Inv T wd ps im sc) {x y : Int} (hx : sm x) (hy : sm y) : ∃ M', pX9_frequent n M ax (iI x) (iI y) = some (iI (frK T.1 x y), M') ∧ Cls M' ax B tp T wd ps im sc rf ∧ fr M M' ax 2875 := by
  obtain ⟨np, d, fw, ff, h⟩ := h
  have ho := hI.1.1
  have hd := hI.1.2.1
  unfold frK
  by_cases c : x < 1 ∨ 6 < x
  · rw [if_pos c]
    refine ⟨M, ?_, ⟨np, d, fw, ff, h⟩, fr.rfl⟩
    by_cases c1 : x < 1
    · simp (disch := (first | assumption | (refine sm_of ?_ ?_ <;> omega) | fail)) only [iI_add, iI_sub, iI_mul, iI_neg, iI_lt, iI_le, iI_eq, b1_s, b2_s, ↓reduceIte, L0, L1, L2, L3, L4, L5, L6, L7, L8, L9, L10, L12, L20, L22, L24, L26, L27, L28, L32, L40, L60, L73, L95, L97, L222, L240, L441, L442, L622, Lm1, Lmh, L11, L13, L14, L15, L16, L17, L18, L19, L21, L23, L25, L30, L31, L33, L36, L39, L41, L44, L48, L53, L54, L55, L57, L58, L59, L91, L93, L98, L99, L100, L105, L106, L112, L114, L115, L119, L122, L160, L180, L200, L255, L1440, L24880, L63, Lm2, pX9_frequent, h.1.all, c1]
    · simp (disch := (first | assumption | (refine sm_of ?_ ?_ <;> omega) | fail)) only [iI_add, iI_sub, iI_mul, iI_neg, iI_lt, iI_le, iI_eq, b1_s, b2_s, ↓reduceIte, L0, L1, L2, L3, L4, L5, L6, L7, L8, L9, L10, L12, L20, L22, L24, L26, L27, L28, L32, L40, L60, L73, L95, L97, L222, L240, L441, L442, L622, Lm1, Lmh, L11, L13, L14, L15, L16, L17, L18, L19, L21, L23, L25, L30, L31, L33, L36, L39, L41, L44, L48, L53, L54, L55, L57, L58, L59, L91, L93, L98, L99, L100, L105, L106, L112, L114, L115, L119, L122, L160, L180, L200, L255, L1440, L24880, L63, Lm2, pX9_frequent, h.1.all, c1, show ¬ x ≤ 6 by omega]
  · rw [if_neg c]
    obtain ⟨M1, e1, h1, f1⟩ := c_rp hn h ho hd
    have rs := c_rsa (ff := true) h1 hd
    obtain ⟨mf, m1, m2⟩ := rk_mf hn rs (m := x) (by omega)
    have l2 := (rs_n rs).2
    refine ⟨M1, ?_, ⟨np, d, fw, true, h1⟩, f1⟩
    have vl := mfN_lt T.1 (aL T.1) x (aL T.1).length
    generalize hv : (mfN T.1 (aL T.1) x (aL T.1).length).1 = v at *
    by_cases g : v = -1
    · rw [if_pos g]
      simp (disch := (first | assumption | (refine sm_of ?_ ?_ <;> omega) | fail)) only [iI_add, iI_sub, iI_mul, iI_neg, iI_lt, iI_le, iI_eq, b1_s, b2_s, ↓reduceIte, L0, L1, L2, L3, L4, L5, L6, L7, L8, L9, L10, L12, L20, L22, L24, L26, L27, L28, L32, L40, L60, L73, L95, L97, L222, L240, L441, L442, L622, Lm1, Lmh, L11, L13, L14, L15, L16, L17, L18, L19, L21, L23, L25, L30, L31, L33, L36, L39, L41, L44, L48, L53, L54, L55, L57, L58, L59, L91, L93, L98, L99, L100, L105, L106, L112, L114, L115, L119, L122, L160, L180, L200, L255, L1440, L24880, L63, Lm2, pX9_frequent, h.1.all, show ¬ x < 1 by omega, show x ≤ 6 by omega, e1, mf, g]
    · rw [if_neg g]
      obtain ⟨k, rfl⟩ := Int.eq_ofNat_of_zero_le (show 0 ≤ v by omega)
      have wh := rk_wh hn rs (i := (k : Int)) (m := x) (by omega) (by omega)
      have sl := rs_line (n := n) rs ho (j := k) (by omega)
      have sp := rs_place (n := n) rs ho (j := k) (by omega)
      rw [gH_k]
      by_cases y0 : y = 0
      · subst y0
        simp (disch := (first | assumption | (refine sm_of ?_ ?_ <;> omega) | fail)) only [iI_add, iI_sub, iI_mul, iI_neg, iI_lt, iI_le, iI_eq, b1_s, b2_s, ↓reduceIte, L0, L1, L2, L3, L4, L5, L6, L7, L8, L9, L10, L12, L20, L22, L24, L26, L27, L28, L32, L40, L60, L73, L95, L97, L222, L240, L441, L442, L622, Lm1, Lmh, L11, L13, L14, L15, L16, L17, L18, L19, L21, L23, L25, L30, L31, L33, L36, L39, L41, L44, L48, L53, L54, L55, L57, L58, L59, L91, L93, L98, L99, L100, L105, L106, L112, L114, L115, L119, L122, L160, L180, L200, L255, L1440, L24880, L63, Lm2, pX9_frequent, h.1.all, show ¬ x < 1 by omega, show x ≤ 6 by omega, e1, mf, g, wh]
      · by_cases y1 : y = 1
        · subst y1
          simp (disch := (first | assumption | (refine sm_of ?_ ?_ <;> omega) | fail)) only [iI_add, iI_sub, iI_mul, iI_neg, iI_lt, iI_le, iI_eq, b1_s, b2_s, ↓reduceIte, L0, L1, L2, L3, L4, L5, L6, L7, L8, L9, L10, L12, L20, L22, L24, L26, L27, L28, L32, L40, L60, L73, L95, L97, L222, L240, L441, L442, L622, Lm1, Lmh, L11, L13, L14, L15, L16, L17, L18, L19, L21, L23, L25, L30, L31, L33, L36, L39, L41, L44, L48, L53, L54, L55, L57, L58, L59, L91, L93, L98, L99, L100, L105, L106, L112, L114, L115, L119, L122, L160, L180, L200, L255, L1440, L24880, L63, Lm2, pX9_frequent, h.1.all, show ¬ x < 1 by omega, show x ≤ 6 by omega, e1, mf, g, Int.reduceEq, sl]
        · by_cases y2 : y = 2
          · subst y2
            simp (disch := (first | assumption | (refine sm_of ?_ ?_ <;> omega) | fail)) only [iI_add, iI_sub, iI_mul, iI_neg, iI_lt, iI_le, iI_eq, b1_s, b2_s, ↓reduceIte, L0, L1, L2, L3, L4, L5, L6, L7, L8, L9, L10, L12, L20, L22, L24, L26, L27, L28, L32, L40, L60, L73, L95, L97, L222, L240, L441, L442, L622, Lm1, Lmh, L11, L13, L14, L15, L16, L17, L18, L19, L21, L23, L25, L30, L31, L33, L36, L39, L41, L44, L48, L53, L54, L55, L57, L58, L59, L91, L93, L98, L99, L100, L105, L106, L112, L114, L115, L119, L122, L160, L180, L200, L255, L1440, L24880, L63, Lm2, pX9_frequent, h.1.all, show ¬ x < 1 by omega, show x ≤ 6 by omega, e1, mf, g, Int.reduceEq, sp]
          · simp (disch := (first | assumption | (refine sm_of ?_ ?_ <;> omega) | fail)) only [iI_add, iI_sub, iI_mul, iI_neg, iI_lt, iI_le, iI_eq, b1_s, b2_s, ↓reduceIte, L0, L1, L2, L3, L4, L5, L6, L7, L8, L9, L10, L12, L20, L22, L24, L26, L27, L28, L32, L40, L60, L73, L95, L97, L222, L240, L441, L442, L622, Lm1, Lmh, L11, L13, L14, L15, L16, L17, L18, L19, L21, L23, L25, L30, L31, L33, L36, L39, L41, L44, L48, L53, L54, L55, L57, L58, L59, L91, L93, L98, L99, L100, L105, L106, L112, L114, L115, L119, L122, L160, L180, L200, L255, L1440, L24880, L63, Lm2, pX9_frequent, h.1.all, show ¬ x < 1 by omega, show x ≤ 6 by omega, e1, mf, g, y0, y1, y2]
theorem k_few {n : Nat} (hn : 300 ≤ n) {M : mm_M} {ax : Nat} {B : Int} {tp : List Int} {T : kT} {wd : List Int} {ps : List kT} {im : Option kT} {sc : List (List kS)} {rf : Nat → Int} (h : Cls M ax B tp T wd ps im sc rf) (hI : Inv T wd ps im sc) {x y : Int} (hx : sm x) (hy : sm y) : ∃ M', pX9_few n M ax (iI x) (iI y) = some (iI (fewK T.1 x y), M') ∧ Cls M' ax B tp T wd ps im sc rf ∧ fr M M' ax 2875 := by
  obtain ⟨np, d, fw, ff, h⟩ := h
  have ho := hI.1.1
  have hd := hI.1.2.1
  obtain ⟨M1, e1, h1, f1⟩ := c_rp hn h ho hd
  have rs := c_rsa (ff := true) h1 hd
  have fd := rk_find hn rs hx hy
  have l2 := (rs_n rs).2
  refine ⟨M1, ?_, ⟨np, d, fw, true, h1⟩, f1⟩
  unfold fewK
  rcases fd_spec (aL T.1) x y 201 0 (by omega) with ⟨z, -⟩ | ⟨j, -, j1, z, -⟩
  · rw [z] at fd ⊢
    rw [if_pos rfl]
    simp (disch := (first | assumption | (refine sm_of ?_ ?_ <;> omega) | fail)) only [iI_add, iI_sub, iI_mul, iI_neg, iI_lt, iI_le, iI_eq, b1_s, b2_s, ↓reduceIte, L0, L1, L2, L3, L4, L5, L6, L7, L8, L9, L10, L12, L20, L22, L24, L26, L27, L28, L32, L40, L60, L73, L95, L97, L222, L240, L441, L442, L622, Lm1, Lmh, L11, L13, L14, L15, L16, L17, L18, L19, L21, L23, L25, L30, L31, L33, L36, L39, L41, L44, L48, L53, L54, L55, L57, L58, L59, L91, L93, L98, L99, L100, L105, L106, L112, L114, L115, L119, L122, L160, L180, L200, L255, L1440, L24880, L63, Lm2, pX9_few, h.1.all, e1, fd]
  · rw [z] at fd ⊢
    rw [if_neg (by omega)]
    have s1 := rk_sh (n := n) (by omega) rs (i := (j : Int) - 1) (by omega)
    have s2 := rk_sh (n := n) (by omega) rs (i := (j : Int)) (by omega)
    have sf := rk_sf (n := n) rs (i := (j : Int)) (by omega)
    have b1 := shK_bd T.1 (aL T.1) ((j : Int) - 1) ho.all
    have b2 := shK_bd T.1 (aL T.1) (j : Int) ho.all
    have b3 := sgK_bd ho (aL_ok hd) j1
    have mx : mm_max (iI 0) (mm_max (iI (shK T.1 (aL T.1) ((j : Int) - 1))) (iI (shK T.1 (aL T.1) j))) = iI (max 0 (max (shK T.1 (aL T.1) ((j : Int) - 1)) (shK T.1 (aL T.1) j))) := by
      rw [max_ii (sm_of (by omega) (by omega)) (sm_of (by omega) (by omega)), max_ii (sm_of (by omega) (by omega)) (sm_of (by omega) (by omega))]
    generalize hm : max 0 (max (shK T.1 (aL T.1) ((j : Int) - 1)) (shK T.1 (aL T.1) j)) = mv at *
    have mb : 0 ≤ mv ∧ mv ≤ 20 := by omega
    by_cases g : sgK T.1 (aL T.1) j ≤ mv
    · rw [if_pos g]
      simp (disch := (first | assumption | (refine sm_of ?_ ?_ <;> omega) | fail)) only [iI_add, iI_sub, iI_mul, iI_neg, iI_lt, iI_le, iI_eq, b1_s, b2_s, ↓reduceIte, L0, L1, L2, L3, L4, L5, L6, L7, L8, L9, L10, L12, L20, L22, L24, L26, L27, L28, L32, L40, L60, L73, L95, L97, L222, L240, L441, L442, L622, Lm1, Lmh, L11, L13, L14, L15, L16, L17, L18, L19, L21, L23, L25, L30, L31, L33, L36, L39, L41, L44, L48, L53, L54, L55, L57, L58, L59, L91, L93, L98, L99, L100, L105, L106, L112, L114, L115, L119, L122, L160, L180, L200, L255, L1440, L24880, L63, Lm2, pX9_few, h.1.all, e1, fd, show ¬ (j : Int) = -1 by omega, s1, s2, sf, mx, g]
    · rw [if_neg g]
      simp (disch := (first | assumption | (refine sm_of ?_ ?_ <;> omega) | fail)) only [iI_add, iI_sub, iI_mul, iI_neg, iI_lt, iI_le, iI_eq, b1_s, b2_s, ↓reduceIte, L0, L1, L2, L3, L4, L5, L6, L7, L8, L9, L10, L12, L20, L22, L24, L26, L27, L28, L32, L40, L60, L73, L95, L97, L222, L240, L441, L442, L622, Lm1, Lmh, L11, L13, L14, L15, L16, L17, L18, L19, L21, L23, L25, L30, L31, L33, L36, L39, L41, L44, L48, L53, L54, L55, L57, L58, L59, L91, L93, L98, L99, L100, L105, L106, L112, L114, L115, L119, L122, L160, L180, L200, L255, L1440, L24880, L63, Lm2, pX9_few, h.1.all, e1, fd, show ¬ (j : Int) = -1 by omega, s1, s2, sf, mx, g]
