/-! the class: what is asked of the lines, the cursors, the scripts -/
theorem k_rule {n : Nat} (hn : 300 ≤ n) {M : mm_M} {ax : Nat} {B : Int} {tp : List Int} {T : kT} {wd : List Int} {ps : List kT} {im : Option kT} {sc : List (List kS)} {rf : Nat → Int} (h : Cls M ax B tp T wd ps im sc rf) (hI : Inv T wd ps im sc) {y : Int} (hy : sm y) : ∃ M', pX9_rule n M ax (iI y) = some (iI (ruleK T wd y), M') ∧ Cls M' ax B tp T wd ps im sc rf ∧ fr M M' ax 2875 := by
  obtain ⟨np, d, fw, ff, h⟩ := h
  have ho := hI.1.1
  have hd := hI.1.2.1
  have h' := h
  obtain ⟨c0, c1, c2, c3, c4, c5, c6, c7, c8, c9, c10, c11, c12, c13, c14, c15⟩ := h'
  have al := t_all (n := n) (by omega) c11
  have wn := sg_n c5
  obtain ⟨F, D, cc, C, ⟨hO, hLv, -, -, -⟩, e, -⟩ := c11
  have cl : cc = T.1.length := by rw [e, lns_len]
  have hc := hO.1
  have gc : mm_gi 6 1 M (ax + 139) = some (iI T.1.length) := by rw [← cl]; exact gi_at hO.2.2 1 rfl
  unfold ruleK
  by_cases s0 : T.1.length = 0
  · refine ⟨M, ?_, ⟨np, d, fw, ff, h⟩, fr.rfl⟩
    rw [if_pos s0]
    simp (disch := (first | assumption | (refine sm_of ?_ ?_ <;> omega) | fail)) only [iI_add, iI_sub, iI_mul, iI_neg, iI_lt, iI_le, iI_eq, b1_s, b2_s, ↓reduceIte, L0, L1, L2, L3, L4, L5, L6, L7, L8, L9, L10, L12, L20, L22, L24, L26, L27, L28, L32, L40, L60, L73, L95, L97, L222, L240, L441, L442, L622, Lm1, Lmh, L11, L13, L14, L15, L16, L17, L18, L19, L21, L23, L25, L30, L31, L33, L36, L39, L41, L44, L48, L53, L54, L55, L57, L58, L59, L91, L93, L98, L99, L100, L105, L106, L112, L114, L115, L119, L122, L160, L180, L200, L255, L1440, L24880, L63, Lm2, pX9_rule, c0.all, gc, show ((T.1.length : Int) = 0) = True from eq_true (by omega)]
  · rw [if_neg s0]
    have s0' : ¬ (T.1.length : Int) = 0 := by omega
    by_cases y0 : y = 0
    · subst y0
      refine ⟨M, ?_, ⟨np, d, fw, ff, h⟩, fr.rfl⟩
      simp (disch := (first | assumption | (refine sm_of ?_ ?_ <;> omega) | fail)) only [iI_add, iI_sub, iI_mul, iI_neg, iI_lt, iI_le, iI_eq, b1_s, b2_s, ↓reduceIte, L0, L1, L2, L3, L4, L5, L6, L7, L8, L9, L10, L12, L20, L22, L24, L26, L27, L28, L32, L40, L60, L73, L95, L97, L222, L240, L441, L442, L622, Lm1, Lmh, L11, L13, L14, L15, L16, L17, L18, L19, L21, L23, L25, L30, L31, L33, L36, L39, L41, L44, L48, L53, L54, L55, L57, L58, L59, L91, L93, L98, L99, L100, L105, L106, L112, L114, L115, L119, L122, L160, L180, L200, L255, L1440, L24880, L63, Lm2, pX9_rule, c0.all, gc, s0']
    · by_cases y1 : y = 1
      · subst y1
        refine ⟨M, ?_, ⟨np, d, fw, ff, h⟩, fr.rfl⟩
        simp (disch := (first | assumption | (refine sm_of ?_ ?_ <;> omega) | fail)) only [iI_add, iI_sub, iI_mul, iI_neg, iI_lt, iI_le, iI_eq, b1_s, b2_s, ↓reduceIte, L0, L1, L2, L3, L4, L5, L6, L7, L8, L9, L10, L12, L20, L22, L24, L26, L27, L28, L32, L40, L60, L73, L95, L97, L222, L240, L441, L442, L622, Lm1, Lmh, L11, L13, L14, L15, L16, L17, L18, L19, L21, L23, L25, L30, L31, L33, L36, L39, L41, L44, L48, L53, L54, L55, L57, L58, L59, L91, L93, L98, L99, L100, L105, L106, L112, L114, L115, L119, L122, L160, L180, L200, L255, L1440, L24880, L63, Lm2, pX9_rule, c0.all, gc, s0', Int.reduceEq, al]
      · by_cases y2 : y = 2
        · subst y2
          obtain ⟨M1, e1, h1, f1⟩ := c_rh hn h ho hd
          have rn := (rs_n (c_rsw (fw := true) h1 hd)).1
          refine ⟨M1, ?_, ⟨np, d, true, ff, h1⟩, f1⟩
          simp (disch := (first | assumption | (refine sm_of ?_ ?_ <;> omega) | fail)) only [iI_add, iI_sub, iI_mul, iI_neg, iI_lt, iI_le, iI_eq, b1_s, b2_s, ↓reduceIte, L0, L1, L2, L3, L4, L5, L6, L7, L8, L9, L10, L12, L20, L22, L24, L26, L27, L28, L32, L40, L60, L73, L95, L97, L222, L240, L441, L442, L622, Lm1, Lmh, L11, L13, L14, L15, L16, L17, L18, L19, L21, L23, L25, L30, L31, L33, L36, L39, L41, L44, L48, L53, L54, L55, L57, L58, L59, L91, L93, L98, L99, L100, L105, L106, L112, L114, L115, L119, L122, L160, L180, L200, L255, L1440, L24880, L63, Lm2, pX9_rule, c0.all, gc, s0', Int.reduceEq, e1, rn]
        · by_cases y3 : y = 3
          · subst y3
            refine ⟨M, ?_, ⟨np, d, fw, ff, h⟩, fr.rfl⟩
            simp (disch := (first | assumption | (refine sm_of ?_ ?_ <;> omega) | fail)) only [iI_add, iI_sub, iI_mul, iI_neg, iI_lt, iI_le, iI_eq, b1_s, b2_s, ↓reduceIte, L0, L1, L2, L3, L4, L5, L6, L7, L8, L9, L10, L12, L20, L22, L24, L26, L27, L28, L32, L40, L60, L73, L95, L97, L222, L240, L441, L442, L622, Lm1, Lmh, L11, L13, L14, L15, L16, L17, L18, L19, L21, L23, L25, L30, L31, L33, L36, L39, L41, L44, L48, L53, L54, L55, L57, L58, L59, L91, L93, L98, L99, L100, L105, L106, L112, L114, L115, L119, L122, L160, L180, L200, L255, L1440, L24880, L63, Lm2, pX9_rule, c0.all, gc, s0', Int.reduceEq, wn]
          · refine ⟨M, ?_, ⟨np, d, fw, ff, h⟩, fr.rfl⟩
            simp (disch := (first | assumption | (refine sm_of ?_ ?_ <;> omega) | fail)) only [iI_add, iI_sub, iI_mul, iI_neg, iI_lt, iI_le, iI_eq, b1_s, b2_s, ↓reduceIte, L0, L1, L2, L3, L4, L5, L6, L7, L8, L9, L10, L12, L20, L22, L24, L26, L27, L28, L32, L40, L60, L73, L95, L97, L222, L240, L441, L442, L622, Lm1, Lmh, L11, L13, L14, L15, L16, L17, L18, L19, L21, L23, L25, L30, L31, L33, L36, L39, L41, L44, L48, L53, L54, L55, L57, L58, L59, L91, L93, L98, L99, L100, L105, L106, L112, L114, L115, L119, L122, L160, L180, L200, L255, L1440, L24880, L63, Lm2, pX9_rule, c0.all, gc, s0', y0, y1, y2, y3]
theorem k_sign {n : Nat} (hn : 300 ≤ n) {M : mm_M} {ax : Nat} {B : Int} {tp : List Int} {T : kT} {wd : List Int} {ps : List kT} {im : Option kT} {sc : List (List kS)} {rf : Nat → Int} (h : Cls M ax B tp T wd ps im sc rf) {x y : Int} (hx : sm x) (hy : sm y) : pX9_sign n M ax (iI x) (iI y) = some (iI (signK T x y), M) := by
  obtain ⟨np, d, fw, ff, h⟩ := h
  obtain ⟨c0, c1, c2, c3, c4, c5, c6, c7, c8, c9, c10, c11, c12, c13, c14, c15⟩ := h
  obtain ⟨F, D, cc, C, ⟨hO, hLv, -, -, -⟩, e, -⟩ := c11
  have cl : cc = T.1.length := by rw [e, lns_len]
  have hc := hO.1
  have hl := st_hasL (n := n) hO hx
  unfold signK isLn
  rw [← cl]
  by_cases g : 0 ≤ x ∧ x < cc
  · obtain ⟨k, rfl⟩ := Int.eq_ofNat_of_zero_le g.1
    rw [decide_eq_true g] at hl ⊢
    rw [if_pos rfl, ln_k]
    have x1 := hLv.ln (i := k) (by omega)
    have ek : lnN T.1 k = D (F k) := by rw [e]; exact lnN_lns (by omega)
    rw [ek]
    simp (disch := (first | assumption | (refine sm_of ?_ ?_ <;> omega) | fail)) only [iI_add, iI_sub, iI_mul, iI_neg, iI_lt, iI_le, iI_eq, b1_s, b2_s, ↓reduceIte, L0, L1, L2, L3, L4, L5, L6, L7, L8, L9, L10, L12, L20, L22, L24, L26, L27, L28, L32, L40, L60, L73, L95, L97, L222, L240, L441, L442, L622, Lm1, Lmh, L11, L13, L14, L15, L16, L17, L18, L19, L21, L23, L25, L30, L31, L33, L36, L39, L41, L44, L48, L53, L54, L55, L57, L58, L59, L91, L93, L98, L99, L100, L105, L106, L112, L114, L115, L119, L122, L160, L180, L200, L255, L1440, L24880, L63, Lm2, pX9_sign, c0.all, hl, bI_t, Int.reduceEq, gr_at hO.2.2 0 rfl, hLv.ra (i := k) (by omega) (by omega), Int.toNat_natCast, gr_at x1.2.1 0 rfl, sg_at x1.2.2 hy]
  · rw [decide_eq_false g] at hl ⊢
    rw [if_neg (by decide)]
    simp (disch := (first | assumption | (refine sm_of ?_ ?_ <;> omega) | fail)) only [iI_add, iI_sub, iI_mul, iI_neg, iI_lt, iI_le, iI_eq, b1_s, b2_s, ↓reduceIte, L0, L1, L2, L3, L4, L5, L6, L7, L8, L9, L10, L12, L20, L22, L24, L26, L27, L28, L32, L40, L60, L73, L95, L97, L222, L240, L441, L442, L622, Lm1, Lmh, L11, L13, L14, L15, L16, L17, L18, L19, L21, L23, L25, L30, L31, L33, L36, L39, L41, L44, L48, L53, L54, L55, L57, L58, L59, L91, L93, L98, L99, L100, L105, L106, L112, L114, L115, L119, L122, L160, L180, L200, L255, L1440, L24880, L63, Lm2, pX9_sign, c0.all, hl, bI_f]
theorem k_lineT {n : Nat} {M : mm_M} {ax : Nat} {B : Int} {tp : List Int} {T : kT} {wd : List Int} {ps : List kT} {im : Option kT} {sc : List (List kS)} {rf : Nat → Int} (h : Cls M ax B tp T wd ps im sc rf) {x y : Int} (hx : sm x) (hy : sm y) (hl : isLn T.1 x = true) (hy2 : 0 ≤ y ∧ y ≤ 1) : pX9_line n M ax (iI x) (iI y) = some (some (iI (if y = 0 then (ln T.1 x).1 else ((ln T.1 x).2.length : Int))), M) := by
  obtain ⟨np, d, fw, ff, h⟩ := h
  obtain ⟨c0, c1, c2, c3, c4, c5, c6, c7, c8, c9, c10, c11, c12, c13, c14, c15⟩ := h
  obtain ⟨F, D, cc, C, ⟨hO, hLv, -, -, -⟩, e, -⟩ := c11
  have cl : cc = T.1.length := by rw [e, lns_len]
  have hc := hO.1
  have hh := st_hasL (n := n) hO hx
  obtain ⟨g0, g1⟩ := isLn_spec hl
  obtain ⟨k, rfl⟩ := Int.eq_ofNat_of_zero_le g0
  rw [decide_eq_true (by omega)] at hh
  have x1 := hLv.ln (i := k) (by omega)
  have ek : lnN T.1 k = D (F k) := by rw [e]; exact lnN_lns (by omega)
  rw [ln_k, ek]
  rcases (show y = 0 ∨ y = 1 by omega) with rfl | rfl
  · simp (disch := (first | assumption | (refine sm_of ?_ ?_ <;> omega) | fail)) only [iI_add, iI_sub, iI_mul, iI_neg, iI_lt, iI_le, iI_eq, b1_s, b2_s, ↓reduceIte, L0, L1, L2, L3, L4, L5, L6, L7, L8, L9, L10, L12, L20, L22, L24, L26, L27, L28, L32, L40, L60, L73, L95, L97, L222, L240, L441, L442, L622, Lm1, Lmh, L11, L13, L14, L15, L16, L17, L18, L19, L21, L23, L25, L30, L31, L33, L36, L39, L41, L44, L48, L53, L54, L55, L57, L58, L59, L91, L93, L98, L99, L100, L105, L106, L112, L114, L115, L119, L122, L160, L180, L200, L255, L1440, L24880, L63, Lm2, pX9_line, c0.all, hh, bI_t, Int.reduceEq, Int.reduceLT, Int.reduceLE, gr_at hO.2.2 0 rfl, hLv.ra (i := k) (by omega) (by omega), Int.toNat_natCast, gi_at x1.2.1 1 rfl]
  · simp (disch := (first | assumption | (refine sm_of ?_ ?_ <;> omega) | fail)) only [iI_add, iI_sub, iI_mul, iI_neg, iI_lt, iI_le, iI_eq, b1_s, b2_s, ↓reduceIte, L0, L1, L2, L3, L4, L5, L6, L7, L8, L9, L10, L12, L20, L22, L24, L26, L27, L28, L32, L40, L60, L73, L95, L97, L222, L240, L441, L442, L622, Lm1, Lmh, L11, L13, L14, L15, L16, L17, L18, L19, L21, L23, L25, L30, L31, L33, L36, L39, L41, L44, L48, L53, L54, L55, L57, L58, L59, L91, L93, L98, L99, L100, L105, L106, L112, L114, L115, L119, L122, L160, L180, L200, L255, L1440, L24880, L63, Lm2, pX9_line, c0.all, hh, bI_t, Int.reduceEq, Int.reduceLT, Int.reduceLE, gr_at hO.2.2 0 rfl, hLv.ra (i := k) (by omega) (by omega), Int.toNat_natCast, gr_at x1.2.1 0 rfl, sg_n x1.2.2]
theorem k_lineF {n : Nat} {M : mm_M} {ax : Nat} {B : Int} {tp : List Int} {T : kT} {wd : List Int} {ps : List kT} {im : Option kT} {sc : List (List kS)} {rf : Nat → Int} (h : Cls M ax B tp T wd ps im sc rf) {x y : Int} (hx : sm x) (hy : sm y) (hl : ¬ (isLn T.1 x = true ∧ 0 ≤ y ∧ y ≤ 1)) : pX9_line n M ax (iI x) (iI y) = some (none, M) := by
  obtain ⟨np, d, fw, ff, h⟩ := h
  obtain ⟨c0, c1, c2, c3, c4, c5, c6, c7, c8, c9, c10, c11, c12, c13, c14, c15⟩ := h
  obtain ⟨F, D, cc, C, ⟨hO, hLv, -, -, -⟩, e, -⟩ := c11
  have cl : cc = T.1.length := by rw [e, lns_len]
  have hh := st_hasL (n := n) hO hx
  by_cases g : 0 ≤ x ∧ x < cc
  · rw [decide_eq_true g] at hh
    by_cases y0 : y < 0
    · simp (disch := (first | assumption | (refine sm_of ?_ ?_ <;> omega) | fail)) only [iI_add, iI_sub, iI_mul, iI_neg, iI_lt, iI_le, iI_eq, b1_s, b2_s, ↓reduceIte, L0, L1, L2, L3, L4, L5, L6, L7, L8, L9, L10, L12, L20, L22, L24, L26, L27, L28, L32, L40, L60, L73, L95, L97, L222, L240, L441, L442, L622, Lm1, Lmh, L11, L13, L14, L15, L16, L17, L18, L19, L21, L23, L25, L30, L31, L33, L36, L39, L41, L44, L48, L53, L54, L55, L57, L58, L59, L91, L93, L98, L99, L100, L105, L106, L112, L114, L115, L119, L122, L160, L180, L200, L255, L1440, L24880, L63, Lm2, pX9_line, c0.all, hh, bI_t, Int.reduceEq, y0]
    · have y1 : ¬ y ≤ 1 := fun z => hl ⟨by unfold isLn; exact decide_eq_true (by omega), by omega, z⟩
      simp (disch := (first | assumption | (refine sm_of ?_ ?_ <;> omega) | fail)) only [iI_add, iI_sub, iI_mul, iI_neg, iI_lt, iI_le, iI_eq, b1_s, b2_s, ↓reduceIte, L0, L1, L2, L3, L4, L5, L6, L7, L8, L9, L10, L12, L20, L22, L24, L26, L27, L28, L32, L40, L60, L73, L95, L97, L222, L240, L441, L442, L622, Lm1, Lmh, L11, L13, L14, L15, L16, L17, L18, L19, L21, L23, L25, L30, L31, L33, L36, L39, L41, L44, L48, L53, L54, L55, L57, L58, L59, L91, L93, L98, L99, L100, L105, L106, L112, L114, L115, L119, L122, L160, L180, L200, L255, L1440, L24880, L63, Lm2, pX9_line, c0.all, hh, bI_t, Int.reduceEq, y0, y1]
  · rw [decide_eq_false g] at hh
    simp (disch := (first | assumption | (refine sm_of ?_ ?_ <;> omega) | fail)) only [iI_add, iI_sub, iI_mul, iI_neg, iI_lt, iI_le, iI_eq, b1_s, b2_s, ↓reduceIte, L0, L1, L2, L3, L4, L5, L6, L7, L8, L9, L10, L12, L20, L22, L24, L26, L27, L28, L32, L40, L60, L73, L95, L97, L222, L240, L441, L442, L622, Lm1, Lmh, L11, L13, L14, L15, L16, L17, L18, L19, L21, L23, L25, L30, L31, L33, L36, L39, L41, L44, L48, L53, L54, L55, L57, L58, L59, L91, L93, L98, L99, L100, L105, L106, L112, L114, L115, L119, L122, L160, L180, L200, L255, L1440, L24880, L63, Lm2, pX9_line, c0.all, hh, bI_f]
theorem k_log {n : Nat} {M : mm_M} {ax : Nat} {B : Int} {tp : List Int} {T : kT} {wd : List Int} {ps : List kT} {im : Option kT} {sc : List (List kS)} {rf : Nat → Int} (h : Cls M ax B tp T wd ps im sc rf) {x y : Int} (hx : sm x) (hy : sm y) : pX9_log n M ax (iI x) (iI y) = some (iI (logQ T.2.2.2 x y), M) := by
  obtain ⟨np, d, fw, ff, h⟩ := h
  obtain ⟨c0, c1, c2, c3, c4, c5, c6, c7, c8, c9, c10, c11, c12, c13, c14, c15⟩ := h
  obtain ⟨F, D, cc, C, ⟨hO, hLv, -, hJ, -⟩, e, -⟩ := c11
  have je := jr_entry (n := n) hJ hx hy
  simp (disch := (first | assumption | (refine sm_of ?_ ?_ <;> omega) | fail)) only [iI_add, iI_sub, iI_mul, iI_neg, iI_lt, iI_le, iI_eq, b1_s, b2_s, ↓reduceIte, L0, L1, L2, L3, L4, L5, L6, L7, L8, L9, L10, L12, L20, L22, L24, L26, L27, L28, L32, L40, L60, L73, L95, L97, L222, L240, L441, L442, L622, Lm1, Lmh, L11, L13, L14, L15, L16, L17, L18, L19, L21, L23, L25, L30, L31, L33, L36, L39, L41, L44, L48, L53, L54, L55, L57, L58, L59, L91, L93, L98, L99, L100, L105, L106, L112, L114, L115, L119, L122, L160, L180, L200, L255, L1440, L24880, L63, Lm2, pX9_log, c0.all, gr_at hO.2.2 4 rfl, je]
  rfl
theorem k_count {n : Nat} {M : mm_M} {ax : Nat} {B : Int} {tp : List Int} {T : kT} {wd : List Int} {ps : List kT} {im : Option kT} {sc : List (List kS)} {rf : Nat → Int} (h : Cls M ax B tp T wd ps im sc rf) {y : Int} (hy : sm y) : pX9_count n M ax (iI y) = some (iI (cntK tp T ps sc y), M) := by
  obtain ⟨np, d, fw, ff, h⟩ := h
  obtain ⟨c0, c1, c2, c3, c4, c5, c6, c7, c8, c9, c10, c11, c12, c13, c14, c15⟩ := h
  obtain ⟨F, D, cc, C, ⟨hO, hLv, -, hJ, -⟩, e, -⟩ := c11
  have cl : cc = T.1.length := by rw [e, lns_len]
  have gc : mm_gi 6 1 M (ax + 139) = some (iI T.1.length) := by rw [← cl]; exact gi_at hO.2.2 1 rfl
  have js := jr_size (n := n) hJ
  have ts := tr_size c1
  unfold cntK
  by_cases y0 : y = 0
  · subst y0; simp (disch := (first | assumption | (refine sm_of ?_ ?_ <;> omega) | fail)) only [iI_add, iI_sub, iI_mul, iI_neg, iI_lt, iI_le, iI_eq, b1_s, b2_s, ↓reduceIte, L0, L1, L2, L3, L4, L5, L6, L7, L8, L9, L10, L12, L20, L22, L24, L26, L27, L28, L32, L40, L60, L73, L95, L97, L222, L240, L441, L442, L622, Lm1, Lmh, L11, L13, L14, L15, L16, L17, L18, L19, L21, L23, L25, L30, L31, L33, L36, L39, L41, L44, L48, L53, L54, L55, L57, L58, L59, L91, L93, L98, L99, L100, L105, L106, L112, L114, L115, L119, L122, L160, L180, L200, L255, L1440, L24880, L63, Lm2, pX9_count, c0.all, gc]
  · by_cases y1 : y = 1
    · subst y1; simp (disch := (first | assumption | (refine sm_of ?_ ?_ <;> omega) | fail)) only [iI_add, iI_sub, iI_mul, iI_neg, iI_lt, iI_le, iI_eq, b1_s, b2_s, ↓reduceIte, L0, L1, L2, L3, L4, L5, L6, L7, L8, L9, L10, L12, L20, L22, L24, L26, L27, L28, L32, L40, L60, L73, L95, L97, L222, L240, L441, L442, L622, Lm1, Lmh, L11, L13, L14, L15, L16, L17, L18, L19, L21, L23, L25, L30, L31, L33, L36, L39, L41, L44, L48, L53, L54, L55, L57, L58, L59, L91, L93, L98, L99, L100, L105, L106, L112, L114, L115, L119, L122, L160, L180, L200, L255, L1440, L24880, L63, Lm2, pX9_count, c0.all, Int.reduceEq]
    · by_cases y2 : y = 2
      · subst y2; simp (disch := (first | assumption | (refine sm_of ?_ ?_ <;> omega) | fail)) only [iI_add, iI_sub, iI_mul, iI_neg, iI_lt, iI_le, iI_eq, b1_s, b2_s, ↓reduceIte, L0, L1, L2, L3, L4, L5, L6, L7, L8, L9, L10, L12, L20, L22, L24, L26, L27, L28, L32, L40, L60, L73, L95, L97, L222, L240, L441, L442, L622, Lm1, Lmh, L11, L13, L14, L15, L16, L17, L18, L19, L21, L23, L25, L30, L31, L33, L36, L39, L41, L44, L48, L53, L54, L55, L57, L58, L59, L91, L93, L98, L99, L100, L105, L106, L112, L114, L115, L119, L122, L160, L180, L200, L255, L1440, L24880, L63, Lm2, pX9_count, c0.all, Int.reduceEq, ts]
      · by_cases y3 : y = 3
        · subst y3; simp (disch := (first | assumption | (refine sm_of ?_ ?_ <;> omega) | fail)) only [iI_add, iI_sub, iI_mul, iI_neg, iI_lt, iI_le, iI_eq, b1_s, b2_s, ↓reduceIte, L0, L1, L2, L3, L4, L5, L6, L7, L8, L9, L10, L12, L20, L22, L24, L26, L27, L28, L32, L40, L60, L73, L95, L97, L222, L240, L441, L442, L622, Lm1, Lmh, L11, L13, L14, L15, L16, L17, L18, L19, L21, L23, L25, L30, L31, L33, L36, L39, L41, L44, L48, L53, L54, L55, L57, L58, L59, L91, L93, L98, L99, L100, L105, L106, L112, L114, L115, L119, L122, L160, L180, L200, L255, L1440, L24880, L63, Lm2, pX9_count, c0.all, Int.reduceEq, gr_at hO.2.2 4 rfl, js]
        · by_cases y4 : y = 4
          · subst y4; simp (disch := (first | assumption | (refine sm_of ?_ ?_ <;> omega) | fail)) only [iI_add, iI_sub, iI_mul, iI_neg, iI_lt, iI_le, iI_eq, b1_s, b2_s, ↓reduceIte, L0, L1, L2, L3, L4, L5, L6, L7, L8, L9, L10, L12, L20, L22, L24, L26, L27, L28, L32, L40, L60, L73, L95, L97, L222, L240, L441, L442, L622, Lm1, Lmh, L11, L13, L14, L15, L16, L17, L18, L19, L21, L23, L25, L30, L31, L33, L36, L39, L41, L44, L48, L53, L54, L55, L57, L58, L59, L91, L93, L98, L99, L100, L105, L106, L112, L114, L115, L119, L122, L160, L180, L200, L255, L1440, L24880, L63, Lm2, pX9_count, c0.all, Int.reduceEq]
          · by_cases y5 : y = 5
            · subst y5; simp (disch := (first | assumption | (refine sm_of ?_ ?_ <;> omega) | fail)) only [iI_add, iI_sub, iI_mul, iI_neg, iI_lt, iI_le, iI_eq, b1_s, b2_s, ↓reduceIte, L0, L1, L2, L3, L4, L5, L6, L7, L8, L9, L10, L12, L20, L22, L24, L26, L27, L28, L32, L40, L60, L73, L95, L97, L222, L240, L441, L442, L622, Lm1, Lmh, L11, L13, L14, L15, L16, L17, L18, L19, L21, L23, L25, L30, L31, L33, L36, L39, L41, L44, L48, L53, L54, L55, L57, L58, L59, L91, L93, L98, L99, L100, L105, L106, L112, L114, L115, L119, L122, L160, L180, L200, L255, L1440, L24880, L63, Lm2, pX9_count, c0.all, Int.reduceEq, gi_at hO.2.2 2 rfl]
            · simp (disch := (first | assumption | (refine sm_of ?_ ?_ <;> omega) | fail)) only [iI_add, iI_sub, iI_mul, iI_neg, iI_lt, iI_le, iI_eq, b1_s, b2_s, ↓reduceIte, L0, L1, L2, L3, L4, L5, L6, L7, L8, L9, L10, L12, L20, L22, L24, L26, L27, L28, L32, L40, L60, L73, L95, L97, L222, L240, L441, L442, L622, Lm1, Lmh, L11, L13, L14, L15, L16, L17, L18, L19, L21, L23, L25, L30, L31, L33, L36, L39, L41, L44, L48, L53, L54, L55, L57, L58, L59, L91, L93, L98, L99, L100, L105, L106, L112, L114, L115, L119, L122, L160, L180, L200, L255, L1440, L24880, L63, Lm2, pX9_count, c0.all, y0, y1, y2, y3, y4, y5]
theorem k_status {n : Nat} {M : mm_M} {ax : Nat} {B : Int} {tp : List Int} {T : kT} {wd : List Int} {ps : List kT} {im : Option kT} {sc : List (List kS)} {rf : Nat → Int} (h : Cls M ax B tp T wd ps im sc rf) {y : Int} (hy : sm y) : pX9_status n M ax (iI y) = some (iI (staK rf y), M) := by
  obtain ⟨np, d, fw, ff, h⟩ := h
  obtain ⟨c0, c1, c2, c3, c4, c5, c6, c7, c8, c9, c10, c11, c12, c13, c14, c15⟩ := h
  obtain ⟨f, r1, r2⟩ := c10
  unfold staK
  by_cases y0 : y < 0
  · rw [if_neg (by omega)]
    simp (disch := (first | assumption | (refine sm_of ?_ ?_ <;> omega) | fail)) only [iI_add, iI_sub, iI_mul, iI_neg, iI_lt, iI_le, iI_eq, b1_s, b2_s, ↓reduceIte, L0, L1, L2, L3, L4, L5, L6, L7, L8, L9, L10, L12, L20, L22, L24, L26, L27, L28, L32, L40, L60, L73, L95, L97, L222, L240, L441, L442, L622, Lm1, Lmh, L11, L13, L14, L15, L16, L17, L18, L19, L21, L23, L25, L30, L31, L33, L36, L39, L41, L44, L48, L53, L54, L55, L57, L58, L59, L91, L93, L98, L99, L100, L105, L106, L112, L114, L115, L119, L122, L160, L180, L200, L255, L1440, L24880, L63, Lm2, pX9_status, c0.all, y0]
  · obtain ⟨k, rfl⟩ := Int.eq_ofNat_of_zero_le (show 0 ≤ y by omega)
    by_cases y4 : (k : Int) < 4
    · rw [if_pos (by omega), Int.toNat_natCast]
      have ia := ia_at r1 (i := (k : Int)) (by omega) (by omega) (sm_of (by omega) (by omega))
      rw [Int.toNat_natCast, r2 k (by omega)] at ia
      have ln4 : mm_len M (ax + 138) = some (iI 4) := len_at r1
      simp (disch := (first | assumption | (refine sm_of ?_ ?_ <;> omega) | fail)) only [iI_add, iI_sub, iI_mul, iI_neg, iI_lt, iI_le, iI_eq, b1_s, b2_s, ↓reduceIte, L0, L1, L2, L3, L4, L5, L6, L7, L8, L9, L10, L12, L20, L22, L24, L26, L27, L28, L32, L40, L60, L73, L95, L97, L222, L240, L441, L442, L622, Lm1, Lmh, L11, L13, L14, L15, L16, L17, L18, L19, L21, L23, L25, L30, L31, L33, L36, L39, L41, L44, L48, L53, L54, L55, L57, L58, L59, L91, L93, L98, L99, L100, L105, L106, L112, L114, L115, L119, L122, L160, L180, L200, L255, L1440, L24880, L63, Lm2, pX9_status, c0.all, y0, ln4, y4, ia]
    · rw [if_neg (by omega)]
      have ln4 : mm_len M (ax + 138) = some (iI 4) := len_at r1
      simp (disch := (first | assumption | (refine sm_of ?_ ?_ <;> omega) | fail)) only [iI_add, iI_sub, iI_mul, iI_neg, iI_lt, iI_le, iI_eq, b1_s, b2_s, ↓reduceIte, L0, L1, L2, L3, L4, L5, L6, L7, L8, L9, L10, L12, L20, L22, L24, L26, L27, L28, L32, L40, L60, L73, L95, L97, L222, L240, L441, L442, L622, Lm1, Lmh, L11, L13, L14, L15, L16, L17, L18, L19, L21, L23, L25, L30, L31, L33, L36, L39, L41, L44, L48, L53, L54, L55, L57, L58, L59, L91, L93, L98, L99, L100, L105, L106, L112, L114, L115, L119, L122, L160, L180, L200, L255, L1440, L24880, L63, Lm2, pX9_status, c0.all, y0, ln4, y4]
theorem k_cursor {n : Nat} (hn : 300 ≤ n) {M : mm_M} {ax : Nat} {B : Int} {tp : List Int} {T : kT} {wd : List Int} {ps : List kT} {im : Option kT} {sc : List (List kS)} {rf : Nat → Int} (h : Cls M ax B tp T wd ps im sc rf) {x y : Int} (hx : sm x) (hy : sm y) : pX9_cursor n M ax (iI x) (iI y) = some (iI (curK T x y), M) := by
  obtain ⟨np, d, fw, ff, h⟩ := h
  obtain ⟨c0, c1, c2, c3, c4, c5, c6, c7, c8, c9, c10, c11, c12, c13, c14, c15⟩ := h
  obtain ⟨F, D, cc, C, ⟨hO, hLv, hC, -, -⟩, e, eC, -⟩ := c11
  have cl : cc = T.1.length := by rw [e, lns_len]
  have hh := st_hasC (n := n) hO hC hx
  have ei : isCu C x = isCu T.2.2.1 x := by
    unfold isCu
    by_cases g : 0 ≤ x ∧ x < 3
    · rw [eC x.toNat (by omega)]
    · rw [decide_eq_false (by omega), decide_eq_false (by omega)]
  rw [ei] at hh
  unfold curK
  cases g : isCu T.2.2.1 x
  · rw [g] at hh
    rw [if_neg (by decide)]
    simp (disch := (first | assumption | (refine sm_of ?_ ?_ <;> omega) | fail)) only [iI_add, iI_sub, iI_mul, iI_neg, iI_lt, iI_le, iI_eq, b1_s, b2_s, ↓reduceIte, L0, L1, L2, L3, L4, L5, L6, L7, L8, L9, L10, L12, L20, L22, L24, L26, L27, L28, L32, L40, L60, L73, L95, L97, L222, L240, L441, L442, L622, Lm1, Lmh, L11, L13, L14, L15, L16, L17, L18, L19, L21, L23, L25, L30, L31, L33, L36, L39, L41, L44, L48, L53, L54, L55, L57, L58, L59, L91, L93, L98, L99, L100, L105, L106, L112, L114, L115, L119, L122, L160, L180, L200, L255, L1440, L24880, L63, Lm2, pX9_cursor, c0.all, hh, bI_f]
  · rw [g] at hh
    obtain ⟨g0, g1, g2⟩ := isCu_spec g
    obtain ⟨k, rfl⟩ := Int.eq_ofNat_of_zero_le g0
    rw [if_pos rfl, Int.toNat_natCast]
    have u := hC.2 k (by omega)
    rw [eC k (by omega)] at u
    have ra := hC.ra (i := k) (by omega) (by omega)
    rw [Int.toNat_natCast] at ra
    have lf := st_left (n := n) (by omega) hO hLv u
    rw [← e] at lf
    have uw := sg_n u.2.2.2.2.2.1
    have u5 := u.2.2.2.2.1
    have gr3 : mm_gr 6 3 M (ax + 139) = some (ax + 139 + 2) := gr_at hO.2.2 3 rfl
    by_cases y0 : y = 0
    · subst y0; simp (disch := (first | assumption | (refine sm_of ?_ ?_ <;> omega) | fail)) only [iI_add, iI_sub, iI_mul, iI_neg, iI_lt, iI_le, iI_eq, b1_s, b2_s, ↓reduceIte, L0, L1, L2, L3, L4, L5, L6, L7, L8, L9, L10, L12, L20, L22, L24, L26, L27, L28, L32, L40, L60, L73, L95, L97, L222, L240, L441, L442, L622, Lm1, Lmh, L11, L13, L14, L15, L16, L17, L18, L19, L21, L23, L25, L30, L31, L33, L36, L39, L41, L44, L48, L53, L54, L55, L57, L58, L59, L91, L93, L98, L99, L100, L105, L106, L112, L114, L115, L119, L122, L160, L180, L200, L255, L1440, L24880, L63, Lm2, pX9_cursor, c0.all, hh, bI_t, Int.reduceEq, gr3, ra, gi_at u5 1 rfl]
    · by_cases y1 : y = 1
      · subst y1; simp (disch := (first | assumption | (refine sm_of ?_ ?_ <;> omega) | fail)) only [iI_add, iI_sub, iI_mul, iI_neg, iI_lt, iI_le, iI_eq, b1_s, b2_s, ↓reduceIte, L0, L1, L2, L3, L4, L5, L6, L7, L8, L9, L10, L12, L20, L22, L24, L26, L27, L28, L32, L40, L60, L73, L95, L97, L222, L240, L441, L442, L622, Lm1, Lmh, L11, L13, L14, L15, L16, L17, L18, L19, L21, L23, L25, L30, L31, L33, L36, L39, L41, L44, L48, L53, L54, L55, L57, L58, L59, L91, L93, L98, L99, L100, L105, L106, L112, L114, L115, L119, L122, L160, L180, L200, L255, L1440, L24880, L63, Lm2, pX9_cursor, c0.all, hh, bI_t, Int.reduceEq, gr3, ra, gr_at u5 0 rfl, uw]
      · by_cases y2 : y = 2
        · subst y2; simp (disch := (first | assumption | (refine sm_of ?_ ?_ <;> omega) | fail)) only [iI_add, iI_sub, iI_mul, iI_neg, iI_lt, iI_le, iI_eq, b1_s, b2_s, ↓reduceIte, L0, L1, L2, L3, L4, L5, L6, L7, L8, L9, L10, L12, L20, L22, L24, L26, L27, L28, L32, L40, L60, L73, L95, L97, L222, L240, L441, L442, L622, Lm1, Lmh, L11, L13, L14, L15, L16, L17, L18, L19, L21, L23, L25, L30, L31, L33, L36, L39, L41, L44, L48, L53, L54, L55, L57, L58, L59, L91, L93, L98, L99, L100, L105, L106, L112, L114, L115, L119, L122, L160, L180, L200, L255, L1440, L24880, L63, Lm2, pX9_cursor, c0.all, hh, bI_t, Int.reduceEq, gr3, ra, gi_at u5 5 rfl]
        · by_cases y3 : y = 3
          · subst y3; simp (disch := (first | assumption | (refine sm_of ?_ ?_ <;> omega) | fail)) only [iI_add, iI_sub, iI_mul, iI_neg, iI_lt, iI_le, iI_eq, b1_s, b2_s, ↓reduceIte, L0, L1, L2, L3, L4, L5, L6, L7, L8, L9, L10, L12, L20, L22, L24, L26, L27, L28, L32, L40, L60, L73, L95, L97, L222, L240, L441, L442, L622, Lm1, Lmh, L11, L13, L14, L15, L16, L17, L18, L19, L21, L23, L25, L30, L31, L33, L36, L39, L41, L44, L48, L53, L54, L55, L57, L58, L59, L91, L93, L98, L99, L100, L105, L106, L112, L114, L115, L119, L122, L160, L180, L200, L255, L1440, L24880, L63, Lm2, pX9_cursor, c0.all, hh, bI_t, Int.reduceEq, gr3, ra, gi_at u5 6 rfl]
          · by_cases y4 : y = 4
            · subst y4; simp (disch := (first | assumption | (refine sm_of ?_ ?_ <;> omega) | fail)) only [iI_add, iI_sub, iI_mul, iI_neg, iI_lt, iI_le, iI_eq, b1_s, b2_s, ↓reduceIte, L0, L1, L2, L3, L4, L5, L6, L7, L8, L9, L10, L12, L20, L22, L24, L26, L27, L28, L32, L40, L60, L73, L95, L97, L222, L240, L441, L442, L622, Lm1, Lmh, L11, L13, L14, L15, L16, L17, L18, L19, L21, L23, L25, L30, L31, L33, L36, L39, L41, L44, L48, L53, L54, L55, L57, L58, L59, L91, L93, L98, L99, L100, L105, L106, L112, L114, L115, L119, L122, L160, L180, L200, L255, L1440, L24880, L63, Lm2, pX9_cursor, c0.all, hh, bI_t, Int.reduceEq, gr3, ra, lf]
            · by_cases y5 : y = 5
              · subst y5
                cases mk : (T.2.2.1 k).2.2.1
                · rw [mk] at u5; simp (disch := (first | assumption | (refine sm_of ?_ ?_ <;> omega) | fail)) only [iI_add, iI_sub, iI_mul, iI_neg, iI_lt, iI_le, iI_eq, b1_s, b2_s, ↓reduceIte, L0, L1, L2, L3, L4, L5, L6, L7, L8, L9, L10, L12, L20, L22, L24, L26, L27, L28, L32, L40, L60, L73, L95, L97, L222, L240, L441, L442, L622, Lm1, Lmh, L11, L13, L14, L15, L16, L17, L18, L19, L21, L23, L25, L30, L31, L33, L36, L39, L41, L44, L48, L53, L54, L55, L57, L58, L59, L91, L93, L98, L99, L100, L105, L106, L112, L114, L115, L119, L122, L160, L180, L200, L255, L1440, L24880, L63, Lm2, pX9_cursor, c0.all, hh, bI_t, Int.reduceEq, gr3, ra, gi_at u5 2 rfl, bI_f, Bool.false_eq_true]
                · rw [mk] at u5; simp (disch := (first | assumption | (refine sm_of ?_ ?_ <;> omega) | fail)) only [iI_add, iI_sub, iI_mul, iI_neg, iI_lt, iI_le, iI_eq, b1_s, b2_s, ↓reduceIte, L0, L1, L2, L3, L4, L5, L6, L7, L8, L9, L10, L12, L20, L22, L24, L26, L27, L28, L32, L40, L60, L73, L95, L97, L222, L240, L441, L442, L622, Lm1, Lmh, L11, L13, L14, L15, L16, L17, L18, L19, L21, L23, L25, L30, L31, L33, L36, L39, L41, L44, L48, L53, L54, L55, L57, L58, L59, L91, L93, L98, L99, L100, L105, L106, L112, L114, L115, L119, L122, L160, L180, L200, L255, L1440, L24880, L63, Lm2, pX9_cursor, c0.all, hh, bI_t, Int.reduceEq, gr3, ra, gi_at u5 2 rfl]
              · simp (disch := (first | assumption | (refine sm_of ?_ ?_ <;> omega) | fail)) only [iI_add, iI_sub, iI_mul, iI_neg, iI_lt, iI_le, iI_eq, b1_s, b2_s, ↓reduceIte, L0, L1, L2, L3, L4, L5, L6, L7, L8, L9, L10, L12, L20, L22, L24, L26, L27, L28, L32, L40, L60, L73, L95, L97, L222, L240, L441, L442, L622, Lm1, Lmh, L11, L13, L14, L15, L16, L17, L18, L19, L21, L23, L25, L30, L31, L33, L36, L39, L41, L44, L48, L53, L54, L55, L57, L58, L59, L91, L93, L98, L99, L100, L105, L106, L112, L114, L115, L119, L122, L160, L180, L200, L255, L1440, L24880, L63, Lm2, pX9_cursor, c0.all, hh, bI_t, Int.reduceEq, gr3, ra, y0, y1, y2, y3, y4, y5]
theorem k_told {n : Nat} {M : mm_M} {ax : Nat} {B : Int} {tp : List Int} {T : kT} {wd : List Int} {ps : List kT} {im : Option kT} {sc : List (List kS)} {rf : Nat → Int} (h : Cls M ax B tp T wd ps im sc rf) {x y z : Int} (hx : sm x) (hy : sm y) (hz : sm z) : pX9_told n M ax (iI x) (iI y) (iI z) = some (iI (tolK T x y z), M) := by
  obtain ⟨np, d, fw, ff, h⟩ := h
  obtain ⟨c0, c1, c2, c3, c4, c5, c6, c7, c8, c9, c10, c11, c12, c13, c14, c15⟩ := h
  obtain ⟨F, D, cc, C, ⟨hO, hLv, hC, -, -⟩, e, eC, -⟩ := c11
  have hh := st_hasC (n := n) hO hC hx
  have ei : isCu C x = isCu T.2.2.1 x := by
    unfold isCu
    by_cases g : 0 ≤ x ∧ x < 3
    · rw [eC x.toNat (by omega)]
    · rw [decide_eq_false (by omega), decide_eq_false (by omega)]
  rw [ei] at hh
  unfold tolK
  cases g : isCu T.2.2.1 x
  · rw [g] at hh
    rw [if_neg (fun q => by cases q.1)]
    simp (disch := (first | assumption | (refine sm_of ?_ ?_ <;> omega) | fail)) only [iI_add, iI_sub, iI_mul, iI_neg, iI_lt, iI_le, iI_eq, b1_s, b2_s, ↓reduceIte, L0, L1, L2, L3, L4, L5, L6, L7, L8, L9, L10, L12, L20, L22, L24, L26, L27, L28, L32, L40, L60, L73, L95, L97, L222, L240, L441, L442, L622, Lm1, Lmh, L11, L13, L14, L15, L16, L17, L18, L19, L21, L23, L25, L30, L31, L33, L36, L39, L41, L44, L48, L53, L54, L55, L57, L58, L59, L91, L93, L98, L99, L100, L105, L106, L112, L114, L115, L119, L122, L160, L180, L200, L255, L1440, L24880, L63, Lm2, pX9_told, c0.all, hh, bI_f]
  · rw [g] at hh
    obtain ⟨g0, g1, g2⟩ := isCu_spec g
    obtain ⟨k, rfl⟩ := Int.eq_ofNat_of_zero_le g0
    rw [Int.toNat_natCast]
    have u := hC.2 k (by omega)
    rw [eC k (by omega)] at u
    have ra := hC.ra (i := k) (by omega) (by omega)
    rw [Int.toNat_natCast] at ra
    obtain ⟨-, -, p9, -, u5, -, -, ⟨f8, u8, u8'⟩, f9, u9, u9'⟩ := u
    have gr3 : mm_gr 6 3 M (ax + 139) = some (ax + 139 + 2) := gr_at hO.2.2 3 rfl
    by_cases y0 : y < 0
    · rw [if_neg (by omega)]
      simp (disch := (first | assumption | (refine sm_of ?_ ?_ <;> omega) | fail)) only [iI_add, iI_sub, iI_mul, iI_neg, iI_lt, iI_le, iI_eq, b1_s, b2_s, ↓reduceIte, L0, L1, L2, L3, L4, L5, L6, L7, L8, L9, L10, L12, L20, L22, L24, L26, L27, L28, L32, L40, L60, L73, L95, L97, L222, L240, L441, L442, L622, Lm1, Lmh, L11, L13, L14, L15, L16, L17, L18, L19, L21, L23, L25, L30, L31, L33, L36, L39, L41, L44, L48, L53, L54, L55, L57, L58, L59, L91, L93, L98, L99, L100, L105, L106, L112, L114, L115, L119, L122, L160, L180, L200, L255, L1440, L24880, L63, Lm2, pX9_told, c0.all, hh, bI_t, Int.reduceEq, y0]
    · obtain ⟨j, rfl⟩ := Int.eq_ofNat_of_zero_le (show 0 ≤ y by omega)
      have gi5 := gi_at u5 5 rfl
      have gr7 := gr_at u5 7 rfl
      have gr8 := gr_at u5 8 rfl
      generalize (T.2.2.1 k).2.2.2.2.2.2.1 = pg at *
      by_cases y1 : (j : Int) < pg.length
      · rw [if_pos ⟨rfl, by omega, by omega⟩, Int.toNat_natCast]
        have i8 := ia_at u8 (i := (j : Int)) (by omega) (by omega) (sm_of (by omega) (by omega))
        have i9 := ia_at u9 (i := (j : Int)) (by omega) (by omega) (sm_of (by omega) (by omega))
        rw [Int.toNat_natCast, u8' j (by omega)] at i8
        rw [Int.toNat_natCast, u9' j (by omega)] at i9
        by_cases z0 : z = 0
        · subst z0
          simp (disch := (first | assumption | (refine sm_of ?_ ?_ <;> omega) | fail)) only [iI_add, iI_sub, iI_mul, iI_neg, iI_lt, iI_le, iI_eq, b1_s, b2_s, ↓reduceIte, L0, L1, L2, L3, L4, L5, L6, L7, L8, L9, L10, L12, L20, L22, L24, L26, L27, L28, L32, L40, L60, L73, L95, L97, L222, L240, L441, L442, L622, Lm1, Lmh, L11, L13, L14, L15, L16, L17, L18, L19, L21, L23, L25, L30, L31, L33, L36, L39, L41, L44, L48, L53, L54, L55, L57, L58, L59, L91, L93, L98, L99, L100, L105, L106, L112, L114, L115, L119, L122, L160, L180, L200, L255, L1440, L24880, L63, Lm2, pX9_told, c0.all, hh, bI_t, Int.reduceEq, y0, gr3, ra, gi5, y1, gr7, i8]
        · by_cases z1 : z = 1
          · subst z1
            simp (disch := (first | assumption | (refine sm_of ?_ ?_ <;> omega) | fail)) only [iI_add, iI_sub, iI_mul, iI_neg, iI_lt, iI_le, iI_eq, b1_s, b2_s, ↓reduceIte, L0, L1, L2, L3, L4, L5, L6, L7, L8, L9, L10, L12, L20, L22, L24, L26, L27, L28, L32, L40, L60, L73, L95, L97, L222, L240, L441, L442, L622, Lm1, Lmh, L11, L13, L14, L15, L16, L17, L18, L19, L21, L23, L25, L30, L31, L33, L36, L39, L41, L44, L48, L53, L54, L55, L57, L58, L59, L91, L93, L98, L99, L100, L105, L106, L112, L114, L115, L119, L122, L160, L180, L200, L255, L1440, L24880, L63, Lm2, pX9_told, c0.all, hh, bI_t, Int.reduceEq, y0, gr3, ra, gi5, y1, gr8, i9]
          · simp (disch := (first | assumption | (refine sm_of ?_ ?_ <;> omega) | fail)) only [iI_add, iI_sub, iI_mul, iI_neg, iI_lt, iI_le, iI_eq, b1_s, b2_s, ↓reduceIte, L0, L1, L2, L3, L4, L5, L6, L7, L8, L9, L10, L12, L20, L22, L24, L26, L27, L28, L32, L40, L60, L73, L95, L97, L222, L240, L441, L442, L622, Lm1, Lmh, L11, L13, L14, L15, L16, L17, L18, L19, L21, L23, L25, L30, L31, L33, L36, L39, L41, L44, L48, L53, L54, L55, L57, L58, L59, L91, L93, L98, L99, L100, L105, L106, L112, L114, L115, L119, L122, L160, L180, L200, L255, L1440, L24880, L63, Lm2, pX9_told, c0.all, hh, bI_t, Int.reduceEq, y0, gr3, ra, gi5, y1, z0, z1]
      · rw [if_neg (by omega)]
        simp (disch := (first | assumption | (refine sm_of ?_ ?_ <;> omega) | fail)) only [iI_add, iI_sub, iI_mul, iI_neg, iI_lt, iI_le, iI_eq, b1_s, b2_s, ↓reduceIte, L0, L1, L2, L3, L4, L5, L6, L7, L8, L9, L10, L12, L20, L22, L24, L26, L27, L28, L32, L40, L60, L73, L95, L97, L222, L240, L441, L442, L622, Lm1, Lmh, L11, L13, L14, L15, L16, L17, L18, L19, L21, L23, L25, L30, L31, L33, L36, L39, L41, L44, L48, L53, L54, L55, L57, L58, L59, L91, L93, L98, L99, L100, L105, L106, L112, L114, L115, L119, L122, L160, L180, L200, L255, L1440, L24880, L63, Lm2, pX9_told, c0.all, hh, bI_t, Int.reduceEq, y0, gr3, ra, gi5, y1]
theorem c_hasS {n : Nat} {M : mm_M} {ax : Nat} {B : Int} {hi : Bool} {np cp ns : Nat} {d : Int64} {tp : List Int} {T : kT} {wd : List Int} {ps : List kT} {im : Option kT} {sc : List (List kS)} {rf : Nat → Int} {fw ff : Bool} (h : ClW M ax B hi np cp ns d tp T wd ps im sc rf fw ff) (h4 : ns ≤ 4) {x : Int} (hx : sm x) : pX9_hasScript n M ax (iI x) = some (bI (decide (0 ≤ x ∧ x < ns)), M) := by
  by_cases x0 : x < 0
  · rw [decide_eq_false (by omega)]
    simp (disch := (first | assumption | (refine sm_of ?_ ?_ <;> omega) | fail)) only [iI_add, iI_sub, iI_mul, iI_neg, iI_lt, iI_le, iI_eq, b1_s, b2_s, ↓reduceIte, L0, L1, L2, L3, L4, L5, L6, L7, L8, L9, L10, L12, L20, L22, L24, L26, L27, L28, L32, L40, L60, L73, L95, L97, L222, L240, L441, L442, L622, Lm1, Lmh, L11, L13, L14, L15, L16, L17, L18, L19, L21, L23, L25, L30, L31, L33, L36, L39, L41, L44, L48, L53, L54, L55, L57, L58, L59, L91, L93, L98, L99, L100, L105, L106, L112, L114, L115, L119, L122, L160, L180, L200, L255, L1440, L24880, L63, Lm2, pX9_hasScript, h.1.all, x0]
    rfl
  · by_cases x1 : (ns : Int) ≤ x
    · rw [decide_eq_false (by omega)]
      simp (disch := (first | assumption | (refine sm_of ?_ ?_ <;> omega) | fail)) only [iI_add, iI_sub, iI_mul, iI_neg, iI_lt, iI_le, iI_eq, b1_s, b2_s, ↓reduceIte, L0, L1, L2, L3, L4, L5, L6, L7, L8, L9, L10, L12, L20, L22, L24, L26, L27, L28, L32, L40, L60, L73, L95, L97, L222, L240, L441, L442, L622, Lm1, Lmh, L11, L13, L14, L15, L16, L17, L18, L19, L21, L23, L25, L30, L31, L33, L36, L39, L41, L44, L48, L53, L54, L55, L57, L58, L59, L91, L93, L98, L99, L100, L105, L106, L112, L114, L115, L119, L122, L160, L180, L200, L255, L1440, L24880, L63, Lm2, pX9_hasScript, h.1.all, x0, x1]
      rfl
    · rw [decide_eq_true (by omega)]
      simp (disch := (first | assumption | (refine sm_of ?_ ?_ <;> omega) | fail)) only [iI_add, iI_sub, iI_mul, iI_neg, iI_lt, iI_le, iI_eq, b1_s, b2_s, ↓reduceIte, L0, L1, L2, L3, L4, L5, L6, L7, L8, L9, L10, L12, L20, L22, L24, L26, L27, L28, L32, L40, L60, L73, L95, L97, L222, L240, L441, L442, L622, Lm1, Lmh, L11, L13, L14, L15, L16, L17, L18, L19, L21, L23, L25, L30, L31, L33, L36, L39, L41, L44, L48, L53, L54, L55, L57, L58, L59, L91, L93, L98, L99, L100, L105, L106, L112, L114, L115, L119, L122, L160, L180, L200, L255, L1440, L24880, L63, Lm2, pX9_hasScript, h.1.all, x0, x1]
      rfl
theorem k_step {n : Nat} {M : mm_M} {ax : Nat} {B : Int} {tp : List Int} {T : kT} {wd : List Int} {ps : List kT} {im : Option kT} {sc : List (List kS)} {rf : Nat → Int} (h : Cls M ax B tp T wd ps im sc rf) {x y z : Int} (hx : sm x) (hy : sm y) (hz : sm z) : pX9_step n M ax (iI x) (iI y) (iI z) = some (iI (stpK sc x y z), M) := by
  obtain ⟨np, d, fw, ff, h⟩ := h
  have h' := h
  obtain ⟨c0, c1, c2, c3, c4, c5, c6, c7, c8, c9, c10, c11, c12, c13, c14, c15⟩ := h'
  obtain ⟨l4, -, sv⟩ := c15
  have hs := c_hasS (n := n) h l4 hx
  unfold stpK
  by_cases g : 0 ≤ x ∧ x < sc.length
  · rw [decide_eq_true g] at hs
    obtain ⟨k, rfl⟩ := Int.eq_ofNat_of_zero_le g.1
    rw [Int.toNat_natCast]
    obtain ⟨sA, s12, s1, s2⟩ := sv k (by omega)
    obtain ⟨-, ⟨f, q2, q3⟩, -⟩ := sA
    obtain ⟨f9, r1, r2⟩ := c9
    have ra := ra_at r1 (i := (k : Int)) (by omega) (by omega) (by omega) (sm_of (by omega) (by omega))
    rw [Int.toNat_natCast, r2 k (by omega)] at ra
    have gi1 := gi_at s1 1 rfl
    have gr0 := gr_at s1 0 rfl
    generalize sc.getD k [] = zs at *
    by_cases y0 : y < 0
    · rw [if_neg (by omega)]
      simp (disch := (first | assumption | (refine sm_of ?_ ?_ <;> omega) | fail)) only [iI_add, iI_sub, iI_mul, iI_neg, iI_lt, iI_le, iI_eq, b1_s, b2_s, ↓reduceIte, L0, L1, L2, L3, L4, L5, L6, L7, L8, L9, L10, L12, L20, L22, L24, L26, L27, L28, L32, L40, L60, L73, L95, L97, L222, L240, L441, L442, L622, Lm1, Lmh, L11, L13, L14, L15, L16, L17, L18, L19, L21, L23, L25, L30, L31, L33, L36, L39, L41, L44, L48, L53, L54, L55, L57, L58, L59, L91, L93, L98, L99, L100, L105, L106, L112, L114, L115, L119, L122, L160, L180, L200, L255, L1440, L24880, L63, Lm2, pX9_step, c0.all, hs, bI_t, Int.reduceEq, y0]
    · obtain ⟨j, rfl⟩ := Int.eq_ofNat_of_zero_le (show 0 ≤ y by omega)
      by_cases y1 : (j : Int) < zs.length
      · rw [if_pos ⟨by omega, by omega, by omega, by omega⟩, Int.toNat_natCast]
        have rb := ra_at q2 (i := (j : Int)) (by omega) (by omega) (by omega) (sm_of (by omega) (by omega))
        rw [Int.toNat_natCast, q3 j (by omega)] at rb
        obtain ⟨w1, w2⟩ := s2 j (by omega)
        generalize zs.getD j kS0 = zz at *
        by_cases z0 : z = 0
        · subst z0
          simp (disch := (first | assumption | (refine sm_of ?_ ?_ <;> omega) | fail)) only [iI_add, iI_sub, iI_mul, iI_neg, iI_lt, iI_le, iI_eq, b1_s, b2_s, ↓reduceIte, L0, L1, L2, L3, L4, L5, L6, L7, L8, L9, L10, L12, L20, L22, L24, L26, L27, L28, L32, L40, L60, L73, L95, L97, L222, L240, L441, L442, L622, Lm1, Lmh, L11, L13, L14, L15, L16, L17, L18, L19, L21, L23, L25, L30, L31, L33, L36, L39, L41, L44, L48, L53, L54, L55, L57, L58, L59, L91, L93, L98, L99, L100, L105, L106, L112, L114, L115, L119, L122, L160, L180, L200, L255, L1440, L24880, L63, Lm2, pX9_step, c0.all, hs, bI_t, Int.reduceEq, y0, ra, gi1, y1, gr0, rb, gi_at w1 0 rfl]
        · by_cases z1 : z = 1
          · subst z1
            simp (disch := (first | assumption | (refine sm_of ?_ ?_ <;> omega) | fail)) only [iI_add, iI_sub, iI_mul, iI_neg, iI_lt, iI_le, iI_eq, b1_s, b2_s, ↓reduceIte, L0, L1, L2, L3, L4, L5, L6, L7, L8, L9, L10, L12, L20, L22, L24, L26, L27, L28, L32, L40, L60, L73, L95, L97, L222, L240, L441, L442, L622, Lm1, Lmh, L11, L13, L14, L15, L16, L17, L18, L19, L21, L23, L25, L30, L31, L33, L36, L39, L41, L44, L48, L53, L54, L55, L57, L58, L59, L91, L93, L98, L99, L100, L105, L106, L112, L114, L115, L119, L122, L160, L180, L200, L255, L1440, L24880, L63, Lm2, pX9_step, c0.all, hs, bI_t, Int.reduceEq, y0, ra, gi1, y1, gr0, rb, gi_at w1 1 rfl]
          · by_cases z2 : z = 2
            · subst z2
              simp (disch := (first | assumption | (refine sm_of ?_ ?_ <;> omega) | fail)) only [iI_add, iI_sub, iI_mul, iI_neg, iI_lt, iI_le, iI_eq, b1_s, b2_s, ↓reduceIte, L0, L1, L2, L3, L4, L5, L6, L7, L8, L9, L10, L12, L20, L22, L24, L26, L27, L28, L32, L40, L60, L73, L95, L97, L222, L240, L441, L442, L622, Lm1, Lmh, L11, L13, L14, L15, L16, L17, L18, L19, L21, L23, L25, L30, L31, L33, L36, L39, L41, L44, L48, L53, L54, L55, L57, L58, L59, L91, L93, L98, L99, L100, L105, L106, L112, L114, L115, L119, L122, L160, L180, L200, L255, L1440, L24880, L63, Lm2, pX9_step, c0.all, hs, bI_t, Int.reduceEq, y0, ra, gi1, y1, gr0, rb, gi_at w1 2 rfl]
            · by_cases z3 : z = 3
              · subst z3
                simp (disch := (first | assumption | (refine sm_of ?_ ?_ <;> omega) | fail)) only [iI_add, iI_sub, iI_mul, iI_neg, iI_lt, iI_le, iI_eq, b1_s, b2_s, ↓reduceIte, L0, L1, L2, L3, L4, L5, L6, L7, L8, L9, L10, L12, L20, L22, L24, L26, L27, L28, L32, L40, L60, L73, L95, L97, L222, L240, L441, L442, L622, Lm1, Lmh, L11, L13, L14, L15, L16, L17, L18, L19, L21, L23, L25, L30, L31, L33, L36, L39, L41, L44, L48, L53, L54, L55, L57, L58, L59, L91, L93, L98, L99, L100, L105, L106, L112, L114, L115, L119, L122, L160, L180, L200, L255, L1440, L24880, L63, Lm2, pX9_step, c0.all, hs, bI_t, Int.reduceEq, y0, ra, gi1, y1, gr0, rb, gr_at w1 3 rfl, sg_n w2]
              · simp (disch := (first | assumption | (refine sm_of ?_ ?_ <;> omega) | fail)) only [iI_add, iI_sub, iI_mul, iI_neg, iI_lt, iI_le, iI_eq, b1_s, b2_s, ↓reduceIte, L0, L1, L2, L3, L4, L5, L6, L7, L8, L9, L10, L12, L20, L22, L24, L26, L27, L28, L32, L40, L60, L73, L95, L97, L222, L240, L441, L442, L622, Lm1, Lmh, L11, L13, L14, L15, L16, L17, L18, L19, L21, L23, L25, L30, L31, L33, L36, L39, L41, L44, L48, L53, L54, L55, L57, L58, L59, L91, L93, L98, L99, L100, L105, L106, L112, L114, L115, L119, L122, L160, L180, L200, L255, L1440, L24880, L63, Lm2, pX9_step, c0.all, hs, bI_t, Int.reduceEq, y0, ra, gi1, y1, gr0, rb, z0, z1, z2, z3]
      · rw [if_neg (by omega)]
        simp (disch := (first | assumption | (refine sm_of ?_ ?_ <;> omega) | fail)) only [iI_add, iI_sub, iI_mul, iI_neg, iI_lt, iI_le, iI_eq, b1_s, b2_s, ↓reduceIte, L0, L1, L2, L3, L4, L5, L6, L7, L8, L9, L10, L12, L20, L22, L24, L26, L27, L28, L32, L40, L60, L73, L95, L97, L222, L240, L441, L442, L622, Lm1, Lmh, L11, L13, L14, L15, L16, L17, L18, L19, L21, L23, L25, L30, L31, L33, L36, L39, L41, L44, L48, L53, L54, L55, L57, L58, L59, L91, L93, L98, L99, L100, L105, L106, L112, L114, L115, L119, L122, L160, L180, L200, L255, L1440, L24880, L63, Lm2, pX9_step, c0.all, hs, bI_t, Int.reduceEq, y0, ra, gi1, y1]
  · rw [decide_eq_false g] at hs
    rw [if_neg (by omega)]
    simp (disch := (first | assumption | (refine sm_of ?_ ?_ <;> omega) | fail)) only [iI_add, iI_sub, iI_mul, iI_neg, iI_lt, iI_le, iI_eq, b1_s, b2_s, ↓reduceIte, L0, L1, L2, L3, L4, L5, L6, L7, L8, L9, L10, L12, L20, L22, L24, L26, L27, L28, L32, L40, L60, L73, L95, L97, L222, L240, L441, L442, L622, Lm1, Lmh, L11, L13, L14, L15, L16, L17, L18, L19, L21, L23, L25, L30, L31, L33, L36, L39, L41, L44, L48, L53, L54, L55, L57, L58, L59, L91, L93, L98, L99, L100, L105, L106, L112, L114, L115, L119, L122, L160, L180, L200, L255, L1440, L24880, L63, Lm2, pX9_step, c0.all, hs, bI_f]
