/-! the class: the acts -/
theorem c_tell {n : Nat} {M : mm_M} {ax : Nat} {B : Int} {hi : Bool} {np cp ns : Nat} {d : Int64} {tp : List Int} {T : kT} {wd : List Int} {ps : List kT} {im : Option kT} {sc : List (List kS)} {rf : Nat → Int} {fw ff : Bool} (h : ClW M ax B hi np cp ns d tp T wd ps im sc rf fw ff) (s x y : Int) : ∃ M1, pX7_tell n M (ax + 134) (iI s) (iI x) (iI y) = some M1 ∧ ClW M1 ax B hi np cp ns d tp T wd ps im sc rf fw ff ∧ SpZ M1 (ax + 134) (s, x, y, []) ∧ fr M M1 ax 2875 := by
  obtain ⟨s0, x0, y0, xs, sp⟩ := h.2.2.2.2.2.2.2.2.1
  obtain ⟨M1, e1, s1, f1⟩ := sp_tell (n := n) sp (s' := iI s) (x' := iI x) (y' := iI y)
  exact ⟨M1, e1, h.s8 f1 (by omega) ⟨_, _, _, _, s1⟩, s1, f1.mono (by omega) (by omega)⟩
theorem c_ask {n : Nat} (hn : 300 ≤ n) {M : mm_M} {ax : Nat} {B : Int} {hi : Bool} {np cp ns : Nat} {d : Int64} {tp : List Int} {T : kT} {wd : List Int} {ps : List kT} {im : Option kT} {sc : List (List kS)} {rf : Nat → Int} {fw ff : Bool} (h : ClW M ax B hi np cp ns d tp T wd ps im sc rf fw ff) (s x : Int) : ∃ M1, pX9_askWithTape n M ax (iI s) (iI x) = some M1 ∧ ClW M1 ax B hi np cp ns d tp T wd ps im sc rf fw ff ∧ SpZ M1 (ax + 134) (s, x, -1000000, lih tp) ∧ fr M M1 ax 2875 := by
  obtain ⟨M1, e1, b1, s1, f1⟩ := c_tell (n := n) h s x (-1000000)
  obtain ⟨M2, e2, t2, g2, k1, k2⟩ := tr_row hn (s := ax + 134 + 1) (by omega) b1.2.1 s1.2 (most := 20) (by omega)
  have e2 : pX8_rowFault n M1 (ax + 1) (ax + 134 + 1) (iI 20) = _ := e2
  have ff2 : fr2 M1 M2 (ax + 1) 2 (ax + 135) 2 := ⟨k1, fun q a b => k2 q (by omega) (by omega)⟩
  obtain ⟨Mm, fa, fb⟩ := ff2.split
  have bm := b1.s1 fa (by omega) (t2.fr fb.symm (by omega))
  have sp2 : SpZ M2 (ax + 134) (s, x, -1000000, (rds tp 20 0).1) := ⟨(k2 _ (by omega) (by omega)).trans s1.1, g2⟩
  have b2 := bm.s8 fb (by omega) ⟨_, _, _, _, sp2⟩
  have f12 : fr M M2 ax 2875 := f1.trans ((fa.mono (by omega) (by omega)).trans (fb.mono (by omega) (by omega)))
  have rb := rowF_bd h.2.1.1 20
  unfold lih
  by_cases r : rowF tp 20 = -1
  · rw [if_pos r]
    refine ⟨M2, ?_, b2, sp2, f12⟩
    simp (disch := (first | assumption | (refine sm_of ?_ ?_ <;> omega) | fail)) only [iI_add, iI_sub, iI_mul, iI_neg, iI_lt, iI_le, iI_eq, b1_s, b2_s, ↓reduceIte, L0, L1, L2, L3, L4, L5, L6, L7, L8, L9, L10, L12, L20, L22, L24, L26, L27, L28, L32, L40, L60, L73, L95, L97, L222, L240, L441, L442, L622, Lm1, Lmh, L11, L13, L14, L15, L16, L17, L18, L19, L21, L23, L25, L30, L31, L33, L36, L39, L41, L44, L48, L53, L54, L55, L57, L58, L59, L91, L93, L98, L99, L100, L105, L106, L112, L114, L115, L119, L122, L160, L180, L200, L255, L1440, L24880, L63, Lm2, pX9_askWithTape, h.1.all, e1, b1.1.all, gr_at s1.1 3 rfl, e2, r]
  · rw [if_neg r]
    obtain ⟨M3, e3, s3, f3⟩ := sg_cut sp2.2 (p := 0) (by omega)
    have e3 : mm_pi 5 1 M2 (ax + 134 + 1) (iI 0) = some M3 := e3
    have s3 : Sg M3 (ax + 134 + 1) [] := s3
    have sp3 : SpZ M3 (ax + 134) (s, x, -1000000, []) := ⟨f3.at sp2.1 (by omega), s3⟩
    refine ⟨M3, ?_, b2.s8 f3 (by omega) ⟨_, _, _, _, sp3⟩, sp3, f12.trans (f3.mono (by omega) (by omega))⟩
    simp (disch := (first | assumption | (refine sm_of ?_ ?_ <;> omega) | fail)) only [iI_add, iI_sub, iI_mul, iI_neg, iI_lt, iI_le, iI_eq, b1_s, b2_s, ↓reduceIte, L0, L1, L2, L3, L4, L5, L6, L7, L8, L9, L10, L12, L20, L22, L24, L26, L27, L28, L32, L40, L60, L73, L95, L97, L222, L240, L441, L442, L622, Lm1, Lmh, L11, L13, L14, L15, L16, L17, L18, L19, L21, L23, L25, L30, L31, L33, L36, L39, L41, L44, L48, L53, L54, L55, L57, L58, L59, L91, L93, L98, L99, L100, L105, L106, L112, L114, L115, L119, L122, L160, L180, L200, L255, L1440, L24880, L63, Lm2, pX9_askWithTape, h.1.all, e1, b1.1.all, gr_at s1.1 3 rfl, e2, r, b2.1.all, gr_at sp2.1 3 rfl, e3]
theorem c_spend {n : Nat} {M : mm_M} {ax : Nat} {B : Int} {hi : Bool} {np cp ns : Nat} {d : Int64} {tp : List Int} {T : kT} {wd : List Int} {ps : List kT} {im : Option kT} {sc : List (List kS)} {rf : Nat → Int} {fw ff : Bool} (h : ClW M ax B hi np cp ns d tp T wd ps im sc rf fw ff) {v : Int} (hv : sm v) : ∃ M1, pX9_spendTape n M ax (iI v) = some (iI v, M1) ∧ ClW M1 ax B hi np cp ns d (if v = -1 then tp else []) T wd ps im sc rf fw ff ∧ fr M M1 ax 2875 := by
  by_cases c : v = -1
  · rw [if_pos c]
    refine ⟨M, ?_, h, fr.rfl⟩
    simp (disch := (first | assumption | (refine sm_of ?_ ?_ <;> omega) | fail)) only [iI_add, iI_sub, iI_mul, iI_neg, iI_lt, iI_le, iI_eq, b1_s, b2_s, ↓reduceIte, L0, L1, L2, L3, L4, L5, L6, L7, L8, L9, L10, L12, L20, L22, L24, L26, L27, L28, L32, L40, L60, L73, L95, L97, L222, L240, L441, L442, L622, Lm1, Lmh, L11, L13, L14, L15, L16, L17, L18, L19, L21, L23, L25, L30, L31, L33, L36, L39, L41, L44, L48, L53, L54, L55, L57, L58, L59, L91, L93, L98, L99, L100, L105, L106, L112, L114, L115, L119, L122, L160, L180, L200, L255, L1440, L24880, L63, Lm2, pX9_spendTape, h.1.all, c]
  · rw [if_neg c]
    obtain ⟨M2, e2, t2, f2⟩ := tr_cut h.2.1 (k := 0) (by omega)
    have e2 : mm_pi 8 1 M (ax + 1) (iI 0) = some M2 := e2
    rw [List.take_zero] at t2
    refine ⟨M2, ?_, h.s1 f2 (by omega) t2, f2.mono (by omega) (by omega)⟩
    simp (disch := (first | assumption | (refine sm_of ?_ ?_ <;> omega) | fail)) only [iI_add, iI_sub, iI_mul, iI_neg, iI_lt, iI_le, iI_eq, b1_s, b2_s, ↓reduceIte, L0, L1, L2, L3, L4, L5, L6, L7, L8, L9, L10, L12, L20, L22, L24, L26, L27, L28, L32, L40, L60, L73, L95, L97, L222, L240, L441, L442, L622, Lm1, Lmh, L11, L13, L14, L15, L16, L17, L18, L19, L21, L23, L25, L30, L31, L33, L36, L39, L41, L44, L48, L53, L54, L55, L57, L58, L59, L91, L93, L98, L99, L100, L105, L106, L112, L114, L115, L119, L122, L160, L180, L200, L255, L1440, L24880, L63, Lm2, pX9_spendTape, h.1.all, c, e2]
theorem c_tact {n : Nat} (hn : 300 ≤ n) {M : mm_M} {ax : Nat} {B : Int} {tp : List Int} {T : kT} {wd : List Int} {ps : List kT} {im : Option kT} {sc : List (List kS)} {rf : Nat → Int} (h : Cls M ax B tp T wd ps im sc rf) (ho : okT T) (hB : B + 2 ≤ 5000000) {s x : Int} (hs : s = 0 ∨ s = 1) (hx : sm x) : ∃ M1 M2 M3, pX9_askWithTape n M ax (iI s) (iI x) = some M1 ∧ mm_gr 9 11 M1 ax = some (ax + 134) ∧ pX9_attempt n M1 ax (ax + 134) (iI 1) = some (iI (attA T (s, x, -1000000, lih tp)), M2) ∧ pX9_spendTape n M2 ax (iI (attA T (s, x, -1000000, lih tp))) = some (iI (attA T (s, x, -1000000, lih tp)), M3) ∧ Cls M3 ax (B + 2) (if attA T (s, x, -1000000, lih tp) = -1 then tp else []) (tryK T ps (s, x, -1000000, lih tp)).1 wd (tryK T ps (s, x, -1000000, lih tp)).2 im sc (attR T (s, x, -1000000, lih tp) rf) ∧ fr M M3 ax 2875 := by
  obtain ⟨np, d, fw, ff, h⟩ := h
  obtain ⟨M1, e1, b1, s1, f1⟩ := c_ask hn h s x
  have ab := attA_bd ho (z := (s, x, -1000000, lih tp)) (by show 0 ≤ s ∧ s ≤ 8; omega)
  obtain ⟨M2, np', fw', ff', e2, b2, f2⟩ := c_att (cp := 0) hn b1 s1 (by show 0 ≤ s ∧ s ≤ 8; omega) hx (show sm (-1000000) from sm_of (by omega) (by omega)) (by omega) hB true
  obtain ⟨M3, e3, b3, f3⟩ := c_spend (n := n) b2 (v := attA T (s, x, -1000000, lih tp)) (sm_of (by omega) (by omega))
  exact ⟨M1, M2, M3, e1, gr_at b1.1 11 rfl, e2, e3, ⟨np', d, fw', ff', b3⟩, (f1.trans f2).trans f3⟩
theorem k_set {n : Nat} (hn : 300 ≤ n) {M : mm_M} {ax : Nat} {B : Int} {tp : List Int} {T : kT} {wd : List Int} {ps : List kT} {im : Option kT} {sc : List (List kS)} {rf : Nat → Int} (h : Cls M ax B tp T wd ps im sc rf) (ho : okT T) (hB : B + 2 ≤ 5000000) {x : Int} (hx : sm x) : ∃ M', pX9_set n M ax (iI x) = some (iI (attA T (0, x, -1000000, lih tp)), M') ∧ Cls M' ax (B + 2) (if attA T (0, x, -1000000, lih tp) = -1 then tp else []) (tryK T ps (0, x, -1000000, lih tp)).1 wd (tryK T ps (0, x, -1000000, lih tp)).2 im sc (attR T (0, x, -1000000, lih tp) rf) ∧ fr M M' ax 2875 := by
  obtain ⟨M1, M2, M3, e1, e2, e3, e4, c, f⟩ := c_tact hn h ho hB (s := 0) (by omega) hx
  obtain ⟨np, d, fw, ff, h⟩ := h
  refine ⟨M3, ?_, c, f⟩
  simp (disch := (first | assumption | (refine sm_of ?_ ?_ <;> omega) | fail)) only [iI_add, iI_sub, iI_mul, iI_neg, iI_lt, iI_le, iI_eq, b1_s, b2_s, ↓reduceIte, L0, L1, L2, L3, L4, L5, L6, L7, L8, L9, L10, L12, L20, L22, L24, L26, L27, L28, L32, L40, L60, L73, L95, L97, L222, L240, L441, L442, L622, Lm1, Lmh, L11, L13, L14, L15, L16, L17, L18, L19, L21, L23, L25, L30, L31, L33, L36, L39, L41, L44, L48, L53, L54, L55, L57, L58, L59, L91, L93, L98, L99, L100, L105, L106, L112, L114, L115, L119, L122, L160, L180, L200, L255, L1440, L24880, L63, Lm2, pX9_set, h.1.all, e1, e2, e3, e4]
theorem k_put {n : Nat} (hn : 300 ≤ n) {M : mm_M} {ax : Nat} {B : Int} {tp : List Int} {T : kT} {wd : List Int} {ps : List kT} {im : Option kT} {sc : List (List kS)} {rf : Nat → Int} (h : Cls M ax B tp T wd ps im sc rf) (ho : okT T) (hB : B + 2 ≤ 5000000) {x : Int} (hx : sm x) : ∃ M', pX9_put n M ax (iI x) = some (iI (attA T (1, x, -1000000, lih tp)), M') ∧ Cls M' ax (B + 2) (if attA T (1, x, -1000000, lih tp) = -1 then tp else []) (tryK T ps (1, x, -1000000, lih tp)).1 wd (tryK T ps (1, x, -1000000, lih tp)).2 im sc (attR T (1, x, -1000000, lih tp) rf) ∧ fr M M' ax 2875 := by
  obtain ⟨M1, M2, M3, e1, e2, e3, e4, c, f⟩ := c_tact hn h ho hB (s := 1) (by omega) hx
  obtain ⟨np, d, fw, ff, h⟩ := h
  refine ⟨M3, ?_, c, f⟩
  simp (disch := (first | assumption | (refine sm_of ?_ ?_ <;> omega) | fail)) only [iI_add, iI_sub, iI_mul, iI_neg, iI_lt, iI_le, iI_eq, b1_s, b2_s, ↓reduceIte, L0, L1, L2, L3, L4, L5, L6, L7, L8, L9, L10, L12, L20, L22, L24, L26, L27, L28, L32, L40, L60, L73, L95, L97, L222, L240, L441, L442, L622, Lm1, Lmh, L11, L13, L14, L15, L16, L17, L18, L19, L21, L23, L25, L30, L31, L33, L36, L39, L41, L44, L48, L53, L54, L55, L57, L58, L59, L91, L93, L98, L99, L100, L105, L106, L112, L114, L115, L119, L122, L160, L180, L200, L255, L1440, L24880, L63, Lm2, pX9_put, h.1.all, e1, e2, e3, e4]
theorem c_act {n : Nat} (hn : 300 ≤ n) {M : mm_M} {ax : Nat} {B : Int} {tp : List Int} {T : kT} {wd : List Int} {ps : List kT} {im : Option kT} {sc : List (List kS)} {rf : Nat → Int} (h : Cls M ax B tp T wd ps im sc rf) (hB : B + 2 ≤ 5000000) {s x y : Int} (hs : 0 ≤ s ∧ s ≤ 8) (hx : sm x) (hy : sm y) : ∃ M1 M2, (∀ (β : Type) (q : Option β), mm_v 9 M ax q = q) ∧ mm_gr 9 11 M ax = some (ax + 134) ∧ pX7_tell n M (ax + 134) (iI s) (iI x) (iI y) = some M1 ∧ mm_gr 9 11 M1 ax = some (ax + 134) ∧ pX9_attempt n M1 ax (ax + 134) (iI 1) = some (iI (attA T (s, x, y, [])), M2) ∧ Cls M2 ax (B + 2) tp (tryK T ps (s, x, y, [])).1 wd (tryK T ps (s, x, y, [])).2 im sc (attR T (s, x, y, []) rf) ∧ fr M M2 ax 2875 := by
  obtain ⟨np, d, fw, ff, h⟩ := h
  obtain ⟨M1, e1, b1, s1, f1⟩ := c_tell (n := n) h s x y
  obtain ⟨M2, np', fw', ff', e2, b2, f2⟩ := c_att (cp := 0) hn b1 s1 hs hx hy (by omega) hB true
  exact ⟨M1, M2, h.1.all.1, gr_at h.1 11 rfl, e1, gr_at b1.1 11 rfl, e2, ⟨np', d, fw', ff', b2⟩, f1.trans f2⟩
theorem k_take {n : Nat} (hn : 300 ≤ n) {M : mm_M} {ax : Nat} {B : Int} {tp : List Int} {T : kT} {wd : List Int} {ps : List kT} {im : Option kT} {sc : List (List kS)} {rf : Nat → Int} (h : Cls M ax B tp T wd ps im sc rf) (hB : B + 2 ≤ 5000000) {x : Int} (hx : sm x) : ∃ M', pX9_take n M ax (iI x) = some (iI (attA T (2, x, -1000000, [])), M') ∧ Cls M' ax (B + 2) tp (tryK T ps (2, x, -1000000, [])).1 wd (tryK T ps (2, x, -1000000, [])).2 im sc (attR T (2, x, -1000000, []) rf) ∧ fr M M' ax 2875 := by
  obtain ⟨M1, M2, e0, e1, e2, e3, e4, c, f⟩ := c_act hn h hB (s := 2) (x := x) (y := -1000000) (by omega) hx (sm_of (by omega) (by omega))
  refine ⟨M2, ?_, c, f⟩
  simp (disch := (first | assumption | (refine sm_of ?_ ?_ <;> omega) | fail)) only [iI_add, iI_sub, iI_mul, iI_neg, iI_lt, iI_le, iI_eq, b1_s, b2_s, ↓reduceIte, L0, L1, L2, L3, L4, L5, L6, L7, L8, L9, L10, L12, L20, L22, L24, L26, L27, L28, L32, L40, L60, L73, L95, L97, L222, L240, L441, L442, L622, Lm1, Lmh, L11, L13, L14, L15, L16, L17, L18, L19, L21, L23, L25, L30, L31, L33, L36, L39, L41, L44, L48, L53, L54, L55, L57, L58, L59, L91, L93, L98, L99, L100, L105, L106, L112, L114, L115, L119, L122, L160, L180, L200, L255, L1440, L24880, L63, Lm2, pX9_take, e0, e1, e2, e3, e4]
theorem k_swap {n : Nat} (hn : 300 ≤ n) {M : mm_M} {ax : Nat} {B : Int} {tp : List Int} {T : kT} {wd : List Int} {ps : List kT} {im : Option kT} {sc : List (List kS)} {rf : Nat → Int} (h : Cls M ax B tp T wd ps im sc rf) (hB : B + 2 ≤ 5000000) {x y : Int} (hx : sm x) (hy : sm y) : ∃ M', pX9_swap n M ax (iI x) (iI y) = some (iI (attA T (3, x, y, [])), M') ∧ Cls M' ax (B + 2) tp (tryK T ps (3, x, y, [])).1 wd (tryK T ps (3, x, y, [])).2 im sc (attR T (3, x, y, []) rf) ∧ fr M M' ax 2875 := by
  obtain ⟨M1, M2, e0, e1, e2, e3, e4, c, f⟩ := c_act hn h hB (s := 3) (x := x) (y := y) (by omega) hx hy
  refine ⟨M2, ?_, c, f⟩
  simp (disch := (first | assumption | (refine sm_of ?_ ?_ <;> omega) | fail)) only [iI_add, iI_sub, iI_mul, iI_neg, iI_lt, iI_le, iI_eq, b1_s, b2_s, ↓reduceIte, L0, L1, L2, L3, L4, L5, L6, L7, L8, L9, L10, L12, L20, L22, L24, L26, L27, L28, L32, L40, L60, L73, L95, L97, L222, L240, L441, L442, L622, Lm1, Lmh, L11, L13, L14, L15, L16, L17, L18, L19, L21, L23, L25, L30, L31, L33, L36, L39, L41, L44, L48, L53, L54, L55, L57, L58, L59, L91, L93, L98, L99, L100, L105, L106, L112, L114, L115, L119, L122, L160, L180, L200, L255, L1440, L24880, L63, Lm2, pX9_swap, e0, e1, e2, e3, e4]
theorem k_page {n : Nat} (hn : 300 ≤ n) {M : mm_M} {ax : Nat} {B : Int} {tp : List Int} {T : kT} {wd : List Int} {ps : List kT} {im : Option kT} {sc : List (List kS)} {rf : Nat → Int} (h : Cls M ax B tp T wd ps im sc rf) (hB : B + 2 ≤ 5000000) {x : Int} (hx : sm x) : ∃ M', pX9_page n M ax (iI x) = some (iI (attA T (5, x, -1000000, [])), M') ∧ Cls M' ax (B + 2) tp (tryK T ps (5, x, -1000000, [])).1 wd (tryK T ps (5, x, -1000000, [])).2 im sc (attR T (5, x, -1000000, []) rf) ∧ fr M M' ax 2875 := by
  obtain ⟨M1, M2, e0, e1, e2, e3, e4, c, f⟩ := c_act hn h hB (s := 5) (x := x) (y := -1000000) (by omega) hx (sm_of (by omega) (by omega))
  refine ⟨M2, ?_, c, f⟩
  simp (disch := (first | assumption | (refine sm_of ?_ ?_ <;> omega) | fail)) only [iI_add, iI_sub, iI_mul, iI_neg, iI_lt, iI_le, iI_eq, b1_s, b2_s, ↓reduceIte, L0, L1, L2, L3, L4, L5, L6, L7, L8, L9, L10, L12, L20, L22, L24, L26, L27, L28, L32, L40, L60, L73, L95, L97, L222, L240, L441, L442, L622, Lm1, Lmh, L11, L13, L14, L15, L16, L17, L18, L19, L21, L23, L25, L30, L31, L33, L36, L39, L41, L44, L48, L53, L54, L55, L57, L58, L59, L91, L93, L98, L99, L100, L105, L106, L112, L114, L115, L119, L122, L160, L180, L200, L255, L1440, L24880, L63, Lm2, pX9_page, e0, e1, e2, e3, e4]
theorem k_rewind {n : Nat} (hn : 300 ≤ n) {M : mm_M} {ax : Nat} {B : Int} {tp : List Int} {T : kT} {wd : List Int} {ps : List kT} {im : Option kT} {sc : List (List kS)} {rf : Nat → Int} (h : Cls M ax B tp T wd ps im sc rf) (hB : B + 2 ≤ 5000000) {x : Int} (hx : sm x) : ∃ M', pX9_rewind n M ax (iI x) = some (iI (attA T (6, x, -1000000, [])), M') ∧ Cls M' ax (B + 2) tp (tryK T ps (6, x, -1000000, [])).1 wd (tryK T ps (6, x, -1000000, [])).2 im sc (attR T (6, x, -1000000, []) rf) ∧ fr M M' ax 2875 := by
  obtain ⟨M1, M2, e0, e1, e2, e3, e4, c, f⟩ := c_act hn h hB (s := 6) (x := x) (y := -1000000) (by omega) hx (sm_of (by omega) (by omega))
  refine ⟨M2, ?_, c, f⟩
  simp (disch := (first | assumption | (refine sm_of ?_ ?_ <;> omega) | fail)) only [iI_add, iI_sub, iI_mul, iI_neg, iI_lt, iI_le, iI_eq, b1_s, b2_s, ↓reduceIte, L0, L1, L2, L3, L4, L5, L6, L7, L8, L9, L10, L12, L20, L22, L24, L26, L27, L28, L32, L40, L60, L73, L95, L97, L222, L240, L441, L442, L622, Lm1, Lmh, L11, L13, L14, L15, L16, L17, L18, L19, L21, L23, L25, L30, L31, L33, L36, L39, L41, L44, L48, L53, L54, L55, L57, L58, L59, L91, L93, L98, L99, L100, L105, L106, L112, L114, L115, L119, L122, L160, L180, L200, L255, L1440, L24880, L63, Lm2, pX9_rewind, e0, e1, e2, e3, e4]
theorem k_split {n : Nat} (hn : 300 ≤ n) {M : mm_M} {ax : Nat} {B : Int} {tp : List Int} {T : kT} {wd : List Int} {ps : List kT} {im : Option kT} {sc : List (List kS)} {rf : Nat → Int} (h : Cls M ax B tp T wd ps im sc rf) (hB : B + 2 ≤ 5000000) {x y : Int} (hx : sm x) (hy : sm y) : ∃ M', pX9_split n M ax (iI x) (iI y) = some (iI (attA T (7, x, y, [])), M') ∧ Cls M' ax (B + 2) tp (tryK T ps (7, x, y, [])).1 wd (tryK T ps (7, x, y, [])).2 im sc (attR T (7, x, y, []) rf) ∧ fr M M' ax 2875 := by
  obtain ⟨M1, M2, e0, e1, e2, e3, e4, c, f⟩ := c_act hn h hB (s := 7) (x := x) (y := y) (by omega) hx hy
  refine ⟨M2, ?_, c, f⟩
  simp (disch := (first | assumption | (refine sm_of ?_ ?_ <;> omega) | fail)) only [iI_add, iI_sub, iI_mul, iI_neg, iI_lt, iI_le, iI_eq, b1_s, b2_s, ↓reduceIte, L0, L1, L2, L3, L4, L5, L6, L7, L8, L9, L10, L12, L20, L22, L24, L26, L27, L28, L32, L40, L60, L73, L95, L97, L222, L240, L441, L442, L622, Lm1, Lmh, L11, L13, L14, L15, L16, L17, L18, L19, L21, L23, L25, L30, L31, L33, L36, L39, L41, L44, L48, L53, L54, L55, L57, L58, L59, L91, L93, L98, L99, L100, L105, L106, L112, L114, L115, L119, L122, L160, L180, L200, L255, L1440, L24880, L63, Lm2, pX9_split, e0, e1, e2, e3, e4]
theorem k_join {n : Nat} (hn : 300 ≤ n) {M : mm_M} {ax : Nat} {B : Int} {tp : List Int} {T : kT} {wd : List Int} {ps : List kT} {im : Option kT} {sc : List (List kS)} {rf : Nat → Int} (h : Cls M ax B tp T wd ps im sc rf) (hB : B + 2 ≤ 5000000) {x : Int} (hx : sm x) : ∃ M', pX9_join n M ax (iI x) = some (iI (attA T (8, x, -1000000, [])), M') ∧ Cls M' ax (B + 2) tp (tryK T ps (8, x, -1000000, [])).1 wd (tryK T ps (8, x, -1000000, [])).2 im sc (attR T (8, x, -1000000, []) rf) ∧ fr M M' ax 2875 := by
  obtain ⟨M1, M2, e0, e1, e2, e3, e4, c, f⟩ := c_act hn h hB (s := 8) (x := x) (y := -1000000) (by omega) hx (sm_of (by omega) (by omega))
  refine ⟨M2, ?_, c, f⟩
  simp (disch := (first | assumption | (refine sm_of ?_ ?_ <;> omega) | fail)) only [iI_add, iI_sub, iI_mul, iI_neg, iI_lt, iI_le, iI_eq, b1_s, b2_s, ↓reduceIte, L0, L1, L2, L3, L4, L5, L6, L7, L8, L9, L10, L12, L20, L22, L24, L26, L27, L28, L32, L40, L60, L73, L95, L97, L222, L240, L441, L442, L622, Lm1, Lmh, L11, L13, L14, L15, L16, L17, L18, L19, L21, L23, L25, L30, L31, L33, L36, L39, L41, L44, L48, L53, L54, L55, L57, L58, L59, L91, L93, L98, L99, L100, L105, L106, L112, L114, L115, L119, L122, L160, L180, L200, L255, L1440, L24880, L63, Lm2, pX9_join, e0, e1, e2, e3, e4]
theorem k_lay {n : Nat} (hn : 300 ≤ n) {M : mm_M} {ax : Nat} {B : Int} {tp : List Int} {T : kT} {wd : List Int} {ps : List kT} {im : Option kT} {sc : List (List kS)} {rf : Nat → Int} (h : Cls M ax B tp T wd ps im sc rf) (hB : B + 2 ≤ 5000000) {x y : Int} (hx : sm x) (hy : sm y) : ∃ M', pX9_lay n M ax (iI x) (iI y) = some (iI (attA T (4, x, y, wd)), M') ∧ Cls M' ax (B + 2) tp (tryK T ps (4, x, y, wd)).1 wd (tryK T ps (4, x, y, wd)).2 im sc (attR T (4, x, y, wd) rf) ∧ fr M M' ax 2875 := by
  obtain ⟨np, d, fw, ff, h⟩ := h
  obtain ⟨M1, e1, b1, s1, f1⟩ := c_tell (n := n) h 4 x y
  obtain ⟨M2, e2, s2, f2⟩ := sg_copy (n := n) s1.2 b1.2.2.2.2.2.1 (by omega)
  have sp2 : SpZ M2 (ax + 134) (4, x, y, wd) := ⟨f2.at s1.1 (by omega), s2⟩
  have b2 := b1.s8 f2 (by omega) ⟨_, _, _, _, sp2⟩
  obtain ⟨M3, np', fw', ff', e3, b3, f3⟩ := c_att (cp := 0) hn b2 sp2 (by show (0 : Int) ≤ 4 ∧ (4 : Int) ≤ 8; omega) hx hy (by omega) hB true
  rw [bI_t] at e3
  refine ⟨M3, ?_, ⟨np', d, fw', ff', b3⟩, (f1.trans (f2.mono (by omega) (by omega))).trans f3⟩
  simp (disch := (first | assumption | (refine sm_of ?_ ?_ <;> omega) | fail)) only [iI_add, iI_sub, iI_mul, iI_neg, iI_lt, iI_le, iI_eq, b1_s, b2_s, ↓reduceIte, L0, L1, L2, L3, L4, L5, L6, L7, L8, L9, L10, L12, L20, L22, L24, L26, L27, L28, L32, L40, L60, L73, L95, L97, L222, L240, L441, L442, L622, Lm1, Lmh, L11, L13, L14, L15, L16, L17, L18, L19, L21, L23, L25, L30, L31, L33, L36, L39, L41, L44, L48, L53, L54, L55, L57, L58, L59, L91, L93, L98, L99, L100, L105, L106, L112, L114, L115, L119, L122, L160, L180, L200, L255, L1440, L24880, L63, Lm2, pX9_lay, h.1.all, e1, b1.1.all, gr_at s1.1 3 rfl, e2, b2.1.all, e3]
theorem k_undo {n : Nat} (hn : 300 ≤ n) {P : kT} {M : mm_M} {ax : Nat} {B : Int} {tp : List Int} {T : kT} {wd : List Int} {ps : List kT} {im : Option kT} {sc : List (List kS)} {rf : Nat → Int} (h : Cls M ax B tp T wd (P :: ps) im sc rf) : ∃ M', pX9_undo n M ax = some (iI ps.length, M') ∧ Cls M' ax B tp P wd ps im sc rf ∧ fr M M' ax 2875 := by
  obtain ⟨np, d, fw, ff, h⟩ := h
  have h' := h
  obtain ⟨c0, c1, c2, c3, c4, c5, c6, c7, c8, c9, c10, c11, c12, c13, c14, c15⟩ := h'
  obtain ⟨np40, pl, pA, pB⟩ := c14
  have s0 := pB 0 (by simp)
  have s0 : St M (ax + 205 + 62 * ((np + 39) % 40)) B P := s0
  have pl' : ps.length < 40 := by simp at pl; omega
  generalize hq : (np + 39) % 40 = np1 at s0
  obtain ⟨M1, e1, s1, f1⟩ := co_p6 c0 np1
  have pv1 : PsV M ax B np1 ps := ⟨by omega, by omega, pA, fun i hi => by
    have := pB (i + 1) (by simp; omega)
    rw [show (np + 39 - (i + 1)) % 40 = (np1 + 39 - i) % 40 by omega] at this
    exact this⟩
  have b1 := h.s0 f1 (by omega) s1 (fun _ => pv1)
  obtain ⟨f4, p1, p2⟩ := c4.fr f1 (by omega)
  have ra := ra_at p1 (i := (np1 : Int)) (by omega) (by omega) (by omega) (sm_of (by omega) (by omega))
  rw [Int.toNat_natCast, p2 _ (by omega)] at ra
  obtain ⟨M2, e2, s2, f2⟩ := t_copy (n := n) (by omega) b1.2.2.2.2.2.2.2.2.2.2.2.1 (s0.fr f1 (by omega)) (by omega)
  have b2 := b1.raw.s11 f2 (by omega) s2
  obtain ⟨M3, e3, s3, f3⟩ := co_p7 b2.co ps.length
  have b3 := b2.s0 f3 (by omega) s3 (fun z => z)
  obtain ⟨M4, e4, b4, f5⟩ := c_forgetR (n := n) b3
  have cp2 : mm_gi 9 7 M2 ax = some (iI ((ps.length : Int) + 1)) := gi_at b2.co 7 rfl
  have cp4 : mm_gi 9 7 M4 ax = some (iI ps.length) := gi_at b4.1 7 rfl
  have o1 := b1.1.all
  refine ⟨M4, ?_, ⟨np1, d, false, false, b4⟩, (((f1.mono (by omega) (by omega)).trans (f2.mono (by omega) (by omega))).trans (f3.mono (by omega) (by omega))).trans (f5.mono (by omega) (by omega))⟩
  have b28 : pX9_undo_b28 n M ax (iI np1) ax = some (iI ps.length, M4) := by
    simp only [pX9_undo_b28, e1, b1_s, o1, ra, e2, cp2, L1, iI_sub, Int.add_sub_cancel, e3, e4, cp4]
  have cpM : mm_gi 9 7 M ax = some (iI ((ps.length : Int) + 1)) := gi_at c0 7 rfl
  by_cases g : np = 0
  · rw [show np1 = 39 by omega] at b28
    have b28 : pX9_undo_b28 n M ax (iI 39) ax = _ := b28
    have npM : mm_gi 9 6 M ax = some (iI 0) := by rw [c0.all.2.2.2.2.2.2.2.1, g]; rfl
    simp (disch := (first | assumption | (refine sm_of ?_ ?_ <;> omega) | fail)) only [iI_add, iI_sub, iI_mul, iI_neg, iI_lt, iI_le, iI_eq, b1_s, b2_s, ↓reduceIte, L0, L1, L2, L3, L4, L5, L6, L7, L8, L9, L10, L12, L20, L22, L24, L26, L27, L28, L32, L40, L60, L73, L95, L97, L222, L240, L441, L442, L622, Lm1, Lmh, L11, L13, L14, L15, L16, L17, L18, L19, L21, L23, L25, L30, L31, L33, L36, L39, L41, L44, L48, L53, L54, L55, L57, L58, L59, L91, L93, L98, L99, L100, L105, L106, L112, L114, L115, L119, L122, L160, L180, L200, L255, L1440, L24880, L63, Lm2, pX9_undo, c0.all.1, cpM, show ¬ (ps.length : Int) + 1 = 0 by omega, npM, b28]
  · rw [show (np1 : Int) = (np : Int) - 1 by omega] at b28
    simp (disch := (first | assumption | (refine sm_of ?_ ?_ <;> omega) | fail)) only [iI_add, iI_sub, iI_mul, iI_neg, iI_lt, iI_le, iI_eq, b1_s, b2_s, ↓reduceIte, L0, L1, L2, L3, L4, L5, L6, L7, L8, L9, L10, L12, L20, L22, L24, L26, L27, L28, L32, L40, L60, L73, L95, L97, L222, L240, L441, L442, L622, Lm1, Lmh, L11, L13, L14, L15, L16, L17, L18, L19, L21, L23, L25, L30, L31, L33, L36, L39, L41, L44, L48, L53, L54, L55, L57, L58, L59, L91, L93, L98, L99, L100, L105, L106, L112, L114, L115, L119, L122, L160, L180, L200, L255, L1440, L24880, L63, Lm2, pX9_undo, c0.all.1, cpM, show ¬ (ps.length : Int) + 1 = 0 by omega, c0.all.2.2.2.2.2.2.2.1, show ¬ (np : Int) = 0 by omega, b28]
theorem k_undo0 {n : Nat} {M : mm_M} {ax : Nat} {B : Int} {tp : List Int} {T : kT} {wd : List Int} {ps : List kT} {im : Option kT} {sc : List (List kS)} {rf : Nat → Int} (h : Cls M ax B tp T wd [] im sc rf) : pX9_undo n M ax = some (iI (-1), M) := by
  obtain ⟨np, d, fw, ff, h⟩ := h
  have cpM : mm_gi 9 7 M ax = some (iI 0) := gi_at h.1 7 rfl
  simp (disch := (first | assumption | (refine sm_of ?_ ?_ <;> omega) | fail)) only [iI_add, iI_sub, iI_mul, iI_neg, iI_lt, iI_le, iI_eq, b1_s, b2_s, ↓reduceIte, L0, L1, L2, L3, L4, L5, L6, L7, L8, L9, L10, L12, L20, L22, L24, L26, L27, L28, L32, L40, L60, L73, L95, L97, L222, L240, L441, L442, L622, Lm1, Lmh, L11, L13, L14, L15, L16, L17, L18, L19, L21, L23, L25, L30, L31, L33, L36, L39, L41, L44, L48, L53, L54, L55, L57, L58, L59, L91, L93, L98, L99, L100, L105, L106, L112, L114, L115, L119, L122, L160, L180, L200, L255, L1440, L24880, L63, Lm2, pX9_undo, h.1.all.1, cpM]
theorem k_image {n : Nat} (hn : 300 ≤ n) {M : mm_M} {ax : Nat} {B : Int} {tp : List Int} {T : kT} {wd : List Int} {ps : List kT} {im : Option kT} {sc : List (List kS)} {rf : Nat → Int} (h : Cls M ax B tp T wd ps im sc rf) (hs : T.1.length ≠ 0) : ∃ M', pX9_image n M ax = some (iI (allS T.1), M') ∧ Cls M' ax B tp T wd ps (some T) sc rf ∧ fr M M' ax 2875 := by
  obtain ⟨np, d, fw, ff, h⟩ := h
  have h' := h
  obtain ⟨c0, c1, c2, c3, c4, c5, c6, c7, c8, c9, c10, c11, c12, c13, c14, c15⟩ := h'
  obtain ⟨gn, g10⟩ := st_n c11
  obtain ⟨I, i1, i2⟩ := c3
  obtain ⟨M1, e1, s1, f1⟩ := t_copy (n := n) (by omega) i1 c11 (by omega)
  have b1 := h.s3 (im' := some T) f1 (by omega) ⟨T, s1, fun J hJ => by cases hJ; rfl⟩
  obtain ⟨M2, e2, s2, f2⟩ := co_p4 b1.1 true
  have b2 := b1.s0 f2 (by omega) s2 (fun z => z)
  have al := t_all (n := n) (by omega) b2.2.2.2.2.2.2.2.2.2.2.2.1
  rw [bI_t] at e2
  refine ⟨M2, ?_, ⟨np, d, fw, ff, b2⟩, (f1.mono (by omega) (by omega)).trans (f2.mono (by omega) (by omega))⟩
  simp (disch := (first | assumption | (refine sm_of ?_ ?_ <;> omega) | fail)) only [iI_add, iI_sub, iI_mul, iI_neg, iI_lt, iI_le, iI_eq, b1_s, b2_s, ↓reduceIte, L0, L1, L2, L3, L4, L5, L6, L7, L8, L9, L10, L12, L20, L22, L24, L26, L27, L28, L32, L40, L60, L73, L95, L97, L222, L240, L441, L442, L622, Lm1, Lmh, L11, L13, L14, L15, L16, L17, L18, L19, L21, L23, L25, L30, L31, L33, L36, L39, L41, L44, L48, L53, L54, L55, L57, L58, L59, L91, L93, L98, L99, L100, L105, L106, L112, L114, L115, L119, L122, L160, L180, L200, L255, L1440, L24880, L63, Lm2, pX9_image, c0.all, gn, show ¬ (T.1.length : Int) = 0 by omega, e1, e2, b2.1.all, al]
theorem k_imageN {n : Nat} {M : mm_M} {ax : Nat} {B : Int} {tp : List Int} {T : kT} {wd : List Int} {ps : List kT} {im : Option kT} {sc : List (List kS)} {rf : Nat → Int} (h : Cls M ax B tp T wd ps im sc rf) (hs : T.1.length = 0) : pX9_image n M ax = some (iI (-1), M) := by
  obtain ⟨np, d, fw, ff, h⟩ := h
  obtain ⟨gn, g10⟩ := st_n h.2.2.2.2.2.2.2.2.2.2.2.1
  simp (disch := (first | assumption | (refine sm_of ?_ ?_ <;> omega) | fail)) only [iI_add, iI_sub, iI_mul, iI_neg, iI_lt, iI_le, iI_eq, b1_s, b2_s, ↓reduceIte, L0, L1, L2, L3, L4, L5, L6, L7, L8, L9, L10, L12, L20, L22, L24, L26, L27, L28, L32, L40, L60, L73, L95, L97, L222, L240, L441, L442, L622, Lm1, Lmh, L11, L13, L14, L15, L16, L17, L18, L19, L21, L23, L25, L30, L31, L33, L36, L39, L41, L44, L48, L53, L54, L55, L57, L58, L59, L91, L93, L98, L99, L100, L105, L106, L112, L114, L115, L119, L122, L160, L180, L200, L255, L1440, L24880, L63, Lm2, pX9_image, h.1.all, gn, show ((T.1.length : Int) = 0) = True from eq_true (by omega)]
theorem k_back {n : Nat} (hn : 300 ≤ n) {I : kT} {M : mm_M} {ax : Nat} {B : Int} {tp : List Int} {T : kT} {wd : List Int} {ps : List kT} {im : Option kT} {sc : List (List kS)} {rf : Nat → Int} (h : Cls M ax B tp T wd ps (some I) sc rf) : ∃ M', pX9_back n M ax = some (iI (allS I.1), M') ∧ Cls M' ax B tp I wd [] (some I) sc rf ∧ fr M M' ax 2875 := by
  obtain ⟨np, d, fw, ff, h⟩ := h
  have h' := h
  obtain ⟨c0, c1, c2, c3, c4, c5, c6, c7, c8, c9, c10, c11, c12, c13, c14, c15⟩ := h'
  obtain ⟨I', i1, i2⟩ := c3
  obtain rfl := i2 I rfl
  obtain ⟨M1, e1, s1, f1⟩ := t_copy (n := n) (by omega) c11 i1 (by omega)
  have b1 := h.raw.s11 f1 (by omega) s1
  obtain ⟨M2, e2, s2, f2⟩ := co_p7 b1.co 0
  have e2 : mm_pi 9 7 M1 ax (iI 0) = some M2 := e2
  have b2 := b1.s0 (ps' := []) f2 (by omega) s2 (fun z => ⟨z.1, by simp, z.2.2.1, fun i hi => by simp at hi⟩)
  obtain ⟨M3, e3, b3, f3⟩ := c_forgetR (n := n) b2
  have al := t_all (n := n) (by omega) b3.2.2.2.2.2.2.2.2.2.2.2.1
  have hi4 : mm_gi 9 4 M ax = some (iI 1) := gi_at c0 4 rfl
  refine ⟨M3, ?_, ⟨np, d, false, false, b3⟩, ((f1.mono (by omega) (by omega)).trans (f2.mono (by omega) (by omega))).trans (f3.mono (by omega) (by omega))⟩
  simp (disch := (first | assumption | (refine sm_of ?_ ?_ <;> omega) | fail)) only [iI_add, iI_sub, iI_mul, iI_neg, iI_lt, iI_le, iI_eq, b1_s, b2_s, ↓reduceIte, L0, L1, L2, L3, L4, L5, L6, L7, L8, L9, L10, L12, L20, L22, L24, L26, L27, L28, L32, L40, L60, L73, L95, L97, L222, L240, L441, L442, L622, Lm1, Lmh, L11, L13, L14, L15, L16, L17, L18, L19, L21, L23, L25, L30, L31, L33, L36, L39, L41, L44, L48, L53, L54, L55, L57, L58, L59, L91, L93, L98, L99, L100, L105, L106, L112, L114, L115, L119, L122, L160, L180, L200, L255, L1440, L24880, L63, Lm2, pX9_back, c0.all.1, c0.all.2.1, c0.all.2.2.1, c0.all.2.2.2.2.1, hi4, Int.reduceEq, e1, e2, e3, b3.1.all, al]
theorem k_backN {n : Nat} {M : mm_M} {ax : Nat} {B : Int} {tp : List Int} {T : kT} {wd : List Int} {ps : List kT} {im : Option kT} {sc : List (List kS)} {rf : Nat → Int} (h : Cls M ax B tp T wd ps none sc rf) : pX9_back n M ax = some (iI (-1), M) := by
  obtain ⟨np, d, fw, ff, h⟩ := h
  have hi4 : mm_gi 9 4 M ax = some (iI 0) := gi_at h.1 4 rfl
  simp (disch := (first | assumption | (refine sm_of ?_ ?_ <;> omega) | fail)) only [iI_add, iI_sub, iI_mul, iI_neg, iI_lt, iI_le, iI_eq, b1_s, b2_s, ↓reduceIte, L0, L1, L2, L3, L4, L5, L6, L7, L8, L9, L10, L12, L20, L22, L24, L26, L27, L28, L32, L40, L60, L73, L95, L97, L222, L240, L441, L442, L622, Lm1, Lmh, L11, L13, L14, L15, L16, L17, L18, L19, L21, L23, L25, L30, L31, L33, L36, L39, L41, L44, L48, L53, L54, L55, L57, L58, L59, L91, L93, L98, L99, L100, L105, L106, L112, L114, L115, L119, L122, L160, L180, L200, L255, L1440, L24880, L63, Lm2, pX9_back, h.1.all.1, hi4]
