/-! the class: counting, spelling, feeding -/
theorem k_unlike {n : Nat} (hn : 300 ≤ n) {M : mm_M} {ax : Nat} {B : Int} {tp : List Int} {T : kT} {wd : List Int} {ps : List kT} {im : Option kT} {sc : List (List kS)} {rf : Nat → Int} (h : Cls M ax B tp T wd ps im sc rf) (hI : Inv T wd ps im sc) {y : Int} (hy : sm y) : ∃ M', pX9_unlike n M ax (iI y) = some (iI (unlK T.1 y), M') ∧ Cls M' ax B tp T wd ps im sc rf ∧ fr M M' ax 2875 := by
  obtain ⟨np, d, fw, ff, h⟩ := h
  have ho := hI.1.1
  have hd := hI.1.2.1
  have h' := h
  obtain ⟨c0, c1, c2, c3, c4, c5, c6, c7, c8, c9, c10, c11, c12, c13, c14, c15⟩ := h'
  obtain ⟨F, D, cc, C, ⟨hO, hLv, -, -, -⟩, e, -⟩ := c11
  have cl : cc = T.1.length := by rw [e, lns_len]
  have hc := hO.1
  have gc : mm_gi 6 1 M (ax + 139) = some (iI T.1.length) := by rw [← cl]; exact gi_at hO.2.2 1 rfl
  unfold unlK
  by_cases g : T.1.length = 0 ∨ y < 1 ∨ 6 < y
  · rw [if_pos g]
    refine ⟨M, ?_, ⟨np, d, fw, ff, h⟩, fr.rfl⟩
    by_cases s0 : (T.1.length : Int) = 0
    · simp (disch := (first | assumption | (refine sm_of ?_ ?_ <;> omega) | fail)) only [iI_add, iI_sub, iI_mul, iI_neg, iI_lt, iI_le, iI_eq, b1_s, b2_s, ↓reduceIte, L0, L1, L2, L3, L4, L5, L6, L7, L8, L9, L10, L12, L20, L22, L24, L26, L27, L28, L32, L40, L60, L73, L95, L97, L222, L240, L441, L442, L622, Lm1, Lmh, L11, L13, L14, L15, L16, L17, L18, L19, L21, L23, L25, L30, L31, L33, L36, L39, L41, L44, L48, L53, L54, L55, L57, L58, L59, L91, L93, L98, L99, L100, L105, L106, L112, L114, L115, L119, L122, L160, L180, L200, L255, L1440, L24880, L63, Lm2, pX9_unlike, c0.all, gc, s0]
    · by_cases y1 : y < 1
      · simp (disch := (first | assumption | (refine sm_of ?_ ?_ <;> omega) | fail)) only [iI_add, iI_sub, iI_mul, iI_neg, iI_lt, iI_le, iI_eq, b1_s, b2_s, ↓reduceIte, L0, L1, L2, L3, L4, L5, L6, L7, L8, L9, L10, L12, L20, L22, L24, L26, L27, L28, L32, L40, L60, L73, L95, L97, L222, L240, L441, L442, L622, Lm1, Lmh, L11, L13, L14, L15, L16, L17, L18, L19, L21, L23, L25, L30, L31, L33, L36, L39, L41, L44, L48, L53, L54, L55, L57, L58, L59, L91, L93, L98, L99, L100, L105, L106, L112, L114, L115, L119, L122, L160, L180, L200, L255, L1440, L24880, L63, Lm2, pX9_unlike, c0.all, gc, s0, y1]
      · simp (disch := (first | assumption | (refine sm_of ?_ ?_ <;> omega) | fail)) only [iI_add, iI_sub, iI_mul, iI_neg, iI_lt, iI_le, iI_eq, b1_s, b2_s, ↓reduceIte, L0, L1, L2, L3, L4, L5, L6, L7, L8, L9, L10, L12, L20, L22, L24, L26, L27, L28, L32, L40, L60, L73, L95, L97, L222, L240, L441, L442, L622, Lm1, Lmh, L11, L13, L14, L15, L16, L17, L18, L19, L21, L23, L25, L30, L31, L33, L36, L39, L41, L44, L48, L53, L54, L55, L57, L58, L59, L91, L93, L98, L99, L100, L105, L106, L112, L114, L115, L119, L122, L160, L180, L200, L255, L1440, L24880, L63, Lm2, pX9_unlike, c0.all, gc, s0, y1, show ¬ y ≤ 6 by omega]
  · rw [if_neg g]
    obtain ⟨M1, e1, h1, f1⟩ := c_rp hn h ho hd
    have rs := c_rsa (ff := true) h1 hd
    obtain ⟨rn, l2⟩ := rs_n rs
    refine ⟨M1, ?_, ⟨np, d, fw, true, h1⟩, f1⟩
    generalize hP : (fun i : Nat => opK T.1 (aL T.1) i y) = P
    have pv : ∀ i : Nat, P i = opK T.1 (aL T.1) i y := fun i => by rw [← hP]
    have loop : ∀ (k i : Nat), i ≤ (aL T.1).length → (aL T.1).length < i + k → pX9_unlike_l33 n k M1 (iI y) (ax + 203) (iI (cntR P i)) (iI i) = some (iI (cntR P (aL T.1).length), M1) := by
      intro k
      induction k with
      | zero => intro i a b; omega
      | succ k ih =>
        intro i i1 i2
        show pX9_unlike_l33b n (pX9_unlike_l33 n k) M1 (iI y) (ax + 203) _ _ = _
        by_cases dd : ((aL T.1).length : Int) ≤ i
        · simp (disch := (first | assumption | (refine sm_of ?_ ?_ <;> omega) | fail)) only [iI_add, iI_sub, iI_mul, iI_neg, iI_lt, iI_le, iI_eq, b1_s, b2_s, ↓reduceIte, L0, L1, L2, L3, L4, L5, L6, L7, L8, L9, L10, L12, L20, L22, L24, L26, L27, L28, L32, L40, L60, L73, L95, L97, L222, L240, L441, L442, L622, Lm1, Lmh, L11, L13, L14, L15, L16, L17, L18, L19, L21, L23, L25, L30, L31, L33, L36, L39, L41, L44, L48, L53, L54, L55, L57, L58, L59, L91, L93, L98, L99, L100, L105, L106, L112, L114, L115, L119, L122, L160, L180, L200, L255, L1440, L24880, L63, Lm2, pX9_unlike_l33b, rn, dd]
          rw [show i = (aL T.1).length by omega]
        · have op := rk_op (n := n) (by omega) rs (i := (i : Int)) (m := y) (by omega) (by omega)
          have cs := cntR_succ P i
          have e2 := ih (i + 1) (by omega) (by omega)
          have cle := cntR_le P i
          rw [← pv i] at op
          cases z : P i
          · rw [z, if_neg (by decide), Nat.add_zero] at cs
            rw [cs] at e2
            rw [z] at op
            simp (disch := (first | assumption | (refine sm_of ?_ ?_ <;> omega) | fail)) only [iI_add, iI_sub, iI_mul, iI_neg, iI_lt, iI_le, iI_eq, b1_s, b2_s, ↓reduceIte, L0, L1, L2, L3, L4, L5, L6, L7, L8, L9, L10, L12, L20, L22, L24, L26, L27, L28, L32, L40, L60, L73, L95, L97, L222, L240, L441, L442, L622, Lm1, Lmh, L11, L13, L14, L15, L16, L17, L18, L19, L21, L23, L25, L30, L31, L33, L36, L39, L41, L44, L48, L53, L54, L55, L57, L58, L59, L91, L93, L98, L99, L100, L105, L106, L112, L114, L115, L119, L122, L160, L180, L200, L255, L1440, L24880, L63, Lm2, pX9_unlike_l33b, rn, dd, op, bI_f]
            rw [show ((i : Int) + 1) = ((i + 1 : Nat) : Int) by omega]
            exact e2
          · rw [z, if_pos rfl] at cs
            rw [cs] at e2
            rw [z] at op
            simp (disch := (first | assumption | (refine sm_of ?_ ?_ <;> omega) | fail)) only [iI_add, iI_sub, iI_mul, iI_neg, iI_lt, iI_le, iI_eq, b1_s, b2_s, ↓reduceIte, L0, L1, L2, L3, L4, L5, L6, L7, L8, L9, L10, L12, L20, L22, L24, L26, L27, L28, L32, L40, L60, L73, L95, L97, L222, L240, L441, L442, L622, Lm1, Lmh, L11, L13, L14, L15, L16, L17, L18, L19, L21, L23, L25, L30, L31, L33, L36, L39, L41, L44, L48, L53, L54, L55, L57, L58, L59, L91, L93, L98, L99, L100, L105, L106, L112, L114, L115, L119, L122, L160, L180, L200, L255, L1440, L24880, L63, Lm2, pX9_unlike_l33b, rn, dd, op, bI_t, Int.reduceEq]
            rw [show ((i : Int) + 1) = ((i + 1 : Nat) : Int) by omega, show ((cntR P i : Int) + 1) = ((cntR P i + 1 : Nat) : Int) by omega]
            exact e2
    have e3 : pX9_unlike_l33 n n M1 (iI y) (ax + 203) (iI 0) (iI 0) = _ := loop n 0 (by omega) (by omega)
    simp (disch := (first | assumption | (refine sm_of ?_ ?_ <;> omega) | fail)) only [iI_add, iI_sub, iI_mul, iI_neg, iI_lt, iI_le, iI_eq, b1_s, b2_s, ↓reduceIte, L0, L1, L2, L3, L4, L5, L6, L7, L8, L9, L10, L12, L20, L22, L24, L26, L27, L28, L32, L40, L60, L73, L95, L97, L222, L240, L441, L442, L622, Lm1, Lmh, L11, L13, L14, L15, L16, L17, L18, L19, L21, L23, L25, L30, L31, L33, L36, L39, L41, L44, L48, L53, L54, L55, L57, L58, L59, L91, L93, L98, L99, L100, L105, L106, L112, L114, L115, L119, L122, L160, L180, L200, L255, L1440, L24880, L63, Lm2, pX9_unlike, c0.all, gc, show ¬ (T.1.length : Int) = 0 by omega, show ¬ y < 1 by omega, show y ≤ 6 by omega, e1, e3]
theorem sgIx {n : Nat} {M : mm_M} {v : Int} (hv : v = -1 ∨ isSg v = true) : pX9_signIndex n M (iI v) = some (iI (if v = -1 then 27 else dec v), M) := by
  by_cases c : v = -1
  · subst c; simp (disch := (first | assumption | (refine sm_of ?_ ?_ <;> omega) | fail)) only [iI_add, iI_sub, iI_mul, iI_neg, iI_lt, iI_le, iI_eq, b1_s, b2_s, ↓reduceIte, L0, L1, L2, L3, L4, L5, L6, L7, L8, L9, L10, L12, L20, L22, L24, L26, L27, L28, L32, L40, L60, L73, L95, L97, L222, L240, L441, L442, L622, Lm1, Lmh, L11, L13, L14, L15, L16, L17, L18, L19, L21, L23, L25, L30, L31, L33, L36, L39, L41, L44, L48, L53, L54, L55, L57, L58, L59, L91, L93, L98, L99, L100, L105, L106, L112, L114, L115, L119, L122, L160, L180, L200, L255, L1440, L24880, L63, Lm2, pX9_signIndex]
  · rw [if_neg c]
    have := isSg_spec (hv.resolve_left c)
    unfold dec
    by_cases d : v = 95
    · subst d; simp (disch := (first | assumption | (refine sm_of ?_ ?_ <;> omega) | fail)) only [iI_add, iI_sub, iI_mul, iI_neg, iI_lt, iI_le, iI_eq, b1_s, b2_s, ↓reduceIte, L0, L1, L2, L3, L4, L5, L6, L7, L8, L9, L10, L12, L20, L22, L24, L26, L27, L28, L32, L40, L60, L73, L95, L97, L222, L240, L441, L442, L622, Lm1, Lmh, L11, L13, L14, L15, L16, L17, L18, L19, L21, L23, L25, L30, L31, L33, L36, L39, L41, L44, L48, L53, L54, L55, L57, L58, L59, L91, L93, L98, L99, L100, L105, L106, L112, L114, L115, L119, L122, L160, L180, L200, L255, L1440, L24880, L63, Lm2, pX9_signIndex, Int.reduceEq, Int.reduceNeg]
    · rw [if_neg d]
      simp (disch := (first | assumption | (refine sm_of ?_ ?_ <;> omega) | fail)) only [iI_add, iI_sub, iI_mul, iI_neg, iI_lt, iI_le, iI_eq, b1_s, b2_s, ↓reduceIte, L0, L1, L2, L3, L4, L5, L6, L7, L8, L9, L10, L12, L20, L22, L24, L26, L27, L28, L32, L40, L60, L73, L95, L97, L222, L240, L441, L442, L622, Lm1, Lmh, L11, L13, L14, L15, L16, L17, L18, L19, L21, L23, L25, L30, L31, L33, L36, L39, L41, L44, L48, L53, L54, L55, L57, L58, L59, L91, L93, L98, L99, L100, L105, L106, L112, L114, L115, L119, L122, L160, L180, L200, L255, L1440, L24880, L63, Lm2, pX9_signIndex, c, d]
      rw [show v - 97 + 1 = v - 96 by omega]
theorem sg_ne {v : Int} (h : isSg v = true) : v ≠ -1 := by have := isSg_spec h; omega
theorem bsA_at {ls : List kL} {wl : Nat} {h : kH} (ho : okL ls) (h1 : h.1 < ls.length) (h2 : h.2 < (lnN ls h.1).2.length) (af : Bool) {v : Int} (hv : v = atL (lnN ls h.1).2 (if af = true then (h.2 : Int) + wl else (h.2 : Int) - 1)) : (v = -1 ∨ isSg v = true) ∧ bsA ls wl af h = if v = -1 then -1 else dec v := by
  have os := (ho.2 _ h1).2.2.1
  unfold bsA
  generalize (lnN ls h.1).2 = xs at *
  cases af with
  | true =>
    rw [if_pos rfl] at hv ⊢
    unfold atL at hv
    unfold atD
    rw [List.getElem?_drop]
    by_cases c : h.2 + wl < xs.length
    · rw [if_pos (by omega), show ((h.2 : Int) + wl).toNat = h.2 + wl by omega] at hv
      have sg := os.get c
      rw [← hv] at sg
      refine ⟨Or.inr sg, ?_⟩
      rw [if_neg (sg_ne sg), Nat.add_zero, List.getElem?_eq_getElem c, hv, getD_of c]
    · rw [if_neg (by omega)] at hv
      refine ⟨Or.inl hv, ?_⟩
      rw [if_pos hv, List.getElem?_eq_none (by omega)]
  | false =>
    rw [if_neg (by decide)] at hv ⊢
    unfold atL at hv
    unfold atD
    by_cases c : h.2 = 0
    · rw [if_neg (by omega)] at hv
      refine ⟨Or.inl hv, ?_⟩
      rw [if_pos hv, c]
      rfl
    · rw [if_pos (by omega), show ((h.2 : Int) - 1).toNat = h.2 - 1 by omega] at hv
      have sg := os.get (show h.2 - 1 < xs.length by omega)
      rw [← hv] at sg
      refine ⟨Or.inr sg, ?_⟩
      rw [if_neg (sg_ne sg), List.getElem?_reverse (by simp; omega), List.getElem?_take, if_pos (by simp; omega)]
      rw [show (xs.take h.2).length - 1 - 0 = h.2 - 1 by simp; omega, List.getElem?_eq_getElem (by omega), hv, getD_of (by omega)]
theorem k_beside {n : Nat} (hn : 300 ≤ n) {M : mm_M} {ax : Nat} {B : Int} {tp : List Int} {T : kT} {wd : List Int} {ps : List kT} {im : Option kT} {sc : List (List kS)} {rf : Nat → Int} (h : Cls M ax B tp T wd ps im sc rf) (hI : Inv T wd ps im sc) {af : Bool} {y : Int} (hy : sm y) : ∃ M', pX9_beside n M ax (bI af) (iI y) = some (iI (besK T.1 wd af y), M') ∧ Cls M' ax B tp T wd ps im sc rf ∧ fr M M' ax 2875 := by
  obtain ⟨np, d, fw, ff, h⟩ := h
  have ho := hI.1.1
  have hd := hI.1.2.1
  have wn := sg_n h.2.2.2.2.2.1
  have w6 := hI.2.2.1
  unfold besK
  by_cases g : wd = [] ∨ y < 0 ∨ 27 < y
  · rw [if_pos g]
    refine ⟨M, ?_, ⟨np, d, fw, ff, h⟩, fr.rfl⟩
    by_cases s0 : (wd.length : Int) = 0
    · simp (disch := (first | assumption | (refine sm_of ?_ ?_ <;> omega) | fail)) only [iI_add, iI_sub, iI_mul, iI_neg, iI_lt, iI_le, iI_eq, b1_s, b2_s, ↓reduceIte, L0, L1, L2, L3, L4, L5, L6, L7, L8, L9, L10, L12, L20, L22, L24, L26, L27, L28, L32, L40, L60, L73, L95, L97, L222, L240, L441, L442, L622, Lm1, Lmh, L11, L13, L14, L15, L16, L17, L18, L19, L21, L23, L25, L30, L31, L33, L36, L39, L41, L44, L48, L53, L54, L55, L57, L58, L59, L91, L93, L98, L99, L100, L105, L106, L112, L114, L115, L119, L122, L160, L180, L200, L255, L1440, L24880, L63, Lm2, pX9_beside, h.1.all, wn, s0]
    · by_cases y1 : y < 0
      · simp (disch := (first | assumption | (refine sm_of ?_ ?_ <;> omega) | fail)) only [iI_add, iI_sub, iI_mul, iI_neg, iI_lt, iI_le, iI_eq, b1_s, b2_s, ↓reduceIte, L0, L1, L2, L3, L4, L5, L6, L7, L8, L9, L10, L12, L20, L22, L24, L26, L27, L28, L32, L40, L60, L73, L95, L97, L222, L240, L441, L442, L622, Lm1, Lmh, L11, L13, L14, L15, L16, L17, L18, L19, L21, L23, L25, L30, L31, L33, L36, L39, L41, L44, L48, L53, L54, L55, L57, L58, L59, L91, L93, L98, L99, L100, L105, L106, L112, L114, L115, L119, L122, L160, L180, L200, L255, L1440, L24880, L63, Lm2, pX9_beside, h.1.all, wn, s0, y1]
      · have y2 : ¬ y ≤ 27 := by
          rcases g with z | z | z
          · exact absurd (by rw [z]; rfl) s0
          · omega
          · omega
        simp (disch := (first | assumption | (refine sm_of ?_ ?_ <;> omega) | fail)) only [iI_add, iI_sub, iI_mul, iI_neg, iI_lt, iI_le, iI_eq, b1_s, b2_s, ↓reduceIte, L0, L1, L2, L3, L4, L5, L6, L7, L8, L9, L10, L12, L20, L22, L24, L26, L27, L28, L32, L40, L60, L73, L95, L97, L222, L240, L441, L442, L622, Lm1, Lmh, L11, L13, L14, L15, L16, L17, L18, L19, L21, L23, L25, L30, L31, L33, L36, L39, L41, L44, L48, L53, L54, L55, L57, L58, L59, L91, L93, L98, L99, L100, L105, L106, L112, L114, L115, L119, L122, L160, L180, L200, L255, L1440, L24880, L63, Lm2, pX9_beside, h.1.all, wn, s0, y1, y2]
  · rw [if_neg g]
    have w0 : ¬ (wd.length : Int) = 0 := fun z => g (Or.inl (by rw [len_nil] at z; exact z))
    have y0 : 0 ≤ y ∧ y ≤ 27 := by
      constructor
      · apply Classical.byContradiction; intro z; exact g (Or.inr (Or.inl (by omega)))
      · apply Classical.byContradiction; intro z; exact g (Or.inr (Or.inr (by omega)))
    obtain ⟨M1, e1, h1, f1⟩ := c_rh hn h ho hd
    have rs := c_rsw (fw := true) h1 hd
    have ok := hL_ok hd wd
    obtain ⟨rn, l2⟩ := rs_n rs
    have wn1 := sg_n h1.2.2.2.2.2.1
    have h1' := h1
    obtain ⟨c0, c1, c2, c3, c4, c5, c6, c7, c8, c9, c10, c11, c12, c13, c14, c15⟩ := h1'
    obtain ⟨F, D, cc, C, ⟨hO, hLv, -, -, -⟩, e, -⟩ := c11
    have cl : cc = T.1.length := by rw [e, lns_len]
    have hc := hO.1
    refine ⟨M1, ?_, ⟨np, d, true, ff, h1⟩, f1⟩
    generalize hLL : hL T.1 wd = L at *
    generalize hP : (fun i : Nat => decide (bsA T.1 wd.length af (L.getD i (0, 0)) = if y = 27 then -1 else y)) = P
    have loop : ∀ (k i : Nat), i ≤ L.length → L.length < i + k → pX9_beside_l33 n k M1 ax (bI af) (iI y) (ax + 201) (iI (cntR P i)) (iI i) = some (iI (cntR P L.length), M1) := by
      intro k
      induction k with
      | zero => intro i a b; omega
      | succ k ih =>
        intro i i1 i2
        show pX9_beside_l33b n (pX9_beside_l33 n k) M1 ax (bI af) (iI y) (ax + 201) _ _ = _
        by_cases dd : (L.length : Int) ≤ i
        · simp (disch := (first | assumption | (refine sm_of ?_ ?_ <;> omega) | fail)) only [iI_add, iI_sub, iI_mul, iI_neg, iI_lt, iI_le, iI_eq, b1_s, b2_s, ↓reduceIte, L0, L1, L2, L3, L4, L5, L6, L7, L8, L9, L10, L12, L20, L22, L24, L26, L27, L28, L32, L40, L60, L73, L95, L97, L222, L240, L441, L442, L622, Lm1, Lmh, L11, L13, L14, L15, L16, L17, L18, L19, L21, L23, L25, L30, L31, L33, L36, L39, L41, L44, L48, L53, L54, L55, L57, L58, L59, L91, L93, L98, L99, L100, L105, L106, L112, L114, L115, L119, L122, L160, L180, L200, L255, L1440, L24880, L63, Lm2, pX9_beside_l33b, rn, dd]
          rw [show i = L.length by omega]
        · have hi : i < L.length := by omega
          have sl := rs_line (n := n) rs ho hi
          have sp := rs_place (n := n) rs ho hi
          obtain ⟨o1, o2⟩ := ok.get hi
          have pv : P i = decide (bsA T.1 wd.length af (L.getD i (0, 0)) = if y = 27 then -1 else y) := by rw [← hP]
          have cs := cntR_succ P i
          have e2 := ih (i + 1) (by omega) (by omega)
          have cle := cntR_le P i
          have xl := hLv.ln (i := (L.getD i (0, 0)).1) (by omega)
          have ek : lnN T.1 (L.getD i (0, 0)).1 = D (F (L.getD i (0, 0)).1) := by rw [e]; exact lnN_lns (by omega)
          have ra := hLv.ra (i := ((L.getD i (0, 0)).1 : Int)) (by omega) (by omega)
          rw [Int.toNat_natCast] at ra
          have ll := (ho.2 _ o1).2.1
          obtain ⟨vb, be⟩ := bsA_at (wl := wd.length) ho o1 o2 af (v := atL (lnN T.1 (L.getD i (0, 0)).1).2 (if af = true then ((L.getD i (0, 0)).2 : Int) + wd.length else ((L.getD i (0, 0)).2 : Int) - 1)) rfl
          have at1 := sg_at (n := n) xl.2.2 (p := if af = true then ((L.getD i (0, 0)).2 : Int) + wd.length else ((L.getD i (0, 0)).2 : Int) - 1) (sm_of (by split <;> omega) (by split <;> omega))
          rw [← ek] at at1
          have db : ∀ v : Int, isSg v = true → 0 ≤ dec v ∧ dec v ≤ 26 := fun v => dec_bd
          generalize hV : atL (lnN T.1 (L.getD i (0, 0)).1).2 (if af = true then ((L.getD i (0, 0)).2 : Int) + wd.length else ((L.getD i (0, 0)).2 : Int) - 1) = v at *
          have ix := sgIx (n := n) (M := M1) vb
          have b92 : pX9_beside_b92 n (pX9_beside_l33 n k) M1 ax (bI af) (iI y) (ax + 201) (iI (cntR P i)) (iI i) (iI (if af = true then ((L.getD i (0, 0)).2 : Int) + wd.length else ((L.getD i (0, 0)).2 : Int) - 1)) (ax + 139 + 8 + 3 * F (L.getD i (0, 0)).1 + 1) = some (iI (cntR P L.length), M1) := by
            have key : P i = decide ((if v = -1 then 27 else dec v) = y) := by
              rw [pv, be]
              congr 1
              by_cases v1 : v = -1
              · rw [if_pos v1, if_pos v1]
                by_cases y27 : y = 27
                · rw [if_pos y27]; simp [y27]
                · rw [if_neg y27]; exact propext ⟨fun z => by omega, fun z => by omega⟩
              · have := db v (vb.resolve_left v1)
                rw [if_neg v1, if_neg v1]
                by_cases y27 : y = 27
                · rw [if_pos y27]; exact propext ⟨fun z => by omega, fun z => by omega⟩
                · rw [if_neg y27]
            have jb : 0 ≤ (if v = -1 then 27 else dec v) ∧ (if v = -1 then 27 else dec v) ≤ 27 := by
              by_cases v1 : v = -1
              · rw [if_pos v1]; omega
              · have := db v (vb.resolve_left v1)
                rw [if_neg v1]; omega
            generalize (if v = -1 then 27 else dec v) = u at *
            by_cases z : u = y
            · rw [key, decide_eq_true z, if_pos rfl] at cs
              rw [cs] at e2
              simp (disch := (first | assumption | (refine sm_of ?_ ?_ <;> omega) | fail)) only [iI_add, iI_sub, iI_mul, iI_neg, iI_lt, iI_le, iI_eq, b1_s, b2_s, ↓reduceIte, L0, L1, L2, L3, L4, L5, L6, L7, L8, L9, L10, L12, L20, L22, L24, L26, L27, L28, L32, L40, L60, L73, L95, L97, L222, L240, L441, L442, L622, Lm1, Lmh, L11, L13, L14, L15, L16, L17, L18, L19, L21, L23, L25, L30, L31, L33, L36, L39, L41, L44, L48, L53, L54, L55, L57, L58, L59, L91, L93, L98, L99, L100, L105, L106, L112, L114, L115, L119, L122, L160, L180, L200, L255, L1440, L24880, L63, Lm2, pX9_beside_b92, at1, ix, z]
              rw [show ((i : Int) + 1) = ((i + 1 : Nat) : Int) by omega, show ((cntR P i : Int) + 1) = ((cntR P i + 1 : Nat) : Int) by omega]
              exact e2
            · rw [key, decide_eq_false z, if_neg (by decide), Nat.add_zero] at cs
              rw [cs] at e2
              simp (disch := (first | assumption | (refine sm_of ?_ ?_ <;> omega) | fail)) only [iI_add, iI_sub, iI_mul, iI_neg, iI_lt, iI_le, iI_eq, b1_s, b2_s, ↓reduceIte, L0, L1, L2, L3, L4, L5, L6, L7, L8, L9, L10, L12, L20, L22, L24, L26, L27, L28, L32, L40, L60, L73, L95, L97, L222, L240, L441, L442, L622, Lm1, Lmh, L11, L13, L14, L15, L16, L17, L18, L19, L21, L23, L25, L30, L31, L33, L36, L39, L41, L44, L48, L53, L54, L55, L57, L58, L59, L91, L93, L98, L99, L100, L105, L106, L112, L114, L115, L119, L122, L160, L180, L200, L255, L1440, L24880, L63, Lm2, pX9_beside_b92, at1, ix, z]
              rw [show ((i : Int) + 1) = ((i + 1 : Nat) : Int) by omega]
              exact e2
          cases af with
          | false =>
            rw [if_neg (by decide)] at b92
            simp (disch := (first | assumption | (refine sm_of ?_ ?_ <;> omega) | fail)) only [iI_add, iI_sub, iI_mul, iI_neg, iI_lt, iI_le, iI_eq, b1_s, b2_s, ↓reduceIte, L0, L1, L2, L3, L4, L5, L6, L7, L8, L9, L10, L12, L20, L22, L24, L26, L27, L28, L32, L40, L60, L73, L95, L97, L222, L240, L441, L442, L622, Lm1, Lmh, L11, L13, L14, L15, L16, L17, L18, L19, L21, L23, L25, L30, L31, L33, L36, L39, L41, L44, L48, L53, L54, L55, L57, L58, L59, L91, L93, L98, L99, L100, L105, L106, L112, L114, L115, L119, L122, L160, L180, L200, L255, L1440, L24880, L63, Lm2, pX9_beside_l33b, rn, dd, sp, c0.all, gr_at hO.2.2 0 rfl, sl, ra, gr_at xl.2.1 0 rfl, bI_0]
            exact b92
          | true =>
            rw [if_pos rfl] at b92
            simp (disch := (first | assumption | (refine sm_of ?_ ?_ <;> omega) | fail)) only [iI_add, iI_sub, iI_mul, iI_neg, iI_lt, iI_le, iI_eq, b1_s, b2_s, ↓reduceIte, L0, L1, L2, L3, L4, L5, L6, L7, L8, L9, L10, L12, L20, L22, L24, L26, L27, L28, L32, L40, L60, L73, L95, L97, L222, L240, L441, L442, L622, Lm1, Lmh, L11, L13, L14, L15, L16, L17, L18, L19, L21, L23, L25, L30, L31, L33, L36, L39, L41, L44, L48, L53, L54, L55, L57, L58, L59, L91, L93, L98, L99, L100, L105, L106, L112, L114, L115, L119, L122, L160, L180, L200, L255, L1440, L24880, L63, Lm2, pX9_beside_l33b, rn, dd, sp, c0.all, gr_at hO.2.2 0 rfl, sl, ra, gr_at xl.2.1 0 rfl, bI_0, Bool.true_eq_false, wn1]
            exact b92
    have e3 : pX9_beside_l33 n n M1 ax (bI af) (iI y) (ax + 201) (iI 0) (iI 0) = _ := loop n 0 (by omega) (by omega)
    simp (disch := (first | assumption | (refine sm_of ?_ ?_ <;> omega) | fail)) only [iI_add, iI_sub, iI_mul, iI_neg, iI_lt, iI_le, iI_eq, b1_s, b2_s, ↓reduceIte, L0, L1, L2, L3, L4, L5, L6, L7, L8, L9, L10, L12, L20, L22, L24, L26, L27, L28, L32, L40, L60, L73, L95, L97, L222, L240, L441, L442, L622, Lm1, Lmh, L11, L13, L14, L15, L16, L17, L18, L19, L21, L23, L25, L30, L31, L33, L36, L39, L41, L44, L48, L53, L54, L55, L57, L58, L59, L91, L93, L98, L99, L100, L105, L106, L112, L114, L115, L119, L122, L160, L180, L200, L255, L1440, L24880, L63, Lm2, pX9_beside, h.1.all, wn, w0, show ¬ y < 0 by omega, y0.2, e1, e3]
