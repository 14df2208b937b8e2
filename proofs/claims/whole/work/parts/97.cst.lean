/-! the class: what is asked of a state; emptying it -/
theorem lnN_lns {F : Nat → Nat} {D : Nat → kL} {c i : Nat} (h : i < c) : lnN (lns F D c) i = D (F i) := lns_get h
theorem st_long {n : Nat} (hn : 60 ≤ n) {M : mm_M} {a : Nat} {F : Nat → Nat} {D : Nat → kL} {cc : Nat} {giv : Int} (hO : Ov M a cc giv) (hL : Lv M a F D) (h1 : cc ≠ 0) : pX6_longestLine n M a = some (iI (faN (lns F D cc) 1 (cc - 1)), M) := by
  have hc := hO.1
  have o := hO.2.2
  have loop : ∀ (k i : Nat), 1 ≤ i → i ≤ cc → cc < i + k → pX6_longestLine_l4 n k M a (iI (faN (lns F D cc) 1 (i - 1))) (iI i) = some (iI (faN (lns F D cc) 1 (cc - 1)), M) := by
    intro k
    induction k with
    | zero => intro i a b; omega
    | succ k ih =>
      intro i i0 i1 i2
      show pX6_longestLine_l4b n (pX6_longestLine_l4 n k) M a _ _ = _
      by_cases d : (cc : Int) ≤ i
      · simp (disch := (first | assumption | (refine sm_of ?_ ?_ <;> omega) | fail)) only [iI_add, iI_sub, iI_mul, iI_neg, iI_lt, iI_le, iI_eq, b1_s, b2_s, ↓reduceIte, L0, L1, L2, L3, L4, L5, L6, L7, L8, L9, L10, L12, L20, L22, L24, L26, L27, L28, L32, L40, L60, L73, L95, L97, L222, L240, L441, L442, L622, Lm1, Lmh, L11, L13, L14, L15, L16, L17, L18, L19, L21, L23, L25, L30, L31, L33, L36, L39, L41, L44, L48, L53, L54, L55, L57, L58, L59, L91, L93, L98, L99, L100, L105, L106, L112, L114, L115, L119, L122, L160, L180, L200, L255, L1440, L24880, L63, Lm2, pX6_longestLine_l4b, gi_at o 1 rfl, d]
        rw [show i = cc by omega]
      · have fl := faN_le (lns F D cc) 1 (i - 1)
        have x1 := hL.ln (i := i) (by omega)
        have x2 := hL.ln (i := faN (lns F D cc) 1 (i - 1)) (by omega)
        have e2 := ih (i + 1) (by omega) (by omega) (by omega)
        have st : faN (lns F D cc) 1 i = if (1 : Int) * ((lnN (lns F D cc) (faN (lns F D cc) 1 (i - 1))).2.length : Int) < 1 * ((lnN (lns F D cc) i).2.length : Int) then i else faN (lns F D cc) 1 (i - 1) := by
          obtain ⟨j, rfl⟩ : ∃ j, i = j + 1 := ⟨i - 1, by omega⟩
          rfl
        rw [lnN_lns (show i < cc by omega), lnN_lns (show faN (lns F D cc) 1 (i - 1) < cc by omega)] at st
        rw [show i + 1 - 1 = i by omega, st] at e2
        have l1 := x1.2.2.1
        have l2 := x2.2.2.1
        simp (disch := (first | assumption | (refine sm_of ?_ ?_ <;> omega) | fail)) only [iI_add, iI_sub, iI_mul, iI_neg, iI_lt, iI_le, iI_eq, b1_s, b2_s, ↓reduceIte, L0, L1, L2, L3, L4, L5, L6, L7, L8, L9, L10, L12, L20, L22, L24, L26, L27, L28, L32, L40, L60, L73, L95, L97, L222, L240, L441, L442, L622, Lm1, Lmh, L11, L13, L14, L15, L16, L17, L18, L19, L21, L23, L25, L30, L31, L33, L36, L39, L41, L44, L48, L53, L54, L55, L57, L58, L59, L91, L93, L98, L99, L100, L105, L106, L112, L114, L115, L119, L122, L160, L180, L200, L255, L1440, L24880, L63, Lm2, pX6_longestLine_l4b, gi_at o 1 rfl, d, gr_at o 0 rfl, hL.ra (i := i) (by omega) (by omega), hL.ra (i := (faN (lns F D cc) 1 (i - 1) : Nat)) (by omega) (by omega), Int.toNat_natCast, gr_at x1.2.1 0 rfl, gi_at x1.2.2.2.2.1 1 rfl, gr_at x2.2.1 0 rfl, gi_at x2.2.2.2.2.1 1 rfl]
        rw [show ((i : Int) + 1) = ((i + 1 : Nat) : Int) by omega]
        by_cases g : (1 : Int) * ((D (F (faN (lns F D cc) 1 (i - 1)))).2.length : Int) < 1 * ((D (F i)).2.length : Int)
        · rw [if_neg (by omega)]; rw [if_pos g] at e2; exact e2
        · rw [if_pos (by omega)]; rw [if_neg g] at e2; exact e2
  simp only [pX6_longestLine, v_at o]
  exact loop n 1 (by omega) (by omega) (by omega)
theorem st_short {n : Nat} (hn : 60 ≤ n) {M : mm_M} {a : Nat} {F : Nat → Nat} {D : Nat → kL} {cc : Nat} {giv : Int} (hO : Ov M a cc giv) (hL : Lv M a F D) (h1 : cc ≠ 0) : pX6_shortestLine n M a = some (iI (faN (lns F D cc) (-1) (cc - 1)), M) := by
  have hc := hO.1
  have o := hO.2.2
  have loop : ∀ (k i : Nat), 1 ≤ i → i ≤ cc → cc < i + k → pX6_shortestLine_l4 n k M a (iI (faN (lns F D cc) (-1) (i - 1))) (iI i) = some (iI (faN (lns F D cc) (-1) (cc - 1)), M) := by
    intro k
    induction k with
    | zero => intro i a b; omega
    | succ k ih =>
      intro i i0 i1 i2
      show pX6_shortestLine_l4b n (pX6_shortestLine_l4 n k) M a _ _ = _
      by_cases d : (cc : Int) ≤ i
      · simp (disch := (first | assumption | (refine sm_of ?_ ?_ <;> omega) | fail)) only [iI_add, iI_sub, iI_mul, iI_neg, iI_lt, iI_le, iI_eq, b1_s, b2_s, ↓reduceIte, L0, L1, L2, L3, L4, L5, L6, L7, L8, L9, L10, L12, L20, L22, L24, L26, L27, L28, L32, L40, L60, L73, L95, L97, L222, L240, L441, L442, L622, Lm1, Lmh, L11, L13, L14, L15, L16, L17, L18, L19, L21, L23, L25, L30, L31, L33, L36, L39, L41, L44, L48, L53, L54, L55, L57, L58, L59, L91, L93, L98, L99, L100, L105, L106, L112, L114, L115, L119, L122, L160, L180, L200, L255, L1440, L24880, L63, Lm2, pX6_shortestLine_l4b, gi_at o 1 rfl, d]
        rw [show i = cc by omega]
      · have fl := faN_le (lns F D cc) (-1) (i - 1)
        have x1 := hL.ln (i := i) (by omega)
        have x2 := hL.ln (i := faN (lns F D cc) (-1) (i - 1)) (by omega)
        have e2 := ih (i + 1) (by omega) (by omega) (by omega)
        have st : faN (lns F D cc) (-1) i = if (-1 : Int) * ((lnN (lns F D cc) (faN (lns F D cc) (-1) (i - 1))).2.length : Int) < -1 * ((lnN (lns F D cc) i).2.length : Int) then i else faN (lns F D cc) (-1) (i - 1) := by
          obtain ⟨j, rfl⟩ : ∃ j, i = j + 1 := ⟨i - 1, by omega⟩
          rfl
        rw [lnN_lns (show i < cc by omega), lnN_lns (show faN (lns F D cc) (-1) (i - 1) < cc by omega)] at st
        rw [show i + 1 - 1 = i by omega, st] at e2
        have l1 := x1.2.2.1
        have l2 := x2.2.2.1
        simp (disch := (first | assumption | (refine sm_of ?_ ?_ <;> omega) | fail)) only [iI_add, iI_sub, iI_mul, iI_neg, iI_lt, iI_le, iI_eq, b1_s, b2_s, ↓reduceIte, L0, L1, L2, L3, L4, L5, L6, L7, L8, L9, L10, L12, L20, L22, L24, L26, L27, L28, L32, L40, L60, L73, L95, L97, L222, L240, L441, L442, L622, Lm1, Lmh, L11, L13, L14, L15, L16, L17, L18, L19, L21, L23, L25, L30, L31, L33, L36, L39, L41, L44, L48, L53, L54, L55, L57, L58, L59, L91, L93, L98, L99, L100, L105, L106, L112, L114, L115, L119, L122, L160, L180, L200, L255, L1440, L24880, L63, Lm2, pX6_shortestLine_l4b, gi_at o 1 rfl, d, gr_at o 0 rfl, hL.ra (i := i) (by omega) (by omega), hL.ra (i := (faN (lns F D cc) (-1) (i - 1) : Nat)) (by omega) (by omega), Int.toNat_natCast, gr_at x1.2.1 0 rfl, gi_at x1.2.2.2.2.1 1 rfl, gr_at x2.2.1 0 rfl, gi_at x2.2.2.2.2.1 1 rfl]
        rw [show ((i : Int) + 1) = ((i + 1 : Nat) : Int) by omega]
        by_cases g : (-1 : Int) * ((D (F (faN (lns F D cc) (-1) (i - 1)))).2.length : Int) < -1 * ((D (F i)).2.length : Int)
        · rw [if_neg (by omega)]; rw [if_pos g] at e2; exact e2
        · rw [if_pos (by omega)]; rw [if_neg g] at e2; exact e2
  simp only [pX6_shortestLine, v_at o]
  exact loop n 1 (by omega) (by omega) (by omega)
theorem st_rise {n : Nat} (hn : 60 ≤ n) {M : mm_M} {a : Nat} {F : Nat → Nat} {D : Nat → kL} {cc : Nat} {giv : Int} (hO : Ov M a cc giv) (hL : Lv M a F D) (h1 : cc ≠ 0) : pX6_risingLines n M a = some (iI (riN (lns F D cc) 10 1), M) := by
  have hc := hO.1
  have o := hO.2.2
  have ll := lns_len F D cc
  have loop : ∀ (k q i : Nat), 1 ≤ i → i ≤ cc → cc < i + k → cc ≤ i + q → pX6_risingLines_l2 n k M a (iI i) = some (iI (riN (lns F D cc) q i), M) := by
    intro k
    induction k with
    | zero => intro q i a b; omega
    | succ k ih =>
      intro q i i0 i1 i2 i3
      show pX6_risingLines_l2b n (pX6_risingLines_l2 n k) M a _ = _
      by_cases d : (cc : Int) ≤ i
      · have e : riN (lns F D cc) q i = i := by
          cases q with
          | zero => rfl
          | succ q => simp only [riN]; rw [if_neg (by omega)]
        simp (disch := (first | assumption | (refine sm_of ?_ ?_ <;> omega) | fail)) only [iI_add, iI_sub, iI_mul, iI_neg, iI_lt, iI_le, iI_eq, b1_s, b2_s, ↓reduceIte, L0, L1, L2, L3, L4, L5, L6, L7, L8, L9, L10, L12, L20, L22, L24, L26, L27, L28, L32, L40, L60, L73, L95, L97, L222, L240, L441, L442, L622, Lm1, Lmh, L11, L13, L14, L15, L16, L17, L18, L19, L21, L23, L25, L30, L31, L33, L36, L39, L41, L44, L48, L53, L54, L55, L57, L58, L59, L91, L93, L98, L99, L100, L105, L106, L112, L114, L115, L119, L122, L160, L180, L200, L255, L1440, L24880, L63, Lm2, pX6_risingLines_l2b, gi_at o 1 rfl, d]
        rw [e]
      · obtain ⟨q, rfl⟩ : ∃ q', q = q' + 1 := ⟨q - 1, by omega⟩
        have x1 := hL.ln (i := i) (by omega)
        have x2 := hL.ln (i := i - 1) (by omega)
        have r2 := hL.ra (i := (i : Int) - 1) (by omega) (by omega)
        rw [show ((i : Int) - 1).toNat = i - 1 by omega] at r2
        have b1 := x1.1
        have b2 := x2.1
        unfold nb at b1 b2
        simp only [riN]
        rw [lnN_lns (show i < cc by omega), lnN_lns (show i - 1 < cc by omega), ll]
        simp (disch := (first | assumption | (refine sm_of ?_ ?_ <;> omega) | fail)) only [iI_add, iI_sub, iI_mul, iI_neg, iI_lt, iI_le, iI_eq, b1_s, b2_s, ↓reduceIte, L0, L1, L2, L3, L4, L5, L6, L7, L8, L9, L10, L12, L20, L22, L24, L26, L27, L28, L32, L40, L60, L73, L95, L97, L222, L240, L441, L442, L622, Lm1, Lmh, L11, L13, L14, L15, L16, L17, L18, L19, L21, L23, L25, L30, L31, L33, L36, L39, L41, L44, L48, L53, L54, L55, L57, L58, L59, L91, L93, L98, L99, L100, L105, L106, L112, L114, L115, L119, L122, L160, L180, L200, L255, L1440, L24880, L63, Lm2, pX6_risingLines_l2b, gi_at o 1 rfl, d, gr_at o 0 rfl, hL.ra (i := i) (by omega) (by omega), r2, Int.toNat_natCast, gi_at x1.2.1 1 rfl, gi_at x2.2.1 1 rfl]
        by_cases g : (D (F (i - 1))).1 < (D (F i)).1
        · rw [if_neg (by omega), if_pos ⟨by omega, g⟩, show ((i : Int) + 1) = ((i + 1 : Nat) : Int) by omega]
          exact ih q (i + 1) (by omega) (by omega) (by omega) (by omega)
        · rw [if_pos (by omega), if_neg (fun z => g z.2)]
  simp only [pX6_risingLines, v_at o]
  exact loop n 10 1 (by omega) (by omega) (by omega) (by omega)
theorem st_laid {n : Nat} (hn : 60 ≤ n) {M : mm_M} {a : Nat} {C : Nat → kU} {cc : Nat} {giv : Int} (hO : Ov M a cc giv) (hC : Cv M a C) : pX6_laidBits n M a = some (iI (cbN (fun i => isCu C i) 3), M) := by
  have o := hO.2.2
  have loop : ∀ (k i : Nat), i ≤ 3 → 3 < i + k → pX6_laidBits_l4 n k M a (iI (cbN (fun i => isCu C i) i)) (iI i) = some (iI (cbN (fun i => isCu C i) 3), M) := by
    intro k
    induction k with
    | zero => intro i a b; omega
    | succ k ih =>
      intro i i1 i2
      show pX6_laidBits_l4b n (pX6_laidBits_l4 n k) M a _ _ = _
      by_cases d : (3 : Int) ≤ i
      · simp (disch := (first | assumption | (refine sm_of ?_ ?_ <;> omega) | fail)) only [iI_add, iI_sub, iI_mul, iI_neg, iI_lt, iI_le, iI_eq, b1_s, b2_s, ↓reduceIte, L0, L1, L2, L3, L4, L5, L6, L7, L8, L9, L10, L12, L20, L22, L24, L26, L27, L28, L32, L40, L60, L73, L95, L97, L222, L240, L441, L442, L622, Lm1, Lmh, L11, L13, L14, L15, L16, L17, L18, L19, L21, L23, L25, L30, L31, L33, L36, L39, L41, L44, L48, L53, L54, L55, L57, L58, L59, L91, L93, L98, L99, L100, L105, L106, L112, L114, L115, L119, L122, L160, L180, L200, L255, L1440, L24880, L63, Lm2, pX6_laidBits_l4b, gr_at o 3 rfl, hC.len, d]
        rw [show i = 3 by omega]
      · have q := st_hasC (n := n) hO hC (k := i) (sm_k (by omega))
        have cl := cbN_lt (fun i => isCu C i) i
        have pb := pow_bd (show i ≤ 27 by omega)
        have ob := or_bit (N := cbN (fun i => isCu C i) i) (k := i) (by omega) (by omega)
        have e2 := ih (i + 1) (by omega) (by omega)
        have st : cbN (fun i => isCu C i) (i + 1) = if isCu C i = true then cbN (fun i => isCu C i) i ||| 2 ^ i else cbN (fun i => isCu C i) i := rfl
        cases e : isCu C (i : Int)
        · rw [e] at st q
          rw [if_neg (by decide)] at st
          rw [st] at e2
          simp (disch := (first | assumption | (refine sm_of ?_ ?_ <;> omega) | fail)) only [iI_add, iI_sub, iI_mul, iI_neg, iI_lt, iI_le, iI_eq, b1_s, b2_s, ↓reduceIte, L0, L1, L2, L3, L4, L5, L6, L7, L8, L9, L10, L12, L20, L22, L24, L26, L27, L28, L32, L40, L60, L73, L95, L97, L222, L240, L441, L442, L622, Lm1, Lmh, L11, L13, L14, L15, L16, L17, L18, L19, L21, L23, L25, L30, L31, L33, L36, L39, L41, L44, L48, L53, L54, L55, L57, L58, L59, L91, L93, L98, L99, L100, L105, L106, L112, L114, L115, L119, L122, L160, L180, L200, L255, L1440, L24880, L63, Lm2, pX6_laidBits_l4b, gr_at o 3 rfl, hC.len, d, q, bI_0]
          rw [show ((i : Int) + 1) = ((i + 1 : Nat) : Int) by omega]
          exact e2
        · rw [e] at st q
          rw [if_pos rfl] at st
          rw [st] at e2
          simp (disch := (first | assumption | (refine sm_of ?_ ?_ <;> omega) | fail)) only [iI_add, iI_sub, iI_mul, iI_neg, iI_lt, iI_le, iI_eq, b1_s, b2_s, ↓reduceIte, L0, L1, L2, L3, L4, L5, L6, L7, L8, L9, L10, L12, L20, L22, L24, L26, L27, L28, L32, L40, L60, L73, L95, L97, L222, L240, L441, L442, L622, Lm1, Lmh, L11, L13, L14, L15, L16, L17, L18, L19, L21, L23, L25, L30, L31, L33, L36, L39, L41, L44, L48, L53, L54, L55, L57, L58, L59, L91, L93, L98, L99, L100, L105, L106, L112, L114, L115, L119, L122, L160, L180, L200, L255, L1440, L24880, L63, Lm2, pX6_laidBits_l4b, gr_at o 3 rfl, hC.len, d, q, bI_0, Bool.true_eq_false, ob.1]
          rw [show ((i : Int) + 1) = ((i + 1 : Nat) : Int) by omega]
          exact e2
  simp only [pX6_laidBits, v_at o]
  exact loop n 0 (by omega) (by omega)
theorem st_within {n : Nat} (hn : 60 ≤ n) {M : mm_M} {a : Nat} {F : Nat → Nat} {D : Nat → kL} {cc : Nat} {giv : Int} (hO : Ov M a cc giv) (hL : Lv M a F D) : pX6_withinBits n M a = some (iI (cbN (fun k => wiB (lns F D cc) k cc) cc), M) := by
  have hc := hO.1
  have o := hO.2.2
  have inner : ∀ (K : mm_M → Nat → Int32 → Int32 → Option (Int32 × mm_M)) (k N : Nat), k < cc → N < 134217728 → ∀ (q i : Nat), i ≤ cc → cc < i + q → pX6_withinBits_l14 n K q M a (iI (if wiB (lns F D cc) k i = true then N ||| 2 ^ k else N : Nat)) (iI k) (iI i) = K M a (iI (if wiB (lns F D cc) k cc = true then N ||| 2 ^ k else N : Nat)) (iI ((k + 1 : Nat) : Int)) := by
    intro K k N hk hN q
    have xk := hL.ln (i := k) (by omega)
    have ob := or_bit (N := N) (k := k) hN (by omega)
    have ob2 := or_bit (N := N ||| 2 ^ k) (k := k) ob.2 (by omega)
    rw [Nat.or_assoc, Nat.or_self] at ob2
    induction q with
    | zero => intro i a b; omega
    | succ q ih =>
      intro i i1 i2
      show pX6_withinBits_l14b n K (pX6_withinBits_l14 n K q) M a _ _ _ = _
      by_cases d : (cc : Int) ≤ i
      · simp (disch := (first | assumption | (refine sm_of ?_ ?_ <;> omega) | fail)) only [iI_add, iI_sub, iI_mul, iI_neg, iI_lt, iI_le, iI_eq, b1_s, b2_s, ↓reduceIte, L0, L1, L2, L3, L4, L5, L6, L7, L8, L9, L10, L12, L20, L22, L24, L26, L27, L28, L32, L40, L60, L73, L95, L97, L222, L240, L441, L442, L622, Lm1, Lmh, L11, L13, L14, L15, L16, L17, L18, L19, L21, L23, L25, L30, L31, L33, L36, L39, L41, L44, L48, L53, L54, L55, L57, L58, L59, L91, L93, L98, L99, L100, L105, L106, L112, L114, L115, L119, L122, L160, L180, L200, L255, L1440, L24880, L63, Lm2, pX6_withinBits_l14b, gi_at o 1 rfl, d]
        rw [show i = cc by omega, show ((k : Int) + 1) = ((k + 1 : Nat) : Int) by omega]
      · have st : wiB (lns F D cc) k (i + 1) = (wiB (lns F D cc) k i || (decide (i ≠ k) && decide (0 < cnt (lnN (lns F D cc) i).2 (lnN (lns F D cc) k).2 (lnN (lns F D cc) i).2.length))) := rfl
        rw [lnN_lns (show i < cc by omega), lnN_lns hk] at st
        have e2 := ih (i + 1) (by omega) (by omega)
        by_cases g : i = k
        · rw [decide_eq_false (by simp; exact g), Bool.false_and, Bool.or_false] at st
          rw [st] at e2
          simp (disch := (first | assumption | (refine sm_of ?_ ?_ <;> omega) | fail)) only [iI_add, iI_sub, iI_mul, iI_neg, iI_lt, iI_le, iI_eq, b1_s, b2_s, ↓reduceIte, L0, L1, L2, L3, L4, L5, L6, L7, L8, L9, L10, L12, L20, L22, L24, L26, L27, L28, L32, L40, L60, L73, L95, L97, L222, L240, L441, L442, L622, Lm1, Lmh, L11, L13, L14, L15, L16, L17, L18, L19, L21, L23, L25, L30, L31, L33, L36, L39, L41, L44, L48, L53, L54, L55, L57, L58, L59, L91, L93, L98, L99, L100, L105, L106, L112, L114, L115, L119, L122, L160, L180, L200, L255, L1440, L24880, L63, Lm2, pX6_withinBits_l14b, gi_at o 1 rfl, d, show ((i : Int) = k) = True from eq_true (by omega)]
          rw [show ((i : Int) + 1) = ((i + 1 : Nat) : Int) by omega]
          exact e2
        · have xi := hL.ln (i := i) (by omega)
          have ht := sg_hits hn xi.2.2 xk.2.2
          have cl := cnt_le (D (F i)).2 (D (F k)).2 (D (F i)).2.length
          have li := xi.2.2.1
          rw [decide_eq_true (show i ≠ k from g), Bool.true_and] at st
          by_cases z : 0 < cnt (D (F i)).2 (D (F k)).2 (D (F i)).2.length
          · rw [decide_eq_true z, Bool.or_true] at st
            rw [st, if_pos rfl] at e2
            simp (disch := (first | assumption | (refine sm_of ?_ ?_ <;> omega) | fail)) only [iI_add, iI_sub, iI_mul, iI_neg, iI_lt, iI_le, iI_eq, b1_s, b2_s, ↓reduceIte, L0, L1, L2, L3, L4, L5, L6, L7, L8, L9, L10, L12, L20, L22, L24, L26, L27, L28, L32, L40, L60, L73, L95, L97, L222, L240, L441, L442, L622, Lm1, Lmh, L11, L13, L14, L15, L16, L17, L18, L19, L21, L23, L25, L30, L31, L33, L36, L39, L41, L44, L48, L53, L54, L55, L57, L58, L59, L91, L93, L98, L99, L100, L105, L106, L112, L114, L115, L119, L122, L160, L180, L200, L255, L1440, L24880, L63, Lm2, pX6_withinBits_l14b, gi_at o 1 rfl, d, show ¬ (i : Int) = k by omega, gr_at o 0 rfl, hL.ra (i := i) (by omega) (by omega), hL.ra (i := k) (by omega) (by omega), Int.toNat_natCast, gr_at xi.2.1 0 rfl, gr_at xk.2.1 0 rfl, ht, show ¬ (cnt (D (F i)).2 (D (F k)).2 (D (F i)).2.length : Int) ≤ 0 by omega]
            rw [show ((i : Int) + 1) = ((i + 1 : Nat) : Int) by omega]
            cases e : wiB (lns F D cc) k i
            · rw [if_neg (by decide), ob.1]; exact e2
            · rw [if_pos rfl, ob2.1]; exact e2
          · rw [decide_eq_false z, Bool.or_false] at st
            rw [st] at e2
            simp (disch := (first | assumption | (refine sm_of ?_ ?_ <;> omega) | fail)) only [iI_add, iI_sub, iI_mul, iI_neg, iI_lt, iI_le, iI_eq, b1_s, b2_s, ↓reduceIte, L0, L1, L2, L3, L4, L5, L6, L7, L8, L9, L10, L12, L20, L22, L24, L26, L27, L28, L32, L40, L60, L73, L95, L97, L222, L240, L441, L442, L622, Lm1, Lmh, L11, L13, L14, L15, L16, L17, L18, L19, L21, L23, L25, L30, L31, L33, L36, L39, L41, L44, L48, L53, L54, L55, L57, L58, L59, L91, L93, L98, L99, L100, L105, L106, L112, L114, L115, L119, L122, L160, L180, L200, L255, L1440, L24880, L63, Lm2, pX6_withinBits_l14b, gi_at o 1 rfl, d, show ¬ (i : Int) = k by omega, gr_at o 0 rfl, hL.ra (i := i) (by omega) (by omega), hL.ra (i := k) (by omega) (by omega), Int.toNat_natCast, gr_at xi.2.1 0 rfl, gr_at xk.2.1 0 rfl, ht, show (cnt (D (F i)).2 (D (F k)).2 (D (F i)).2.length : Int) ≤ 0 by omega]
            rw [show ((i : Int) + 1) = ((i + 1 : Nat) : Int) by omega]
            exact e2
  have outer : ∀ (q k : Nat), k ≤ cc → cc < k + q → pX6_withinBits_l4 n q M a (iI (cbN (fun k => wiB (lns F D cc) k cc) k)) (iI k) = some (iI (cbN (fun k => wiB (lns F D cc) k cc) cc), M) := by
    intro q
    induction q with
    | zero => intro k a b; omega
    | succ q ih =>
      intro k k1 k2
      show pX6_withinBits_l4b n (pX6_withinBits_l4 n q) M a _ _ = _
      by_cases d : (cc : Int) ≤ k
      · simp (disch := (first | assumption | (refine sm_of ?_ ?_ <;> omega) | fail)) only [iI_add, iI_sub, iI_mul, iI_neg, iI_lt, iI_le, iI_eq, b1_s, b2_s, ↓reduceIte, L0, L1, L2, L3, L4, L5, L6, L7, L8, L9, L10, L12, L20, L22, L24, L26, L27, L28, L32, L40, L60, L73, L95, L97, L222, L240, L441, L442, L622, Lm1, Lmh, L11, L13, L14, L15, L16, L17, L18, L19, L21, L23, L25, L30, L31, L33, L36, L39, L41, L44, L48, L53, L54, L55, L57, L58, L59, L91, L93, L98, L99, L100, L105, L106, L112, L114, L115, L119, L122, L160, L180, L200, L255, L1440, L24880, L63, Lm2, pX6_withinBits_l4b, gi_at o 1 rfl, d]
        rw [show k = cc by omega]
      · have cl := cbN_lt (fun k => wiB (lns F D cc) k cc) k
        have pb := pow_bd (show k ≤ 27 by omega)
        have inn := inner (pX6_withinBits_l4 n q) k (cbN (fun k => wiB (lns F D cc) k cc) k) (by omega) (by omega) n 0 (by omega) (by omega)
        have e2 := ih (k + 1) (by omega) (by omega)
        have w0 : wiB (lns F D cc) k 0 = false := rfl
        rw [w0, if_neg (by decide)] at inn
        have inn : pX6_withinBits_l14 n (pX6_withinBits_l4 n q) n M a (iI (cbN (fun k => wiB (lns F D cc) k cc) k)) (iI k) (iI 0) = pX6_withinBits_l4 n q M a (iI (cbN (fun k => wiB (lns F D cc) k cc) (k + 1))) (iI ((k + 1 : Nat) : Int)) := inn
        simp (disch := (first | assumption | (refine sm_of ?_ ?_ <;> omega) | fail)) only [iI_add, iI_sub, iI_mul, iI_neg, iI_lt, iI_le, iI_eq, b1_s, b2_s, ↓reduceIte, L0, L1, L2, L3, L4, L5, L6, L7, L8, L9, L10, L12, L20, L22, L24, L26, L27, L28, L32, L40, L60, L73, L95, L97, L222, L240, L441, L442, L622, Lm1, Lmh, L11, L13, L14, L15, L16, L17, L18, L19, L21, L23, L25, L30, L31, L33, L36, L39, L41, L44, L48, L53, L54, L55, L57, L58, L59, L91, L93, L98, L99, L100, L105, L106, L112, L114, L115, L119, L122, L160, L180, L200, L255, L1440, L24880, L63, Lm2, pX6_withinBits_l4b, gi_at o 1 rfl, d, inn]
        exact e2
  simp only [pX6_withinBits, v_at o]
  exact outer n 0 (by omega) (by omega)
/-- a cursor that is none -/
def noU (u : kU) : kU := (u.1, 0, false, u.2.2.2.1, u.2.2.2.2.1, u.2.2.2.2.2.1, [], 0)
theorem st_empty {n : Nat} (hn : 60 ≤ n) {M : mm_M} {a : Nat} {F : Nat → Nat} {D : Nat → kL} {cc : Nat} {giv : Int} {C : Nat → kU} {B : Int} {lg : List kG} (h : Sv M a F D cc giv C B lg) (hB : 0 ≤ B) : ∃ M1 C1, pX6_empty n M a = some M1 ∧ Sv M1 a F D 0 0 C1 B [] ∧ (∀ i, i < 3 → C1 i = noU (C i)) ∧ fr M M1 a 62 := by
  obtain ⟨hO, hL, hC, hJ, fs, hS⟩ := h
  obtain ⟨M1, e1, s1, f1⟩ := pi_ex hO.2.2 1 (iI 0)
  obtain ⟨M2, e2, s2, f2⟩ := pi_ex s1 2 (iI 0)
  have f12 := f1.trans f2
  have o2 : Ov M2 a 0 0 := ⟨by omega, nb0, s2⟩
  have loop : ∀ (k i : Nat) (M : mm_M) (C' : Nat → kU), i ≤ 3 → 3 < i + k → Ov M a 0 0 → Cv M a C' → Jr M (a + 3) B lg → ∃ M1 C1, pX6_empty_l12 n k M a (iI i) = some M1 ∧ Cv M1 a C1 ∧ (∀ j, i ≤ j → j < 3 → C1 j = noU (C' j)) ∧ (∀ j, j < i → C1 j = C' j) ∧ Jr M1 (a + 3) B [] ∧ M1.1 = M.1 ∧ ∀ q, ¬ (q = a + 3 ∨ (a + 38 ≤ q ∧ q < a + 62)) → M1.2 q = M.2 q := by
    intro k
    induction k with
    | zero => intro i M C' a b; omega
    | succ k ih =>
      intro i M C' i1 i2 hO hC hJ
      show ∃ M1 C1, pX6_empty_l12b n (pX6_empty_l12 n k) M a (iI i) = _ ∧ _
      have o := hO.2.2
      by_cases d : (3 : Int) ≤ i
      · obtain ⟨w, f, g, h, j1, j2, j3, j4, j5, j6, j7, j8, j9⟩ := hJ
        obtain ⟨M1, e1, s1, f1⟩ := pi_ex j5 3 (iI 0)
        refine ⟨M1, C', ?_, hC.fr f1 (by omega), fun j h3 h4 => by omega, fun _ _ => rfl, ⟨0, f, g, h, by omega, hB, j3, by simp <;> omega, s1, f1.at j6 (by omega), f1.at j7 (by omega), f1.at j8 (by omega), fun i hi => by simp at hi⟩, f1.1, fun q hq => f1.2 q (by omega)⟩
        simp (disch := (first | assumption | (refine sm_of ?_ ?_ <;> omega) | fail)) only [iI_add, iI_sub, iI_mul, iI_neg, iI_lt, iI_le, iI_eq, b1_s, b2_s, ↓reduceIte, L0, L1, L2, L3, L4, L5, L6, L7, L8, L9, L10, L12, L20, L22, L24, L26, L27, L28, L32, L40, L60, L73, L95, L97, L222, L240, L441, L442, L622, Lm1, Lmh, L11, L13, L14, L15, L16, L17, L18, L19, L21, L23, L25, L30, L31, L33, L36, L39, L41, L44, L48, L53, L54, L55, L57, L58, L59, L91, L93, L98, L99, L100, L105, L106, L112, L114, L115, L119, L122, L160, L180, L200, L255, L1440, L24880, L63, Lm2, pX6_empty_l12b, gr_at o 3 rfl, hC.len, d, gr_at o 4 rfl, e1]
      · have u := hC.2 i (by omega)
        obtain ⟨u1, u2, u3, u4, u5, u6, u7, u8, u9⟩ := u
        obtain ⟨M1, e1, s1, f1⟩ := pi_ex u5 1 (iI 0)
        have cu1 : Cu M1 (a + 38 + 8 * i) (C' i).1 0 (C' i).2.2.1 (C' i).2.2.2.1 (C' i).2.2.2.2.1 (C' i).2.2.2.2.2.1 (C' i).2.2.2.2.2.2.1 (C' i).2.2.2.2.2.2.2 := by
          obtain ⟨f8, u8a, u8b⟩ := u8
          obtain ⟨f9, u9a, u9b⟩ := u9
          exact ⟨nb0, u2, u3, u4, s1, u6.fr f1 (by omega), u7.fr f1 (by omega), ⟨f8, f1.at u8a (by omega), u8b⟩, f9, f1.at u9a (by omega), u9b⟩
        obtain ⟨M2, e2, s2, f2⟩ := cu_unmark (n := n) cu1
        have f12 : fr M M2 (a + 38 + 8 * i) 8 := (f1.mono (by omega) (by omega)).trans (f2.mono (by omega) (by omega))
        have C1' : Cv M2 a (fun j => if j = i then noU (C' i) else C' j) := by
          obtain ⟨⟨f, q1, q2⟩, q5⟩ := hC
          refine ⟨⟨f, f12.at q1 (by omega), q2⟩, fun j hj => ?_⟩
          by_cases e : j = i
          · subst e; simp only [↓reduceIte]; exact s2
          · simp only [if_neg e]; exact (q5 j hj).fr f12 (by omega)
        have ra1 : mm_ra M1 (a + 2) (iI i) = some (a + 38 + 8 * i) := by
          obtain ⟨⟨f, q1, q2⟩, q5⟩ := hC
          rw [ra_at (f1.at q1 (by omega)) (by omega) (by omega) (by omega) (sm_of (by omega) (by omega)), Int.toNat_natCast, q2 _ (by omega)]
        obtain ⟨M3, C3, e3, c3, a1, a2, j3, m3, f3⟩ := ih (i + 1) M2 _ (by omega) (by omega) (hO.fr f12 (by omega)) C1' (hJ.fr f12 (by omega))
        refine ⟨M3, C3, ?_, c3, ?_, ?_, j3, m3.trans f12.1, fun q hq => (f3 q hq).trans (f12.2 q (by omega))⟩
        · have r1 := hC.ra (i := i) (by omega) (by omega)
          rw [Int.toNat_natCast] at r1
          simp (disch := (first | assumption | (refine sm_of ?_ ?_ <;> omega) | fail)) only [iI_add, iI_sub, iI_mul, iI_neg, iI_lt, iI_le, iI_eq, b1_s, b2_s, ↓reduceIte, L0, L1, L2, L3, L4, L5, L6, L7, L8, L9, L10, L12, L20, L22, L24, L26, L27, L28, L32, L40, L60, L73, L95, L97, L222, L240, L441, L442, L622, Lm1, Lmh, L11, L13, L14, L15, L16, L17, L18, L19, L21, L23, L25, L30, L31, L33, L36, L39, L41, L44, L48, L53, L54, L55, L57, L58, L59, L91, L93, L98, L99, L100, L105, L106, L112, L114, L115, L119, L122, L160, L180, L200, L255, L1440, L24880, L63, Lm2, pX6_empty_l12b, gr_at o 3 rfl, hC.len, d, r1, e1, gr_at (f1.at o (by omega)) 3 rfl, ra1, e2]
          rw [show ((i : Int) + 1) = ((i + 1 : Nat) : Int) by omega, e3]
        · intro j h3 h4
          by_cases e : j = i
          · subst e; rw [a2 j (by omega)]; simp
          · rw [a1 j (by omega) h4]; simp [e]
        · intro j h3
          rw [a2 j (by omega)]
          simp [show ¬ j = i by omega]
  obtain ⟨M3, C3, e3, c3, a1, -, j3, m3, f3⟩ := loop n 0 M2 C (by omega) (by omega) o2 (hC.fr f12 (by omega)) (hJ.fr f12 (by omega))
  have e3 : pX6_empty_l12 n n M2 a (iI 0) = some M3 := e3
  refine ⟨M3, C3, ?_, ⟨⟨by omega, nb0, (f3 a (by omega)).trans s2⟩, ?_, c3, j3, fs, (f3 _ (by omega)).trans (f12.at hS (by omega))⟩, fun i hi => a1 i (by omega) hi, m3.trans f12.1, fun q hq => (f3 q (by omega)).trans (f12.2 q (by omega))⟩
  · simp (disch := (first | assumption | (refine sm_of ?_ ?_ <;> omega) | fail)) only [iI_add, iI_sub, iI_mul, iI_neg, iI_lt, iI_le, iI_eq, b1_s, b2_s, ↓reduceIte, L0, L1, L2, L3, L4, L5, L6, L7, L8, L9, L10, L12, L20, L22, L24, L26, L27, L28, L32, L40, L60, L73, L95, L97, L222, L240, L441, L442, L622, Lm1, Lmh, L11, L13, L14, L15, L16, L17, L18, L19, L21, L23, L25, L30, L31, L33, L36, L39, L41, L44, L48, L53, L54, L55, L57, L58, L59, L91, L93, L98, L99, L100, L105, L106, L112, L114, L115, L119, L122, L160, L180, L200, L255, L1440, L24880, L63, Lm2, pX6_empty, v_at hO.2.2, e1, e2, e3]
  · have l2 := hL.fr f12 (by omega)
    obtain ⟨⟨f, q1, q2⟩, q3, q4, q5⟩ := l2
    refine ⟨⟨f, (f3 _ (by omega)).trans q1, q2⟩, q3, q4, fun j hj => ?_⟩
    obtain ⟨z1, z2, z3, z4, z5, k, z6, z7⟩ := q5 j hj
    exact ⟨z1, (f3 _ (by omega)).trans z2, z3, z4, (f3 _ (by omega)).trans z5, k, (f3 _ (by omega)).trans z6, z7⟩
