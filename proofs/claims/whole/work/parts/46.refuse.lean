def ln (ls : List kL) (k : Int) : kL := ls.getD k.toNat (0, [])
/-- under which status an act is refused (-1: it isn't) -/
def whyK (ls : List kL) (C : Nat → kU) (sort x y : Int) (xs : List Int) : Int :=
  if sort = 0 then (if isLn ls x = false then 0 else if xs = [] then 1 else if (ln ls x).2 = xs then 2 else -1)
  else if sort = 1 then (if ls.length = 0 ∨ x < 0 ∨ (ls.length : Int) < x then 0 else if xs = [] then 1 else if ls.length = 10 then 3 else -1)
  else if sort = 2 then (if isLn ls x = false then 0 else if ls.length = 1 then 2 else -1)
  else if sort = 3 then (if isLn ls x = false ∨ isLn ls y = false then 0 else if x = y then 2 else -1)
  else if sort = 7 then (if isLn ls x = false then 0 else if y < 1 ∨ ((ln ls x).2.length : Int) ≤ y then 1 else if ls.length = 10 then 3 else -1)
  else if sort = 8 then (if x < 0 ∨ (ls.length : Int) - 1 ≤ x then 0 else if (20 : Int) < (ln ls x).2.length + (ln ls (x + 1)).2.length then 3 else -1)
  else if sort = 4 then (if x < 0 ∨ 3 ≤ x ∨ ls.length = 0 then 0 else if y < 1 ∨ 9 < y ∨ xs = [] then 1 else -1)
  else if isCu C x = false then 0 else if sort = 6 ∧ (C x.toNat).2.2.1 = false then 2 else -1
theorem len_nil {xs : List Int} : ((xs.length : Int) = 0) = (xs = []) := by
  apply propext; constructor
  · intro h; exact List.eq_nil_of_length_eq_zero (by omega)
  · intro h; rw [h]; rfl
theorem st_splitR {n : Nat} {M : mm_M} {a : Nat} {F : Nat → Nat} {D : Nat → kL} {cc : Nat} {giv : Int} (hO : Ov M a cc giv) (hL : Lv M a F D) {x y : Int} (hx : sm x) (hy : sm y) : pX6_splitRefusal n M a (iI x) (iI y) = some (iI (if ¬ (0 ≤ x ∧ x < cc) then 0 else if y < 1 ∨ ((D (F x.toNat)).2.length : Int) ≤ y then 1 else if cc = 10 then 3 else -1), M) := by
  have hc := hO.1
  by_cases c1 : 0 ≤ x ∧ x < cc
  · have l := hL.ln (i := x.toNat) (by omega)
    have len := hL.len (i := x.toNat) (by omega)
    have e : decide (0 ≤ x ∧ x < cc) = true := by simp [c1]
    by_cases c2 : y < 1
    · simp (disch := (first | assumption | (refine sm_of ?_ ?_ <;> omega) | fail)) only [iI_add, iI_sub, iI_mul, iI_neg, iI_lt, iI_le, iI_eq, b1_s, b2_s, ↓reduceIte, L0, L1, L2, L3, L4, L5, L6, L7, L8, L9, L10, L12, L20, L22, L24, L26, L27, L28, L32, L40, L60, L73, L95, L97, L222, L240, L441, L442, L622, Lm1, Lmh, pX6_splitRefusal, v_at hO.2.2, st_hasL hO hx, e, bI_0, Bool.true_eq_false, c2]
      simp [c1]
    · by_cases c3 : y < (D (F x.toNat)).2.length
      · rw [if_neg (show ¬ ¬ (0 ≤ x ∧ x < cc) from fun z => z c1), if_neg (show ¬ (y < 1 ∨ ((D (F x.toNat)).2.length : Int) ≤ y) by omega)]
        simp (disch := (first | assumption | (refine sm_of ?_ ?_ <;> omega) | fail)) only [iI_add, iI_sub, iI_mul, iI_neg, iI_lt, iI_le, iI_eq, b1_s, b2_s, ↓reduceIte, L0, L1, L2, L3, L4, L5, L6, L7, L8, L9, L10, L12, L20, L22, L24, L26, L27, L28, L32, L40, L60, L73, L95, L97, L222, L240, L441, L442, L622, Lm1, Lmh, pX6_splitRefusal, v_at hO.2.2, st_hasL hO hx, e, bI_0, Bool.true_eq_false, c2, gr_at hO.2.2 0 rfl, hL.ra c1.1 (by omega), gr_at l.2.1 0 rfl, gi_at l.2.2.2.2.1 1 rfl, c3, gi_at hO.2.2 1 rfl]
        by_cases c4 : (cc : Int) = 10
        · rw [if_pos c4, if_pos (by omega)]
        · rw [if_neg c4, if_neg (by omega)]
      · simp (disch := (first | assumption | (refine sm_of ?_ ?_ <;> omega) | fail)) only [iI_add, iI_sub, iI_mul, iI_neg, iI_lt, iI_le, iI_eq, b1_s, b2_s, ↓reduceIte, L0, L1, L2, L3, L4, L5, L6, L7, L8, L9, L10, L12, L20, L22, L24, L26, L27, L28, L32, L40, L60, L73, L95, L97, L222, L240, L441, L442, L622, Lm1, Lmh, pX6_splitRefusal, v_at hO.2.2, st_hasL hO hx, e, bI_0, Bool.true_eq_false, c2, gr_at hO.2.2 0 rfl, hL.ra c1.1 (by omega), gr_at l.2.1 0 rfl, gi_at l.2.2.2.2.1 1 rfl, c3]
        simp [c1, show ((D (F x.toNat)).2.length : Int) ≤ y by omega]
  · have e : decide (0 ≤ x ∧ x < cc) = false := by simp; omega
    simp (disch := (first | assumption | (refine sm_of ?_ ?_ <;> omega) | fail)) only [iI_add, iI_sub, iI_mul, iI_neg, iI_lt, iI_le, iI_eq, b1_s, b2_s, ↓reduceIte, L0, L1, L2, L3, L4, L5, L6, L7, L8, L9, L10, L12, L20, L22, L24, L26, L27, L28, L32, L40, L60, L73, L95, L97, L222, L240, L441, L442, L622, Lm1, Lmh, pX6_splitRefusal, v_at hO.2.2, st_hasL hO hx, e, bI_0]
    rw [if_pos c1]
theorem st_joinR {n : Nat} {M : mm_M} {a : Nat} {F : Nat → Nat} {D : Nat → kL} {cc : Nat} {giv : Int} (hO : Ov M a cc giv) (hL : Lv M a F D) {x : Int} (hx : sm x) : pX6_joinRefusal n M a (iI x) = some (iI (if x < 0 ∨ (cc : Int) - 1 ≤ x then 0 else if (20 : Int) < (D (F x.toNat)).2.length + (D (F (x + 1).toNat)).2.length then 3 else -1), M) := by
  have hc := hO.1
  by_cases c1 : x < 0
  · simp (disch := (first | assumption | (refine sm_of ?_ ?_ <;> omega) | fail)) only [iI_add, iI_sub, iI_mul, iI_neg, iI_lt, iI_le, iI_eq, b1_s, b2_s, ↓reduceIte, L0, L1, L2, L3, L4, L5, L6, L7, L8, L9, L10, L12, L20, L22, L24, L26, L27, L28, L32, L40, L60, L73, L95, L97, L222, L240, L441, L442, L622, Lm1, Lmh, pX6_joinRefusal, v_at hO.2.2, c1]
    simp
  · by_cases c2 : x < (cc : Int) - 1
    · have l := hL.ln (i := x.toNat) (by omega)
      have len := hL.len (i := x.toNat) (by omega)
      have l2 := hL.ln (i := (x + 1).toNat) (by omega)
      have len2 := hL.len (i := (x + 1).toNat) (by omega)
      rw [if_neg (show ¬ (x < 0 ∨ (cc : Int) - 1 ≤ x) by omega)]
      simp (disch := (first | assumption | (refine sm_of ?_ ?_ <;> omega) | fail)) only [iI_add, iI_sub, iI_mul, iI_neg, iI_lt, iI_le, iI_eq, b1_s, b2_s, ↓reduceIte, L0, L1, L2, L3, L4, L5, L6, L7, L8, L9, L10, L12, L20, L22, L24, L26, L27, L28, L32, L40, L60, L73, L95, L97, L222, L240, L441, L442, L622, Lm1, Lmh, pX6_joinRefusal, v_at hO.2.2, c1, gi_at hO.2.2 1 rfl, c2, gr_at hO.2.2 0 rfl, hL.ra (i := x) (by omega) (by omega), gr_at l.2.1 0 rfl, gi_at l.2.2.2.2.1 1 rfl, hL.ra (i := x + 1) (by omega) (by omega), gr_at l2.2.1 0 rfl, gi_at l2.2.2.2.2.1 1 rfl]
      by_cases c3 : ((D (F x.toNat)).2.length : Int) + (D (F (x + 1).toNat)).2.length ≤ 20
      · rw [if_pos c3, if_neg (by omega)]
      · rw [if_neg c3, if_pos (by omega)]
    · simp (disch := (first | assumption | (refine sm_of ?_ ?_ <;> omega) | fail)) only [iI_add, iI_sub, iI_mul, iI_neg, iI_lt, iI_le, iI_eq, b1_s, b2_s, ↓reduceIte, L0, L1, L2, L3, L4, L5, L6, L7, L8, L9, L10, L12, L20, L22, L24, L26, L27, L28, L32, L40, L60, L73, L95, L97, L222, L240, L441, L442, L622, Lm1, Lmh, pX6_joinRefusal, v_at hO.2.2, c1, gi_at hO.2.2 1 rfl, c2]
      rw [if_pos (by omega)]
theorem st_curR {n : Nat} {M : mm_M} {a s : Nat} {cc : Nat} {giv : Int} {C : Nat → kU} {xs : List Int} (hO : Ov M a cc giv) (hC : Cv M a C) {sort x y : Int} (h : Sp M s (iI sort) (iI x) (iI y) xs) (hs : 4 ≤ sort ∧ sort ≤ 6) (hx : sm x) (hy : sm y) : pX6_cursorRefusal n M a s = some (iI (if sort = 4 then (if x < 0 ∨ 3 ≤ x ∨ cc = 0 then 0 else if y < 1 ∨ 9 < y ∨ xs = [] then 1 else -1) else if isCu C x = false then 0 else if sort = 6 ∧ (C x.toNat).2.2.1 = false then 2 else -1), M) := by
  have hc := hO.1
  obtain ⟨h1, h2⟩ := h
  have l2 := h2.1
  by_cases c0 : sort = 4
  · subst c0
    by_cases c1 : x < 0
    · simp (disch := (first | assumption | (refine sm_of ?_ ?_ <;> omega) | fail)) only [iI_add, iI_sub, iI_mul, iI_neg, iI_lt, iI_le, iI_eq, b1_s, b2_s, ↓reduceIte, L0, L1, L2, L3, L4, L5, L6, L7, L8, L9, L10, L12, L20, L22, L24, L26, L27, L28, L32, L40, L60, L73, L95, L97, L222, L240, L441, L442, L622, Lm1, Lmh, pX6_cursorRefusal, v_at hO.2.2, gi_at h1 1 rfl, gi_at h1 0 rfl, c1]
      simp
    · by_cases c2 : 3 ≤ x
      · simp (disch := (first | assumption | (refine sm_of ?_ ?_ <;> omega) | fail)) only [iI_add, iI_sub, iI_mul, iI_neg, iI_lt, iI_le, iI_eq, b1_s, b2_s, ↓reduceIte, L0, L1, L2, L3, L4, L5, L6, L7, L8, L9, L10, L12, L20, L22, L24, L26, L27, L28, L32, L40, L60, L73, L95, L97, L222, L240, L441, L442, L622, Lm1, Lmh, pX6_cursorRefusal, v_at hO.2.2, gi_at h1 1 rfl, gi_at h1 0 rfl, c1, gr_at hO.2.2 3 rfl, hC.len, c2]
        simp
      · by_cases c3 : (cc : Int) = 0
        · simp (disch := (first | assumption | (refine sm_of ?_ ?_ <;> omega) | fail)) only [iI_add, iI_sub, iI_mul, iI_neg, iI_lt, iI_le, iI_eq, b1_s, b2_s, ↓reduceIte, L0, L1, L2, L3, L4, L5, L6, L7, L8, L9, L10, L12, L20, L22, L24, L26, L27, L28, L32, L40, L60, L73, L95, L97, L222, L240, L441, L442, L622, Lm1, Lmh, pX6_cursorRefusal, v_at hO.2.2, gi_at h1 1 rfl, gi_at h1 0 rfl, c1, gr_at hO.2.2 3 rfl, hC.len, c2, gi_at hO.2.2 1 rfl, c3]
          simp [show cc = 0 by omega]
        · by_cases c4 : y < 1
          · simp (disch := (first | assumption | (refine sm_of ?_ ?_ <;> omega) | fail)) only [iI_add, iI_sub, iI_mul, iI_neg, iI_lt, iI_le, iI_eq, b1_s, b2_s, ↓reduceIte, L0, L1, L2, L3, L4, L5, L6, L7, L8, L9, L10, L12, L20, L22, L24, L26, L27, L28, L32, L40, L60, L73, L95, L97, L222, L240, L441, L442, L622, Lm1, Lmh, pX6_cursorRefusal, v_at hO.2.2, gi_at h1 1 rfl, gi_at h1 0 rfl, c1, gr_at hO.2.2 3 rfl, hC.len, c2, gi_at hO.2.2 1 rfl, c3, gi_at h1 2 rfl, c4]
            simp [show ¬ cc = 0 by omega]
          · by_cases c5 : 9 < y
            · simp (disch := (first | assumption | (refine sm_of ?_ ?_ <;> omega) | fail)) only [iI_add, iI_sub, iI_mul, iI_neg, iI_lt, iI_le, iI_eq, b1_s, b2_s, ↓reduceIte, L0, L1, L2, L3, L4, L5, L6, L7, L8, L9, L10, L12, L20, L22, L24, L26, L27, L28, L32, L40, L60, L73, L95, L97, L222, L240, L441, L442, L622, Lm1, Lmh, pX6_cursorRefusal, v_at hO.2.2, gi_at h1 1 rfl, gi_at h1 0 rfl, c1, gr_at hO.2.2 3 rfl, hC.len, c2, gi_at hO.2.2 1 rfl, c3, gi_at h1 2 rfl, c4, c5]
              simp [show ¬ cc = 0 by omega]
            · simp (disch := (first | assumption | (refine sm_of ?_ ?_ <;> omega) | fail)) only [iI_add, iI_sub, iI_mul, iI_neg, iI_lt, iI_le, iI_eq, b1_s, b2_s, ↓reduceIte, L0, L1, L2, L3, L4, L5, L6, L7, L8, L9, L10, L12, L20, L22, L24, L26, L27, L28, L32, L40, L60, L73, L95, L97, L222, L240, L441, L442, L622, Lm1, Lmh, pX6_cursorRefusal, v_at hO.2.2, gi_at h1 1 rfl, gi_at h1 0 rfl, c1, gr_at hO.2.2 3 rfl, hC.len, c2, gi_at hO.2.2 1 rfl, c3, gi_at h1 2 rfl, c4, c5, gr_at h1 3 rfl, gi_at h2.2.2.1 1 rfl, len_nil]
              by_cases c6 : xs = []
              · simp [show ¬ cc = 0 by omega, c6]
              · simp [show ¬ cc = 0 by omega, c6]
  · cases hq : isCu C x
    · simp (disch := (first | assumption | (refine sm_of ?_ ?_ <;> omega) | fail)) only [iI_add, iI_sub, iI_mul, iI_neg, iI_lt, iI_le, iI_eq, b1_s, b2_s, ↓reduceIte, L0, L1, L2, L3, L4, L5, L6, L7, L8, L9, L10, L12, L20, L22, L24, L26, L27, L28, L32, L40, L60, L73, L95, L97, L222, L240, L441, L442, L622, Lm1, Lmh, pX6_cursorRefusal, v_at hO.2.2, gi_at h1 1 rfl, gi_at h1 0 rfl, c0, st_hasC hO hC hx, hq, bI_0]
    · have hq' := hq
      unfold isCu at hq'
      simp at hq'
      have q := hC.2 x.toNat (by omega)
      by_cases c6 : sort = 6
      · subst c6
        simp (disch := (first | assumption | (refine sm_of ?_ ?_ <;> omega) | fail)) only [iI_add, iI_sub, iI_mul, iI_neg, iI_lt, iI_le, iI_eq, b1_s, b2_s, ↓reduceIte, L0, L1, L2, L3, L4, L5, L6, L7, L8, L9, L10, L12, L20, L22, L24, L26, L27, L28, L32, L40, L60, L73, L95, L97, L222, L240, L441, L442, L622, Lm1, Lmh, pX6_cursorRefusal, v_at hO.2.2, gi_at h1 1 rfl, gi_at h1 0 rfl, c0, st_hasC hO hC hx, hq, bI_0, Bool.true_eq_false, gr_at hO.2.2 3 rfl, hC.ra (i := x) (by omega) (by omega), gi_at q.2.2.2.2.1 2 rfl]
        cases (C x.toNat).2.2.1 <;> simp
      · simp (disch := (first | assumption | (refine sm_of ?_ ?_ <;> omega) | fail)) only [iI_add, iI_sub, iI_mul, iI_neg, iI_lt, iI_le, iI_eq, b1_s, b2_s, ↓reduceIte, L0, L1, L2, L3, L4, L5, L6, L7, L8, L9, L10, L12, L20, L22, L24, L26, L27, L28, L32, L40, L60, L73, L95, L97, L222, L240, L441, L442, L622, Lm1, Lmh, pX6_cursorRefusal, v_at hO.2.2, gi_at h1 1 rfl, gi_at h1 0 rfl, c0, st_hasC hO hC hx, hq, bI_0, Bool.true_eq_false, c6]
        simp
theorem st_refuse {n : Nat} (hn : 60 ≤ n) {M : mm_M} {a s : Nat} {F : Nat → Nat} {D : Nat → kL} {cc : Nat} {giv : Int} {C : Nat → kU} {xs : List Int} (hO : Ov M a cc giv) (hL : Lv M a F D) (hC : Cv M a C) {sort x y : Int} (h : Sp M s (iI sort) (iI x) (iI y) xs) (hs : 0 ≤ sort ∧ sort ≤ 8) (hx : sm x) (hy : sm y) : pX6_refusal n M a s = some (iI (whyK (lns F D cc) C sort x y xs), M) := by
  have hc := hO.1
  have h1 := h.1
  have h2 := h.2
  have l2 := h2.1
  have lg : ∀ z : Int, 0 ≤ z → z < cc → ln (lns F D cc) z = D (F z.toNat) := fun z z1 z2 => lns_get (by omega)
  rcases (show sort = 0 ∨ sort = 1 ∨ sort = 2 ∨ sort = 3 ∨ (4 ≤ sort ∧ sort ≤ 6) ∨ sort = 7 ∨ sort = 8 by omega) with rfl | rfl | rfl | rfl | hs | rfl | rfl
  · by_cases c1 : 0 ≤ x ∧ x < cc
    · have l := hL.ln (i := x.toNat) (by omega)
      have e : decide (0 ≤ x ∧ x < cc) = true := by simp [c1]
      simp (disch := (first | assumption | (refine sm_of ?_ ?_ <;> omega) | fail)) only [iI_add, iI_sub, iI_mul, iI_neg, iI_lt, iI_le, iI_eq, b1_s, b2_s, ↓reduceIte, L0, L1, L2, L3, L4, L5, L6, L7, L8, L9, L10, L12, L20, L22, L24, L26, L27, L28, L32, L40, L60, L73, L95, L97, L222, L240, L441, L442, L622, Lm1, Lmh, pX6_refusal, v_at hO.2.2, gi_at h1 1 rfl, gi_at h1 0 rfl, st_hasL hO hx, e, bI_0, Bool.true_eq_false, gr_at h1 3 rfl, gi_at h2.2.2.1 1 rfl, len_nil, gr_at hO.2.2 0 rfl, hL.ra c1.1 (by omega), gr_at l.2.1 0 rfl, sg_like hn l.2.2 h2]
      unfold whyK isLn
      rw [lns_len, lg x c1.1 c1.2]
      by_cases c2 : xs = []
      · simp [c1, c2]
      · by_cases c3 : (D (F x.toNat)).2 = xs
        · simp [c1, c2, c3]
        · simp [c1, c2, c3]
    · have e : decide (0 ≤ x ∧ x < cc) = false := by simp; omega
      simp (disch := (first | assumption | (refine sm_of ?_ ?_ <;> omega) | fail)) only [iI_add, iI_sub, iI_mul, iI_neg, iI_lt, iI_le, iI_eq, b1_s, b2_s, ↓reduceIte, L0, L1, L2, L3, L4, L5, L6, L7, L8, L9, L10, L12, L20, L22, L24, L26, L27, L28, L32, L40, L60, L73, L95, L97, L222, L240, L441, L442, L622, Lm1, Lmh, pX6_refusal, v_at hO.2.2, gi_at h1 1 rfl, gi_at h1 0 rfl, st_hasL hO hx, e, bI_0]
      unfold whyK isLn
      rw [lns_len, e]; simp
  · unfold whyK
    rw [lns_len]
    have z1 : ((1 : Int) = 0) = False := by simp
    by_cases c1 : (cc : Int) = 0
    · simp (disch := (first | assumption | (refine sm_of ?_ ?_ <;> omega) | fail)) only [iI_add, iI_sub, iI_mul, iI_neg, iI_lt, iI_le, iI_eq, b1_s, b2_s, ↓reduceIte, L0, L1, L2, L3, L4, L5, L6, L7, L8, L9, L10, L12, L20, L22, L24, L26, L27, L28, L32, L40, L60, L73, L95, L97, L222, L240, L441, L442, L622, Lm1, Lmh, pX6_refusal, v_at hO.2.2, gi_at h1 1 rfl, gi_at h1 0 rfl, gi_at hO.2.2 1 rfl, c1, z1]
      simp [show cc = 0 by omega]
    · by_cases c2 : x < 0
      · simp (disch := (first | assumption | (refine sm_of ?_ ?_ <;> omega) | fail)) only [iI_add, iI_sub, iI_mul, iI_neg, iI_lt, iI_le, iI_eq, b1_s, b2_s, ↓reduceIte, L0, L1, L2, L3, L4, L5, L6, L7, L8, L9, L10, L12, L20, L22, L24, L26, L27, L28, L32, L40, L60, L73, L95, L97, L222, L240, L441, L442, L622, Lm1, Lmh, pX6_refusal, v_at hO.2.2, gi_at h1 1 rfl, gi_at h1 0 rfl, gi_at hO.2.2 1 rfl, c1, z1, c2]
        simp
      · by_cases c3 : x ≤ cc
        · simp (disch := (first | assumption | (refine sm_of ?_ ?_ <;> omega) | fail)) only [iI_add, iI_sub, iI_mul, iI_neg, iI_lt, iI_le, iI_eq, b1_s, b2_s, ↓reduceIte, L0, L1, L2, L3, L4, L5, L6, L7, L8, L9, L10, L12, L20, L22, L24, L26, L27, L28, L32, L40, L60, L73, L95, L97, L222, L240, L441, L442, L622, Lm1, Lmh, pX6_refusal, v_at hO.2.2, gi_at h1 1 rfl, gi_at h1 0 rfl, gi_at hO.2.2 1 rfl, c1, z1, c2, c3, gr_at h1 3 rfl, gi_at h2.2.2.1 1 rfl, len_nil]
          by_cases c4 : xs = []
          · simp [c4, show ¬ cc = 0 by omega, show ¬ (cc : Int) < x by omega]
          · by_cases c5 : (cc : Int) = 10
            · simp [c4, c5, show cc = 10 by omega, show ¬ (10 : Int) < x by omega]
            · simp [c4, c5, show ¬ cc = 0 by omega, show ¬ (cc : Int) < x by omega, show ¬ cc = 10 by omega]
        · simp (disch := (first | assumption | (refine sm_of ?_ ?_ <;> omega) | fail)) only [iI_add, iI_sub, iI_mul, iI_neg, iI_lt, iI_le, iI_eq, b1_s, b2_s, ↓reduceIte, L0, L1, L2, L3, L4, L5, L6, L7, L8, L9, L10, L12, L20, L22, L24, L26, L27, L28, L32, L40, L60, L73, L95, L97, L222, L240, L441, L442, L622, Lm1, Lmh, pX6_refusal, v_at hO.2.2, gi_at h1 1 rfl, gi_at h1 0 rfl, gi_at hO.2.2 1 rfl, c1, z1, c2, c3]
          simp [show (cc : Int) < x by omega]
  · unfold whyK isLn
    rw [lns_len]
    by_cases c1 : 0 ≤ x ∧ x < cc
    · have e : decide (0 ≤ x ∧ x < cc) = true := by simp [c1]
      simp (disch := (first | assumption | (refine sm_of ?_ ?_ <;> omega) | fail)) only [iI_add, iI_sub, iI_mul, iI_neg, iI_lt, iI_le, iI_eq, b1_s, b2_s, ↓reduceIte, L0, L1, L2, L3, L4, L5, L6, L7, L8, L9, L10, L12, L20, L22, L24, L26, L27, L28, L32, L40, L60, L73, L95, L97, L222, L240, L441, L442, L622, Lm1, Lmh, pX6_refusal, v_at hO.2.2, gi_at h1 1 rfl, gi_at h1 0 rfl, st_hasL hO hx, e, bI_0, Bool.true_eq_false, gi_at hO.2.2 1 rfl]
      by_cases c2 : (cc : Int) = 1
      · simp [c2, show cc = 1 by omega]
      · simp [c2, show ¬ cc = 1 by omega]
    · have e : decide (0 ≤ x ∧ x < cc) = false := by simp; omega
      simp (disch := (first | assumption | (refine sm_of ?_ ?_ <;> omega) | fail)) only [iI_add, iI_sub, iI_mul, iI_neg, iI_lt, iI_le, iI_eq, b1_s, b2_s, ↓reduceIte, L0, L1, L2, L3, L4, L5, L6, L7, L8, L9, L10, L12, L20, L22, L24, L26, L27, L28, L32, L40, L60, L73, L95, L97, L222, L240, L441, L442, L622, Lm1, Lmh, pX6_refusal, v_at hO.2.2, gi_at h1 1 rfl, gi_at h1 0 rfl, st_hasL hO hx, e, bI_0]
      simp
  · unfold whyK isLn
    rw [lns_len]
    by_cases c1 : 0 ≤ x ∧ x < cc
    · have e : decide (0 ≤ x ∧ x < cc) = true := by simp [c1]
      by_cases c2 : 0 ≤ y ∧ y < cc
      · have e2 : decide (0 ≤ y ∧ y < cc) = true := by simp [c2]
        simp (disch := (first | assumption | (refine sm_of ?_ ?_ <;> omega) | fail)) only [iI_add, iI_sub, iI_mul, iI_neg, iI_lt, iI_le, iI_eq, b1_s, b2_s, ↓reduceIte, L0, L1, L2, L3, L4, L5, L6, L7, L8, L9, L10, L12, L20, L22, L24, L26, L27, L28, L32, L40, L60, L73, L95, L97, L222, L240, L441, L442, L622, Lm1, Lmh, pX6_refusal, v_at hO.2.2, gi_at h1 1 rfl, gi_at h1 0 rfl, st_hasL hO hx, st_hasL hO hy, e, e2, bI_0, Bool.true_eq_false, gi_at h1 2 rfl]
        by_cases c3 : x = y
        · simp [c3]
        · simp [c3]
      · have e2 : decide (0 ≤ y ∧ y < cc) = false := by simp; omega
        simp (disch := (first | assumption | (refine sm_of ?_ ?_ <;> omega) | fail)) only [iI_add, iI_sub, iI_mul, iI_neg, iI_lt, iI_le, iI_eq, b1_s, b2_s, ↓reduceIte, L0, L1, L2, L3, L4, L5, L6, L7, L8, L9, L10, L12, L20, L22, L24, L26, L27, L28, L32, L40, L60, L73, L95, L97, L222, L240, L441, L442, L622, Lm1, Lmh, pX6_refusal, v_at hO.2.2, gi_at h1 1 rfl, gi_at h1 0 rfl, st_hasL hO hx, st_hasL hO hy, e, e2, bI_0, Bool.true_eq_false, gi_at h1 2 rfl]
        simp
    · have e : decide (0 ≤ x ∧ x < cc) = false := by simp; omega
      simp (disch := (first | assumption | (refine sm_of ?_ ?_ <;> omega) | fail)) only [iI_add, iI_sub, iI_mul, iI_neg, iI_lt, iI_le, iI_eq, b1_s, b2_s, ↓reduceIte, L0, L1, L2, L3, L4, L5, L6, L7, L8, L9, L10, L12, L20, L22, L24, L26, L27, L28, L32, L40, L60, L73, L95, L97, L222, L240, L441, L442, L622, Lm1, Lmh, pX6_refusal, v_at hO.2.2, gi_at h1 1 rfl, gi_at h1 0 rfl, st_hasL hO hx, e, bI_0]
      simp
  · have q := st_curR (n := n) hO hC h hs hx hy
    have n0 : ¬ sort = 0 := by omega
    have n1 : ¬ sort = 1 := by omega
    have n2 : ¬ sort = 2 := by omega
    have n3 : ¬ sort = 3 := by omega
    have n7 : ¬ sort = 7 := by omega
    have n8 : ¬ sort = 8 := by omega
    have ss : sm sort := sm_of (by omega) (by omega)
    simp only [pX6_refusal, v_at hO.2.2, gi_at h1 1 rfl, gi_at h1 0 rfl, b1_s]
    rw [if_neg (by rw [L0, iI_eq ss (sm_of (by omega) (by omega))]; omega), if_neg (by rw [L1, iI_eq ss (sm_of (by omega) (by omega))]; omega), if_neg (by rw [L2, iI_eq ss (sm_of (by omega) (by omega))]; omega), if_neg (by rw [L3, iI_eq ss (sm_of (by omega) (by omega))]; omega), if_neg (by rw [L7, iI_eq ss (sm_of (by omega) (by omega))]; omega), if_neg (by rw [L8, iI_eq ss (sm_of (by omega) (by omega))]; omega), q, b2_s]
    unfold whyK
    rw [lns_len]
    simp only [n0, n1, n2, n3, n7, n8, if_false]
  · have q := st_splitR (n := n) hO hL hx hy
    simp only [pX6_refusal, v_at hO.2.2, gi_at h1 1 rfl, gi_at h1 0 rfl, b1_s]
    rw [if_neg (by decide), if_neg (by decide), if_neg (by decide), if_neg (by decide), if_pos (by decide), gi_at h1 2 rfl, b1_s, q, b2_s]
    unfold whyK isLn
    rw [lns_len]
    by_cases c1 : 0 ≤ x ∧ x < cc
    · rw [lg x c1.1 c1.2]
      simp [c1]
    · have e : decide (0 ≤ x ∧ x < cc) = false := by simp; omega
      rw [if_pos c1, e]; simp
  · have q := st_joinR (n := n) hO hL hx
    simp only [pX6_refusal, v_at hO.2.2, gi_at h1 1 rfl, gi_at h1 0 rfl, b1_s]
    rw [if_neg (by decide), if_neg (by decide), if_neg (by decide), if_neg (by decide), if_neg (by decide), if_pos (by decide), q, b2_s]
    unfold whyK
    rw [lns_len]
    by_cases c1 : x < 0 ∨ (cc : Int) - 1 ≤ x
    · simp [c1]
    · rw [lg x (by omega) (by omega), lg (x + 1) (by omega) (by omega)]
      simp [c1]
/-- under which number an act is logged -/
def subK (ls : List kL) (giv sort x : Int) : Int := if sort = 1 then giv else if sort = 4 ∨ sort = 5 ∨ sort = 6 then x else if isLn ls x = true then (ln ls x).1 else -1
theorem st_subject {n : Nat} {M : mm_M} {a s : Nat} {F : Nat → Nat} {D : Nat → kL} {cc : Nat} {giv : Int} {xs : List Int} (hO : Ov M a cc giv) (hL : Lv M a F D) {sort x y : Int} (h : Sp M s (iI sort) (iI x) (iI y) xs) (hs : 0 ≤ sort ∧ sort ≤ 8) (hx : sm x) : pX6_subject n M a s = some (iI (subK (lns F D cc) giv sort x), M) := by
  have hc := hO.1
  have h1 := h.1
  unfold subK isLn
  rw [lns_len]
  by_cases c1 : sort = 1
  · subst c1
    simp (disch := (first | assumption | (refine sm_of ?_ ?_ <;> omega) | fail)) only [iI_add, iI_sub, iI_mul, iI_neg, iI_lt, iI_le, iI_eq, b1_s, b2_s, ↓reduceIte, L0, L1, L2, L3, L4, L5, L6, L7, L8, L9, L10, L12, L20, L22, L24, L26, L27, L28, L32, L40, L60, L73, L95, L97, L222, L240, L441, L442, L622, Lm1, Lmh, pX6_subject, v_at hO.2.2, gi_at h1 0 rfl, gi_at hO.2.2 2 rfl]
  · by_cases c4 : sort = 4
    · subst c4
      simp (disch := (first | assumption | (refine sm_of ?_ ?_ <;> omega) | fail)) only [iI_add, iI_sub, iI_mul, iI_neg, iI_lt, iI_le, iI_eq, b1_s, b2_s, ↓reduceIte, L0, L1, L2, L3, L4, L5, L6, L7, L8, L9, L10, L12, L20, L22, L24, L26, L27, L28, L32, L40, L60, L73, L95, L97, L222, L240, L441, L442, L622, Lm1, Lmh, pX6_subject, v_at hO.2.2, gi_at h1 0 rfl, gi_at h1 1 rfl]
      simp
    · by_cases c5 : sort = 5
      · subst c5
        simp (disch := (first | assumption | (refine sm_of ?_ ?_ <;> omega) | fail)) only [iI_add, iI_sub, iI_mul, iI_neg, iI_lt, iI_le, iI_eq, b1_s, b2_s, ↓reduceIte, L0, L1, L2, L3, L4, L5, L6, L7, L8, L9, L10, L12, L20, L22, L24, L26, L27, L28, L32, L40, L60, L73, L95, L97, L222, L240, L441, L442, L622, Lm1, Lmh, pX6_subject, v_at hO.2.2, gi_at h1 0 rfl, gi_at h1 1 rfl]
        simp
      · by_cases c6 : sort = 6
        · subst c6
          simp (disch := (first | assumption | (refine sm_of ?_ ?_ <;> omega) | fail)) only [iI_add, iI_sub, iI_mul, iI_neg, iI_lt, iI_le, iI_eq, b1_s, b2_s, ↓reduceIte, L0, L1, L2, L3, L4, L5, L6, L7, L8, L9, L10, L12, L20, L22, L24, L26, L27, L28, L32, L40, L60, L73, L95, L97, L222, L240, L441, L442, L622, Lm1, Lmh, pX6_subject, v_at hO.2.2, gi_at h1 0 rfl, gi_at h1 1 rfl]
          simp
        · by_cases d : 0 ≤ x ∧ x < cc
          · have e : decide (0 ≤ x ∧ x < cc) = true := by simp [d]
            have l := hL.ln (i := x.toNat) (by omega)
            simp (disch := (first | assumption | (refine sm_of ?_ ?_ <;> omega) | fail)) only [iI_add, iI_sub, iI_mul, iI_neg, iI_lt, iI_le, iI_eq, b1_s, b2_s, ↓reduceIte, L0, L1, L2, L3, L4, L5, L6, L7, L8, L9, L10, L12, L20, L22, L24, L26, L27, L28, L32, L40, L60, L73, L95, L97, L222, L240, L441, L442, L622, Lm1, Lmh, pX6_subject, v_at hO.2.2, gi_at h1 0 rfl, gi_at h1 1 rfl, c1, c4, c5, c6, st_hasL hO hx, e, bI_0, Bool.true_eq_false, gr_at hO.2.2 0 rfl, hL.ra d.1 (by omega), gi_at l.2.1 1 rfl]
            have lg : ln (lns F D cc) x = D (F x.toNat) := lns_get (by omega)
            simp [lg]
          · have e : decide (0 ≤ x ∧ x < cc) = false := by simp; omega
            simp (disch := (first | assumption | (refine sm_of ?_ ?_ <;> omega) | fail)) only [iI_add, iI_sub, iI_mul, iI_neg, iI_lt, iI_le, iI_eq, b1_s, b2_s, ↓reduceIte, L0, L1, L2, L3, L4, L5, L6, L7, L8, L9, L10, L12, L20, L22, L24, L26, L27, L28, L32, L40, L60, L73, L95, L97, L222, L240, L441, L442, L622, Lm1, Lmh, pX6_subject, v_at hO.2.2, gi_at h1 0 rfl, gi_at h1 1 rfl, c1, c4, c5, c6, st_hasL hO hx, e, bI_0]
            simp
