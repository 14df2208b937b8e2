theorem L0 : (0 : Int32) = iI 0 := by decide
theorem L1 : (1 : Int32) = iI 1 := by decide
theorem L2 : (2 : Int32) = iI 2 := by decide
theorem L3 : (3 : Int32) = iI 3 := by decide
theorem L4 : (4 : Int32) = iI 4 := by decide
theorem L5 : (5 : Int32) = iI 5 := by decide
theorem L6 : (6 : Int32) = iI 6 := by decide
theorem L7 : (7 : Int32) = iI 7 := by decide
theorem L8 : (8 : Int32) = iI 8 := by decide
theorem L9 : (9 : Int32) = iI 9 := by decide
theorem L10 : (10 : Int32) = iI 10 := by decide
theorem L12 : (12 : Int32) = iI 12 := by decide
theorem L20 : (20 : Int32) = iI 20 := by decide
theorem L22 : (22 : Int32) = iI 22 := by decide
theorem L24 : (24 : Int32) = iI 24 := by decide
theorem L26 : (26 : Int32) = iI 26 := by decide
theorem L27 : (27 : Int32) = iI 27 := by decide
theorem L28 : (28 : Int32) = iI 28 := by decide
theorem L32 : (32 : Int32) = iI 32 := by decide
theorem L40 : (40 : Int32) = iI 40 := by decide
theorem L60 : (60 : Int32) = iI 60 := by decide
theorem L73 : (73 : Int32) = iI 73 := by decide
theorem L95 : (95 : Int32) = iI 95 := by decide
theorem L97 : (97 : Int32) = iI 97 := by decide
theorem L222 : (222 : Int32) = iI 222 := by decide
theorem L240 : (240 : Int32) = iI 240 := by decide
theorem L441 : (441 : Int32) = iI 441 := by decide
theorem L442 : (442 : Int32) = iI 442 := by decide
theorem L622 : (622 : Int32) = iI 622 := by decide
theorem Lm1 : (-1 : Int32) = iI (-1) := by decide
theorem Lmh : (-1000000 : Int32) = iI (-1000000) := by decide
/-! rows of signs -/
def atL (xs : List Int) (p : Int) : Int := if 0 ≤ p ∧ p < xs.length then xs.getD p.toNat 0 else -1
def bd (xs : List Int) : Prop := ∀ x ∈ xs, 0 ≤ x ∧ x < 256
theorem bd.get {xs : List Int} (h : bd xs) {i : Nat} (hi : i < xs.length) : 0 ≤ xs.getD i 0 ∧ xs.getD i 0 < 256 := by
  rw [List.getD_eq_getElem?_getD, List.getElem?_eq_getElem hi]
  exact h _ (List.getElem_mem hi)
def Sg (M : mm_M) (a : Nat) (xs : List Int) : Prop := xs.length ≤ 20 ∧ bd xs ∧ M.2 a = some (mm_ob 5 [.ref (a + 1), .int (iI xs.length)]) ∧ ∃ f : Nat → Int32, M.2 (a + 1) = some (mm_ai 20 f) ∧ ∀ i, i < xs.length → f i = iI (xs.getD i 0)
theorem Sg.fr {M M' : mm_M} {a b k : Nat} {xs : List Int} (h : Sg M a xs) (hf : fr M M' b k) (hd : a + 2 ≤ b ∨ b + k ≤ a) : Sg M' a xs := by
  obtain ⟨h1, h2, h3, f, h4, h5⟩ := h
  exact ⟨h1, h2, by rw [hf.2 _ (by omega)]; exact h3, f, by rw [hf.2 _ (by omega)]; exact h4, h5⟩
theorem sg_at {n : Nat} {M : mm_M} {a : Nat} {xs : List Int} (h : Sg M a xs) {p : Int} (hp : sm p) : pX5_at n M a (iI p) = some (iI (atL xs p), M) := by
  obtain ⟨h1, h2, h3, f, h4, h5⟩ := h
  simp (disch := (first | assumption | (refine sm_of ?_ ?_ <;> omega) | fail)) only [iI_add, iI_sub, iI_mul, iI_neg, iI_lt, iI_le, iI_eq, b1_s, b2_s, ↓reduceIte, L0, L1, L2, L3, L4, L5, L6, L7, L8, L9, L10, L12, L20, L22, L24, L26, L27, L28, L32, L40, L60, L73, L95, L97, L222, L240, L441, L442, L622, Lm1, Lmh, pX5_at, v_at h3, gi_at h3 1 rfl, gr_at h3 0 rfl]
  unfold atL
  by_cases c1 : p < 0
  · rw [if_pos c1, if_neg (by omega)]
  · rw [if_neg c1]
    by_cases c2 : p < xs.length
    · rw [if_pos c2, if_pos (by omega), ia_at h4 (by omega) (by omega) hp, b1_s, h5 _ (by omega)]
    · rw [if_neg c2, if_neg (by omega)]
theorem sg_add {n : Nat} {M : mm_M} {a : Nat} {xs : List Int} (h : Sg M a xs) (hl : xs.length < 20) {c : Int} (hc : 0 ≤ c ∧ c < 256) : ∃ M', pX5_add n M a (iI c) = some M' ∧ Sg M' a (xs ++ [c]) ∧ fr M M' a 2 := by
  obtain ⟨h1, h2, h3, f, h4, h5⟩ := h
  have e1 := set_ne M (mm_ai 20 (upd f (xs.length : Int).toNat (iI c))) (show a ≠ a + 1 by omega)
  rw [h3] at e1
  refine ⟨?w, ?e, ?s, ?t⟩
  case e =>
    simp (disch := (first | assumption | (refine sm_of ?_ ?_ <;> omega) | fail)) only [iI_add, iI_sub, iI_mul, iI_neg, iI_lt, iI_le, iI_eq, b1_s, b2_s, ↓reduceIte, L0, L1, L2, L3, L4, L5, L6, L7, L8, L9, L10, L12, L20, L22, L24, L26, L27, L28, L32, L40, L60, L73, L95, L97, L222, L240, L441, L442, L622, Lm1, Lmh, pX5_add, v_at h3, gi_at h3 1 rfl, gr_at h3 0 rfl, len_at h4]
    rw [if_neg (by omega), is_at h4 (by omega) (by omega) (sm_of (by omega) (by omega)), b1_s, gi_at e1 1 rfl, b1_s, pi_at e1 1 (by simp), b1_s]
  case s =>
    refine ⟨by simp; omega, ?_, ?_, upd f (xs.length : Int).toNat (iI c), ?_, ?_⟩
    · intro x hx
      rcases List.mem_append.mp hx with hx | hx
      · exact h2 x hx
      · rw [List.mem_singleton.mp hx]; exact hc
    · rw [set_eq]
      simp [iI_add, L1]
    · rw [set_ne _ _ (by omega), set_eq]
    · intro i hi
      simp at hi
      by_cases hh : i = xs.length
      · subst hh; simp [upd]
      · have e9 : (xs ++ [c]).getD i 0 = xs.getD i 0 := by
          rw [List.getD_eq_getElem?_getD, List.getElem?_append_left (by omega), List.getD_eq_getElem?_getD]
        rw [e9, ← h5 i (by omega)]
        simp [upd, hh]
  case t => exact (fr.set (by omega)).trans (fr.set (by omega))
theorem sg_copy {n : Nat} {M : mm_M} {a b : Nat} {xs ys : List Int} (h : Sg M a xs) (g : Sg M b ys) (hd : a + 2 ≤ b ∨ b + 2 ≤ a) : ∃ M', pX5_copyFrom n M a b = some M' ∧ Sg M' a ys ∧ fr M M' a 2 := by
  obtain ⟨h1, h2, h3, f, h4, h5⟩ := h
  obtain ⟨g1, g2, g3, k, g4, g5⟩ := g
  have e1 := set_ne M (mm_ai 20 (va_cpy k f (0 : Int).toNat (0 : Int).toNat (ys.length : Int).toNat)) (show b ≠ a + 1 by omega)
  have e2 := set_ne M (mm_ai 20 (va_cpy k f (0 : Int).toNat (0 : Int).toNat (ys.length : Int).toNat)) (show a ≠ a + 1 by omega)
  rw [g3] at e1
  rw [h3] at e2
  refine ⟨?w, ?e, ?s, ?t⟩
  case e =>
    simp (disch := (first | assumption | (refine sm_of ?_ ?_ <;> omega) | fail)) only [iI_add, iI_sub, iI_mul, iI_neg, iI_lt, iI_le, iI_eq, b1_s, b2_s, ↓reduceIte, L0, L1, L2, L3, L4, L5, L6, L7, L8, L9, L10, L12, L20, L22, L24, L26, L27, L28, L32, L40, L60, L73, L95, L97, L222, L240, L441, L442, L622, Lm1, Lmh, pX5_copyFrom, v_at h3, gi_at g3 1 rfl, gr_at h3 0 rfl, gr_at g3 0 rfl]
    rw [cp_at g4 h4 (by omega) (by omega) (by omega) (by omega) (by omega) (sm_of (by omega) (by omega)) (sm_of (by omega) (by omega)) (sm_of (by omega) (by omega)), b1_s, gi_at e1 1 rfl, b1_s, pi_at e2 1 (by simp), b1_s]
  case s =>
    refine ⟨g1, g2, ?_, va_cpy k f (0 : Int).toNat (0 : Int).toNat (ys.length : Int).toNat, ?_, ?_⟩
    · rw [set_eq]; simp
    · rw [set_ne _ _ (by omega), set_eq]
    · intro i hi
      rw [← g5 i hi]
      simp [va_cpy, hi]
  case t => exact (fr.set (by omega)).trans (fr.set (by omega))
def hasAt (xs ys : List Int) (p : Nat) : Bool := ys.isPrefixOf (xs.drop p)
theorem getD_of {xs : List Int} {i : Nat} (h : i < xs.length) : xs.getD i 0 = xs[i] := by
  rw [List.getD_eq_getElem?_getD, List.getElem?_eq_getElem h]; rfl
def bI (b : Bool) : Int32 := if b = true then iI 1 else iI 0
theorem bI_t : bI true = iI 1 := rfl
theorem bI_f : bI false = iI 0 := rfl
theorem bI_0 (b : Bool) : (bI b = iI 0) = (b = false) := by cases b <;> decide
theorem bI_1 (b : Bool) : (bI b = iI 1) = (b = true) := by cases b <;> decide
theorem has_loop {n : Nat} {M : mm_M} {a w : Nat} {xs ys : List Int} (h : Sg M a xs) (g : Sg M w ys) {p : Nat} (hp : p + ys.length ≤ xs.length) : ∀ (k j : Nat), j ≤ ys.length → ys.length < j + k → pX5_has_l21 n k M a w (iI p) (iI j) = some (bI ((ys.drop j).isPrefixOf (xs.drop (p + j))), M) := by
  obtain ⟨h1, h2, h3, f, h4, h5⟩ := h
  obtain ⟨g1, g2, g3, q, g4, g5⟩ := g
  intro k
  induction k with
  | zero => intro j h1 h2; omega
  | succ k ih =>
    intro j hj hk
    show pX5_has_l21b n (pX5_has_l21 n k) M a w (iI p) (iI j) = _
    simp (disch := (first | assumption | (refine sm_of ?_ ?_ <;> omega) | fail)) only [iI_add, iI_sub, iI_mul, iI_neg, iI_lt, iI_le, iI_eq, b1_s, b2_s, ↓reduceIte, L0, L1, L2, L3, L4, L5, L6, L7, L8, L9, L10, L12, L20, L22, L24, L26, L27, L28, L32, L40, L60, L73, L95, L97, L222, L240, L441, L442, L622, Lm1, Lmh, pX5_has_l21b, gi_at g3 1 rfl, gr_at h3 0 rfl, gr_at g3 0 rfl]
    by_cases c1 : (ys.length : Int) ≤ j
    · rw [if_pos c1, List.drop_eq_nil_of_le (by omega)]
      rfl
    · rw [if_neg c1, ia_at h4 (by omega) (by omega) (sm_of (by omega) (by omega)), b1_s, ia_at g4 (by omega) (by omega) (sm_of (by omega) (by omega)), b1_s, h5 _ (by omega), g5 _ (by omega)]
      have b1 := h2.get (i := p + j) (by omega)
      have b2 := g2.get (i := j) (by omega)
      rw [show ((p : Int) + j).toNat = p + j by omega, show ((j : Int)).toNat = j by omega]
      simp (disch := (first | assumption | (refine sm_of ?_ ?_ <;> omega) | fail)) only [iI_add, iI_sub, iI_mul, iI_neg, iI_lt, iI_le, iI_eq, b1_s, b2_s, ↓reduceIte, L0, L1, L2, L3, L4, L5, L6, L7, L8, L9, L10, L12, L20, L22, L24, L26, L27, L28, L32, L40, L60, L73, L95, L97, L222, L240, L441, L442, L622, Lm1, Lmh, ]
      rw [List.drop_eq_getElem_cons (show j < ys.length by omega), List.drop_eq_getElem_cons (show p + j < xs.length by omega)]
      rw [getD_of (show j < ys.length by omega), getD_of (show p + j < xs.length by omega)]
      by_cases c2 : xs[p + j] = ys[j]
      · rw [if_pos c2, show ((j : Int) + 1) = ((j + 1 : Nat) : Int) by omega, ih (j + 1) (by omega) (by omega)]
        simp [List.isPrefixOf, c2, Nat.add_assoc]
      · rw [if_neg c2]
        simp [List.isPrefixOf, Ne.symm c2, bI]
theorem sg_has {n : Nat} (hn : 60 ≤ n) {M : mm_M} {a w : Nat} {xs ys : List Int} (h : Sg M a xs) (g : Sg M w ys) {p : Nat} (hp : p ≤ xs.length) : pX5_has n M a w (iI p) = some (bI (hasAt xs ys p), M) := by
  have hl := has_loop (n := n) h g (p := p)
  obtain ⟨h1, h2, h3, f, h4, h5⟩ := h
  obtain ⟨g1, g2, g3, q, g4, g5⟩ := g
  simp (disch := (first | assumption | (refine sm_of ?_ ?_ <;> omega) | fail)) only [iI_add, iI_sub, iI_mul, iI_neg, iI_lt, iI_le, iI_eq, b1_s, b2_s, ↓reduceIte, L0, L1, L2, L3, L4, L5, L6, L7, L8, L9, L10, L12, L20, L22, L24, L26, L27, L28, L32, L40, L60, L73, L95, L97, L222, L240, L441, L442, L622, Lm1, Lmh, pX5_has, v_at h3, gi_at g3 1 rfl, gi_at h3 1 rfl]
  rw [if_neg (by omega)]
  by_cases c : (p : Int) + ys.length ≤ xs.length
  · rw [if_pos c]
    exact hl (by omega) n 0 (by omega) (by omega)
  · rw [if_neg c]
    have e : hasAt xs ys p = false := by
      rw [Bool.eq_false_iff]
      intro hh
      have := (List.isPrefixOf_iff_prefix.mp hh).length_le
      simp at this
      omega
    rw [e]; rfl
theorem sg_has0 {n : Nat} (hn : 60 ≤ n) {M : mm_M} {a w : Nat} {xs ys : List Int} (h : Sg M a xs) (g : Sg M w ys) : pX5_has n M a w (iI 0) = some (bI (hasAt xs ys 0), M) := sg_has hn h g (p := 0) (by omega)
def cnt (xs ys : List Int) (p : Nat) : Nat := ((List.range p).filter (fun q => hasAt xs ys q)).length
theorem cnt_succ (xs ys : List Int) (p : Nat) : cnt xs ys (p + 1) = cnt xs ys p + if hasAt xs ys p = true then 1 else 0 := by
  unfold cnt
  rw [List.range_succ, List.filter_append, List.length_append]
  by_cases c : hasAt xs ys p = true <;> simp [c]
theorem cnt_le (xs ys : List Int) (p : Nat) : cnt xs ys p ≤ p := by
  unfold cnt
  exact Nat.le_trans (List.length_filter_le _ _) (by simp)
theorem hits_loop {n : Nat} (hn : 60 ≤ n) {M : mm_M} {a w : Nat} {xs ys : List Int} (h : Sg M a xs) (g : Sg M w ys) : ∀ (k p : Nat), p ≤ xs.length → xs.length < p + k → pX5_hits_l4 n k M a w (iI (cnt xs ys p)) (iI p) = some (iI (cnt xs ys xs.length), M) := by
  intro k
  induction k with
  | zero => intro p h1 h2; omega
  | succ k ih =>
    intro p hp hk
    show pX5_hits_l4b n (pX5_hits_l4 n k) M a w _ (iI p) = _
    have c1 := h.1
    have h3 := h.2.2.1
    simp (disch := (first | assumption | (refine sm_of ?_ ?_ <;> omega) | fail)) only [iI_add, iI_sub, iI_mul, iI_neg, iI_lt, iI_le, iI_eq, b1_s, b2_s, ↓reduceIte, L0, L1, L2, L3, L4, L5, L6, L7, L8, L9, L10, L12, L20, L22, L24, L26, L27, L28, L32, L40, L60, L73, L95, L97, L222, L240, L441, L442, L622, Lm1, Lmh, pX5_hits_l4b, gi_at h3 1 rfl]
    by_cases c : (xs.length : Int) ≤ p
    · rw [if_pos c, show p = xs.length by omega]
    · rw [if_neg c, sg_has hn h g (by omega), b2_s, show ((p : Int) + 1) = ((p + 1 : Nat) : Int) by omega]
      have hc := cnt_succ xs ys p
      simp only [bI_0]
      cases d : hasAt xs ys p
      · rw [if_pos rfl]
        rw [d] at hc
        rw [show cnt xs ys p = cnt xs ys (p + 1) by simp at hc; omega]
        exact ih (p + 1) (by omega) (by omega)
      · rw [if_neg (by decide)]
        rw [d] at hc
        rw [show ((cnt xs ys p : Int) + 1) = ((cnt xs ys (p + 1) : Nat) : Int) by simp at hc; omega]
        exact ih (p + 1) (by omega) (by omega)
theorem sg_hits {n : Nat} (hn : 60 ≤ n) {M : mm_M} {a w : Nat} {xs ys : List Int} (h : Sg M a xs) (g : Sg M w ys) : pX5_hits n M a w = some (iI (cnt xs ys xs.length), M) := by
  have h3 := h.2.2.1
  have := h.1
  simp only [pX5_hits, v_at h3]
  exact hits_loop hn h g n 0 (by omega) (by omega)
theorem sg_like {n : Nat} (hn : 60 ≤ n) {M : mm_M} {a w : Nat} {xs ys : List Int} (h : Sg M a xs) (g : Sg M w ys) : pX5_isLike n M a w = some (bI (decide (xs = ys)), M) := by
  have h3 := h.2.2.1
  have g3 := g.2.2.1
  have h1 := h.1
  have g1 := g.1
  simp (disch := (first | assumption | (refine sm_of ?_ ?_ <;> omega) | fail)) only [iI_add, iI_sub, iI_mul, iI_neg, iI_lt, iI_le, iI_eq, b1_s, b2_s, ↓reduceIte, L0, L1, L2, L3, L4, L5, L6, L7, L8, L9, L10, L12, L20, L22, L24, L26, L27, L28, L32, L40, L60, L73, L95, L97, L222, L240, L441, L442, L622, Lm1, Lmh, pX5_isLike, v_at h3, gi_at h3 1 rfl, gi_at g3 1 rfl, sg_has0 hn h g, bI_0]
  by_cases c : (xs.length : Int) = ys.length
  · rw [if_pos c]
    by_cases d : xs = ys
    · subst d
      have e : hasAt xs xs 0 = true := by simp [hasAt]
      simp [e, bI]
    · have e : hasAt xs ys 0 = false := by
        rw [Bool.eq_false_iff]
        intro hh
        have := List.isPrefixOf_iff_prefix.mp hh
        simp at this
        exact d (this.eq_of_length (by omega)).symm
      simp [e, d, bI]
  · rw [if_neg c]
    have d : ¬ xs = ys := by intro e; rw [e] at c; exact c rfl
    simp [d, bI]
/-! comparing -/
def cmpL : List Int → List Int → Int
  | [], [] => 0
  | [], _ :: _ => -1
  | _ :: _, [] => 1
  | x :: xs, y :: ys => if x = y then cmpL xs ys else if x < y then -1 else 1
def lcp : List Int → List Int → Nat
  | x :: xs, y :: ys => if x = y then lcp xs ys + 1 else 0
  | _, _ => 0
theorem cmpL_drop (A B : List Int) (i : Nat) : cmpL (A.drop i) (B.drop i) = match A[i]?, B[i]? with
    | none, none => 0
    | none, some _ => -1
    | some _, none => 1
    | some x, some y => if x = y then cmpL (A.drop (i + 1)) (B.drop (i + 1)) else if x < y then -1 else 1 := by
  by_cases ha : i < A.length <;> by_cases hb : i < B.length
  · rw [List.drop_eq_getElem_cons ha, List.drop_eq_getElem_cons hb, List.getElem?_eq_getElem ha, List.getElem?_eq_getElem hb]; rfl
  · rw [List.drop_eq_getElem_cons ha, List.drop_eq_nil_of_le (show B.length ≤ i by omega), List.getElem?_eq_getElem ha, List.getElem?_eq_none (show B.length ≤ i by omega)]; rfl
  · rw [List.drop_eq_getElem_cons hb, List.drop_eq_nil_of_le (show A.length ≤ i by omega), List.getElem?_eq_getElem hb, List.getElem?_eq_none (show A.length ≤ i by omega)]; rfl
  · rw [List.drop_eq_nil_of_le (show A.length ≤ i by omega), List.drop_eq_nil_of_le (show B.length ≤ i by omega), List.getElem?_eq_none (show A.length ≤ i by omega), List.getElem?_eq_none (show B.length ≤ i by omega)]; rfl
/-- a row read from a place on, this way or that -/
def rd (xs : List Int) (p w : Int) (A : List Int) : Prop := A.length ≤ 20 ∧ ∀ i : Nat, i ≤ 20 → (A[i]? = none ∧ (p + i * w < 0 ∨ (xs.length : Int) ≤ p + i * w)) ∨ (∃ x, A[i]? = some x ∧ 0 ≤ p + i * w ∧ p + i * w < xs.length ∧ xs.getD (p + i * w).toNat 0 = x)
theorem rd.step {xs : List Int} {p w : Int} {A : List Int} (h : rd xs p w A) {i : Nat} (hi : i ≤ 20) {x : Int} (hx : A[i]? = some x) : i < 20 := by
  have := (List.getElem?_eq_some_iff.mp hx).1
  have := h.1
  omega
theorem cmp_loop {n : Nat} {M : mm_M} {a b : Nat} {xs ys : List Int} (h : Sg M a xs) (g : Sg M b ys) {p q w : Int} (hw : w = 1 ∨ w = -1) (hp : -100 ≤ p ∧ p ≤ 100) (hq : -100 ≤ q ∧ q ≤ 100) {A B : List Int} (ha : rd xs p w A) (hb : rd ys q w B) : ∀ (k i : Nat), i ≤ 20 → 20 < i + k → pX5_compare_l3 n k M a (iI p) b (iI q) (iI w) (iI i) = some (iI (cmpL (A.drop i) (B.drop i)), M) := by
  obtain ⟨h1, h2, h3, f, h4, h5⟩ := h
  obtain ⟨g1, g2, g3, e, g4, g5⟩ := g
  intro k
  induction k with
  | zero => intro j h1 h2; omega
  | succ k ih =>
    intro i hi hk
    show pX5_compare_l3b n (pX5_compare_l3 n k) M a (iI p) b (iI q) (iI w) (iI i) = _
    have bw : -20 ≤ (i : Int) * w ∧ (i : Int) * w ≤ 20 := by rcases hw with rfl | rfl <;> omega
    have s1 : sm (p + i * w) := sm_of (by omega) (by omega)
    have s2 : sm (q + i * w) := sm_of (by omega) (by omega)
    rw [cmpL_drop]
    have z1 : (iI 1 = iI 0) = False := by decide
    have z2 : (iI 0 = iI 1) = False := by decide
    have z3 : ((20 : Int) < i) = False := by simp; omega
    rcases ha.2 i hi with ⟨hA, cA⟩ | ⟨x, hA, cA, cA2, cA3⟩ <;> rcases hb.2 i hi with ⟨hB, cB⟩ | ⟨y, hB, cB, cB2, cB3⟩ <;> rw [hA, hB]
    · have w1 : ∀ F : Option (Int32 × mm_M), (if p + i * w < 0 then F else if p + i * w < xs.length then none else F) = F := by
        intro F; by_cases c : p + i * w < 0
        · rw [if_pos c]
        · rw [if_neg c, if_neg (by omega)]
      by_cases c1 : p + i * w < 0 <;> by_cases c2 : q + i * w < 0
      · simp (disch := (first | assumption | (refine sm_of ?_ ?_ <;> omega) | fail)) only [iI_add, iI_sub, iI_mul, iI_neg, iI_lt, iI_le, iI_eq, b1_s, b2_s, ↓reduceIte, L0, L1, L2, L3, L4, L5, L6, L7, L8, L9, L10, L12, L20, L22, L24, L26, L27, L28, L32, L40, L60, L73, L95, L97, L222, L240, L441, L442, L622, Lm1, Lmh, pX5_compare_l3b, pX5_compare_b47, pX5_compare_b68, pX5_compare_b80, gi_at h3 1 rfl, gi_at g3 1 rfl, z1, z2, z3, c1, c2]
      · simp (disch := (first | assumption | (refine sm_of ?_ ?_ <;> omega) | fail)) only [iI_add, iI_sub, iI_mul, iI_neg, iI_lt, iI_le, iI_eq, b1_s, b2_s, ↓reduceIte, L0, L1, L2, L3, L4, L5, L6, L7, L8, L9, L10, L12, L20, L22, L24, L26, L27, L28, L32, L40, L60, L73, L95, L97, L222, L240, L441, L442, L622, Lm1, Lmh, pX5_compare_l3b, pX5_compare_b47, pX5_compare_b68, pX5_compare_b80, gi_at h3 1 rfl, gi_at g3 1 rfl, z1, z2, z3, c1, c2, show ¬ q + i * w < ys.length by omega]
      · simp (disch := (first | assumption | (refine sm_of ?_ ?_ <;> omega) | fail)) only [iI_add, iI_sub, iI_mul, iI_neg, iI_lt, iI_le, iI_eq, b1_s, b2_s, ↓reduceIte, L0, L1, L2, L3, L4, L5, L6, L7, L8, L9, L10, L12, L20, L22, L24, L26, L27, L28, L32, L40, L60, L73, L95, L97, L222, L240, L441, L442, L622, Lm1, Lmh, pX5_compare_l3b, pX5_compare_b47, pX5_compare_b68, pX5_compare_b80, gi_at h3 1 rfl, gi_at g3 1 rfl, z1, z2, z3, c1, c2, show ¬ p + i * w < xs.length by omega]
      · simp (disch := (first | assumption | (refine sm_of ?_ ?_ <;> omega) | fail)) only [iI_add, iI_sub, iI_mul, iI_neg, iI_lt, iI_le, iI_eq, b1_s, b2_s, ↓reduceIte, L0, L1, L2, L3, L4, L5, L6, L7, L8, L9, L10, L12, L20, L22, L24, L26, L27, L28, L32, L40, L60, L73, L95, L97, L222, L240, L441, L442, L622, Lm1, Lmh, pX5_compare_l3b, pX5_compare_b47, pX5_compare_b68, pX5_compare_b80, gi_at h3 1 rfl, gi_at g3 1 rfl, z1, z2, z3, c1, c2, show ¬ p + i * w < xs.length by omega, show ¬ q + i * w < ys.length by omega]
    · by_cases c1 : p + i * w < 0
      · simp (disch := (first | assumption | (refine sm_of ?_ ?_ <;> omega) | fail)) only [iI_add, iI_sub, iI_mul, iI_neg, iI_lt, iI_le, iI_eq, b1_s, b2_s, ↓reduceIte, L0, L1, L2, L3, L4, L5, L6, L7, L8, L9, L10, L12, L20, L22, L24, L26, L27, L28, L32, L40, L60, L73, L95, L97, L222, L240, L441, L442, L622, Lm1, Lmh, pX5_compare_l3b, pX5_compare_b47, pX5_compare_b68, pX5_compare_b80, gi_at h3 1 rfl, gi_at g3 1 rfl, z1, z2, z3, c1, cB2, show ¬ q + i * w < 0 by omega]
      · simp (disch := (first | assumption | (refine sm_of ?_ ?_ <;> omega) | fail)) only [iI_add, iI_sub, iI_mul, iI_neg, iI_lt, iI_le, iI_eq, b1_s, b2_s, ↓reduceIte, L0, L1, L2, L3, L4, L5, L6, L7, L8, L9, L10, L12, L20, L22, L24, L26, L27, L28, L32, L40, L60, L73, L95, L97, L222, L240, L441, L442, L622, Lm1, Lmh, pX5_compare_l3b, pX5_compare_b47, pX5_compare_b68, pX5_compare_b80, gi_at h3 1 rfl, gi_at g3 1 rfl, z1, z2, z3, c1, cB2, show ¬ p + i * w < xs.length by omega, show ¬ q + i * w < 0 by omega]
    · by_cases c2 : q + i * w < 0
      · simp (disch := (first | assumption | (refine sm_of ?_ ?_ <;> omega) | fail)) only [iI_add, iI_sub, iI_mul, iI_neg, iI_lt, iI_le, iI_eq, b1_s, b2_s, ↓reduceIte, L0, L1, L2, L3, L4, L5, L6, L7, L8, L9, L10, L12, L20, L22, L24, L26, L27, L28, L32, L40, L60, L73, L95, L97, L222, L240, L441, L442, L622, Lm1, Lmh, pX5_compare_l3b, pX5_compare_b47, pX5_compare_b68, pX5_compare_b80, gi_at h3 1 rfl, gi_at g3 1 rfl, z1, z2, z3, c2, cA2, show ¬ p + i * w < 0 by omega]
      · simp (disch := (first | assumption | (refine sm_of ?_ ?_ <;> omega) | fail)) only [iI_add, iI_sub, iI_mul, iI_neg, iI_lt, iI_le, iI_eq, b1_s, b2_s, ↓reduceIte, L0, L1, L2, L3, L4, L5, L6, L7, L8, L9, L10, L12, L20, L22, L24, L26, L27, L28, L32, L40, L60, L73, L95, L97, L222, L240, L441, L442, L622, Lm1, Lmh, pX5_compare_l3b, pX5_compare_b47, pX5_compare_b68, pX5_compare_b80, gi_at h3 1 rfl, gi_at g3 1 rfl, z1, z2, z3, c2, cA2, show ¬ p + i * w < 0 by omega, show ¬ q + i * w < ys.length by omega]
    · have b1 := h2.get (i := (p + i * w).toNat) (by omega)
      have b2 := g2.get (i := (q + i * w).toNat) (by omega)
      have e1 := ia_at h4 cA (by omega) s1
      have e2 := ia_at g4 cB (by omega) s2
      rw [h5 _ (by omega), cA3] at e1
      rw [g5 _ (by omega), cB3] at e2
      rw [cA3] at b1
      rw [cB3] at b2
      simp (disch := (first | assumption | (refine sm_of ?_ ?_ <;> omega) | fail)) only [iI_add, iI_sub, iI_mul, iI_neg, iI_lt, iI_le, iI_eq, b1_s, b2_s, ↓reduceIte, L0, L1, L2, L3, L4, L5, L6, L7, L8, L9, L10, L12, L20, L22, L24, L26, L27, L28, L32, L40, L60, L73, L95, L97, L222, L240, L441, L442, L622, Lm1, Lmh, pX5_compare_l3b, pX5_compare_b47, pX5_compare_b68, pX5_compare_b119, gi_at h3 1 rfl, gi_at g3 1 rfl, gr_at h3 0 rfl, gr_at g3 0 rfl, z1, z2, z3, cA2, cB2, show ¬ p + i * w < 0 by omega, show ¬ q + i * w < 0 by omega, e1, e2]
      have := ha.step hi hA
      by_cases c : x = y
      · rw [if_pos c, if_pos c, show ((i : Int) + 1) = ((i + 1 : Nat) : Int) by omega]
        exact ih (i + 1) (by omega) (by omega)
      · rw [if_neg c, if_neg c]
        by_cases d : x < y
        · rw [if_neg (by omega), if_pos d]
        · rw [if_pos (by omega), if_neg d]
theorem rd_fwd {xs : List Int} (h : xs.length ≤ 20) {p : Nat} : rd xs p 1 (xs.drop p) := by
  refine ⟨by simp; omega, fun i hi => ?_⟩
  by_cases c : p + i < xs.length
  · refine Or.inr ⟨xs[p + i], by rw [List.getElem?_drop, List.getElem?_eq_getElem c], by omega, by omega, ?_⟩
    rw [show ((p : Int) + i * 1).toNat = p + i by omega, getD_of c]
  · exact Or.inl ⟨by rw [List.getElem?_drop, List.getElem?_eq_none (by omega)], by omega⟩
theorem rd_bwd {xs : List Int} (h : xs.length ≤ 20) {p : Nat} (hp : p ≤ xs.length) : rd xs ((p : Int) - 1) (-1) (xs.take p).reverse := by
  refine ⟨by simp; omega, fun i hi => ?_⟩
  by_cases c : i < p
  · refine Or.inr ⟨xs[p - 1 - i], ?_, by omega, by omega, ?_⟩
    · rw [List.getElem?_reverse (by simp; omega), List.getElem?_take, if_pos (by simp; omega)]
      rw [show (xs.take p).length - 1 - i = p - 1 - i by simp; omega, List.getElem?_eq_getElem (by omega)]
    · rw [show ((p : Int) - 1 + i * -1).toNat = p - 1 - i by omega, getD_of (by omega)]
  · refine Or.inl ⟨?_, by omega⟩
    rw [List.getElem?_eq_none (by simp; omega)]
theorem sg_cmpf {n : Nat} (hn : 60 ≤ n) {M : mm_M} {a b : Nat} {xs ys : List Int} (h : Sg M a xs) (g : Sg M b ys) {p q : Nat} (hp : p ≤ 50) (hq : q ≤ 50) : pX5_compare n M a (iI p) b (iI q) (iI 1) = some (iI (cmpL (xs.drop p) (ys.drop q)), M) := by
  have h3 := h.2.2.1
  simp only [pX5_compare, v_at h3]
  exact cmp_loop h g (Or.inl rfl) (by omega) (by omega) (rd_fwd h.1) (rd_fwd g.1) n 0 (by omega) (by omega)
theorem sg_cmpb {n : Nat} (hn : 60 ≤ n) {M : mm_M} {a b : Nat} {xs ys : List Int} (h : Sg M a xs) (g : Sg M b ys) {p q : Nat} (hp : p ≤ xs.length) (hq : q ≤ ys.length) : pX5_compare n M a (iI ((p : Int) - 1)) b (iI ((q : Int) - 1)) (iI (-1)) = some (iI (cmpL (xs.take p).reverse (ys.take q).reverse), M) := by
  have h3 := h.2.2.1
  have h1 := h.1
  have g1 := g.1
  simp only [pX5_compare, v_at h3]
  exact cmp_loop h g (Or.inr rfl) (by omega) (by omega) (rd_bwd h.1 hp) (rd_bwd g.1 hq) n 0 (by omega) (by omega)
theorem lcp_drop (A B : List Int) (i : Nat) : lcp (A.drop i) (B.drop i) = match A[i]?, B[i]? with
    | some x, some y => if x = y then lcp (A.drop (i + 1)) (B.drop (i + 1)) + 1 else 0
    | _, _ => 0 := by
  by_cases ha : i < A.length <;> by_cases hb : i < B.length
  · rw [List.drop_eq_getElem_cons ha, List.drop_eq_getElem_cons hb, List.getElem?_eq_getElem ha, List.getElem?_eq_getElem hb]; rfl
  · rw [List.drop_eq_getElem_cons ha, List.drop_eq_nil_of_le (show B.length ≤ i by omega), List.getElem?_eq_getElem ha, List.getElem?_eq_none (show B.length ≤ i by omega)]; rfl
  · rw [List.drop_eq_getElem_cons hb, List.drop_eq_nil_of_le (show A.length ≤ i by omega), List.getElem?_eq_getElem hb, List.getElem?_eq_none (show A.length ≤ i by omega)]; rfl
  · rw [List.drop_eq_nil_of_le (show A.length ≤ i by omega), List.drop_eq_nil_of_le (show B.length ≤ i by omega), List.getElem?_eq_none (show A.length ≤ i by omega), List.getElem?_eq_none (show B.length ≤ i by omega)]; rfl
theorem lcp_le (A B : List Int) : lcp A B ≤ A.length ∧ lcp A B ≤ B.length := by
  induction A generalizing B with
  | nil => simp [lcp]
  | cons x A ih =>
    cases B with
    | nil => simp [lcp]
    | cons y B =>
      have := ih B
      simp only [lcp]
      split <;> simp <;> omega
theorem atL_drop (xs : List Int) (p i : Nat) : atL xs ((p : Int) + i) = ((xs.drop p)[i]?).getD (-1) := by
  unfold atL
  rw [List.getElem?_drop]
  by_cases c : p + i < xs.length
  · rw [if_pos (by omega), List.getElem?_eq_getElem c, show ((p : Int) + i).toNat = p + i by omega, getD_of c]; rfl
  · rw [if_neg (by omega), List.getElem?_eq_none (by omega)]; rfl
theorem bd.drop {xs : List Int} (h : bd xs) {p i : Nat} {x : Int} (hx : (xs.drop p)[i]? = some x) : 0 ≤ x ∧ x < 256 := h x (List.mem_of_mem_drop (List.mem_of_getElem? hx))
theorem sh_loop {n : Nat} {M : mm_M} {a b : Nat} {xs ys : List Int} (h : Sg M a xs) (g : Sg M b ys) {p q : Nat} (hp : p ≤ 50) (hq : q ≤ 50) : ∀ (k i : Nat), i ≤ 20 → 20 < i + k → pX5_shared_l3 n k M a (iI p) b (iI q) (iI i) = some (iI ((i + lcp ((xs.drop p).drop i) ((ys.drop q).drop i) : Nat) : Int), M) := by
  intro k
  induction k with
  | zero => intro j h1 h2; omega
  | succ k ih =>
    intro i hi hk
    show pX5_shared_l3b n (pX5_shared_l3 n k) M a (iI p) b (iI q) (iI i) = _
    rw [lcp_drop]
    have s1 : sm ((p : Int) + i) := sm_of (by omega) (by omega)
    have s2 : sm ((q : Int) + i) := sm_of (by omega) (by omega)
    have l1 := h.1
    by_cases c : (20 : Int) ≤ i
    · have e : (xs.drop p)[i]? = none := List.getElem?_eq_none (by simp; omega)
      simp (disch := (first | assumption | (refine sm_of ?_ ?_ <;> omega) | fail)) only [iI_add, iI_sub, iI_mul, iI_neg, iI_lt, iI_le, iI_eq, b1_s, b2_s, ↓reduceIte, L0, L1, L2, L3, L4, L5, L6, L7, L8, L9, L10, L12, L20, L22, L24, L26, L27, L28, L32, L40, L60, L73, L95, L97, L222, L240, L441, L442, L622, Lm1, Lmh, pX5_shared_l3b, c, e]
      simp
    · simp (disch := (first | assumption | (refine sm_of ?_ ?_ <;> omega) | fail)) only [iI_add, iI_sub, iI_mul, iI_neg, iI_lt, iI_le, iI_eq, b1_s, b2_s, ↓reduceIte, L0, L1, L2, L3, L4, L5, L6, L7, L8, L9, L10, L12, L20, L22, L24, L26, L27, L28, L32, L40, L60, L73, L95, L97, L222, L240, L441, L442, L622, Lm1, Lmh, pX5_shared_l3b, c, sg_at h s1, sg_at g s2, atL_drop]
      cases eA : (xs.drop p)[i]? with
      | none => simp (disch := (first | assumption | (refine sm_of ?_ ?_ <;> omega) | fail)) only [iI_add, iI_sub, iI_mul, iI_neg, iI_lt, iI_le, iI_eq, b1_s, b2_s, ↓reduceIte, L0, L1, L2, L3, L4, L5, L6, L7, L8, L9, L10, L12, L20, L22, L24, L26, L27, L28, L32, L40, L60, L73, L95, L97, L222, L240, L441, L442, L622, Lm1, Lmh, Option.getD_none]; simp
      | some x =>
        have bx := h.2.1.drop eA
        cases eB : (ys.drop q)[i]? with
        | none =>
          simp (disch := (first | assumption | (refine sm_of ?_ ?_ <;> omega) | fail)) only [iI_add, iI_sub, iI_mul, iI_neg, iI_lt, iI_le, iI_eq, b1_s, b2_s, ↓reduceIte, L0, L1, L2, L3, L4, L5, L6, L7, L8, L9, L10, L12, L20, L22, L24, L26, L27, L28, L32, L40, L60, L73, L95, L97, L222, L240, L441, L442, L622, Lm1, Lmh, Option.getD_none, Option.getD_some, show ¬ x = -1 by omega]
          simp
        | some y =>
          have by' := g.2.1.drop eB
          simp (disch := (first | assumption | (refine sm_of ?_ ?_ <;> omega) | fail)) only [iI_add, iI_sub, iI_mul, iI_neg, iI_lt, iI_le, iI_eq, b1_s, b2_s, ↓reduceIte, L0, L1, L2, L3, L4, L5, L6, L7, L8, L9, L10, L12, L20, L22, L24, L26, L27, L28, L32, L40, L60, L73, L95, L97, L222, L240, L441, L442, L622, Lm1, Lmh, Option.getD_some, show ¬ x = -1 by omega]
          by_cases d : x = y
          · rw [if_pos d, if_pos d, show ((i : Int) + 1) = ((i + 1 : Nat) : Int) by omega, ih (i + 1) (by omega) (by omega)]
            congr 3
            omega
          · rw [if_neg d, if_neg d]; simp
theorem sg_shared {n : Nat} (hn : 60 ≤ n) {M : mm_M} {a b : Nat} {xs ys : List Int} (h : Sg M a xs) (g : Sg M b ys) {p q : Nat} (hp : p ≤ 50) (hq : q ≤ 50) : pX5_shared n M a (iI p) b (iI q) = some (iI (lcp (xs.drop p) (ys.drop q)), M) := by
  have h3 := h.2.2.1
  simp only [pX5_shared, v_at h3]
  have := sh_loop (n := n) h g hp hq n 0 (by omega) (by omega)
  rw [List.drop_zero, List.drop_zero, Nat.zero_add] at this
  exact this
