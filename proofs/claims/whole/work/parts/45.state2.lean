def lns (F : Nat → Nat) (D : Nat → kL) (c : Nat) : List kL := (List.range c).map (fun i => D (F i))
theorem lns_succ (F : Nat → Nat) (D : Nat → kL) (c : Nat) : lns F D (c + 1) = lns F D c ++ [D (F c)] := by simp [lns, List.range_succ]
theorem lns_len (F : Nat → Nat) (D : Nat → kL) (c : Nat) : (lns F D c).length = c := by simp [lns]
theorem lns_get {F : Nat → Nat} {D : Nat → kL} {c i : Nat} (h : i < c) : (lns F D c).getD i (0, []) = D (F i) := by
  rw [List.getD_eq_getElem?_getD, List.getElem?_eq_getElem (by rw [lns_len]; exact h)]
  simp [lns]
def allS (ls : List kL) : Nat := (ls.map (fun l => l.2.length)).sum
theorem allS_app (a b : List kL) : allS (a ++ b) = allS a + allS b := by simp [allS]
theorem allS_le {ls : List kL} (h : ∀ l ∈ ls, l.2.length ≤ 20) : allS ls ≤ 20 * ls.length := by
  induction ls with
  | nil => simp [allS]
  | cons l ls ih =>
    have h1 := h l (List.mem_cons_self)
    have h2 := ih (fun x hx => h x (List.mem_cons_of_mem _ hx))
    simp only [allS, List.map_cons, List.sum_cons, List.length_cons] at h2 ⊢
    omega
theorem Lv.len {M : mm_M} {a : Nat} {F : Nat → Nat} {D : Nat → kL} (h : Lv M a F D) {i : Nat} (hi : i < 10) : (D (F i)).2.length ≤ 20 := (h.ln hi).2.2.1
theorem Lv.all {M : mm_M} {a : Nat} {F : Nat → Nat} {D : Nat → kL} (h : Lv M a F D) {c : Nat} (hc : c ≤ 10) : ∀ l ∈ lns F D c, l.2.length ≤ 20 := by
  intro l hl
  simp only [lns, List.mem_map, List.mem_range] at hl
  obtain ⟨i, hi, rfl⟩ := hl
  exact h.len (by omega)
theorem st_all {n : Nat} (hn : 60 ≤ n) {M : mm_M} {a : Nat} {F : Nat → Nat} {D : Nat → kL} {cnt : Nat} {giv : Int} (hO : Ov M a cnt giv) (hL : Lv M a F D) : pX6_allSigns n M a = some (iI (allS (lns F D cnt)), M) := by
  have hc := hO.1
  have key : ∀ (k i : Nat), i ≤ cnt → cnt < i + k → pX6_allSigns_l4 n k M a (iI (allS (lns F D i))) (iI i) = some (iI (allS (lns F D cnt)), M) := by
    intro k
    induction k with
    | zero => intro i h1 h2; omega
    | succ k ih =>
      intro i h1 h2
      show pX6_allSigns_l4b n (pX6_allSigns_l4 n k) M a _ _ = _
      by_cases c : (cnt : Int) ≤ i
      · simp (disch := (first | assumption | (refine sm_of ?_ ?_ <;> omega) | fail)) only [iI_add, iI_sub, iI_mul, iI_neg, iI_lt, iI_le, iI_eq, b1_s, b2_s, ↓reduceIte, L0, L1, L2, L3, L4, L5, L6, L7, L8, L9, L10, L12, L20, L22, L24, L26, L27, L28, L32, L40, L60, L73, L95, L97, L222, L240, L441, L442, L622, Lm1, Lmh, pX6_allSigns_l4b, gi_at hO.2.2 1 rfl, c]
        rw [show i = cnt by omega]
      · have l := hL.ln (i := i) (by omega)
        simp (disch := (first | assumption | (refine sm_of ?_ ?_ <;> omega) | fail)) only [iI_add, iI_sub, iI_mul, iI_neg, iI_lt, iI_le, iI_eq, b1_s, b2_s, ↓reduceIte, L0, L1, L2, L3, L4, L5, L6, L7, L8, L9, L10, L12, L20, L22, L24, L26, L27, L28, L32, L40, L60, L73, L95, L97, L222, L240, L441, L442, L622, Lm1, Lmh, pX6_allSigns_l4b, gi_at hO.2.2 1 rfl, c, gr_at hO.2.2 0 rfl, hL.ra (i := i) (by omega) (by omega), show ((i : Int)).toNat = i by omega, gr_at l.2.1 0 rfl, gi_at l.2.2.2.2.1 1 rfl]
        have e : ((allS (lns F D i) : Int) + (D (F i)).2.length) = ((allS (lns F D (i + 1)) : Nat) : Int) := by
          rw [lns_succ, allS_app]; simp [allS]
        rw [e, show ((i : Int) + 1) = ((i + 1 : Nat) : Int) by omega]
        exact ih (i + 1) (by omega) (by omega)
  simp only [pX6_allSigns, v_at hO.2.2]
  exact key n 0 (by omega) (by omega)
def hitsL (ls : List kL) (w : List Int) : Nat := (ls.map (fun l => cnt l.2 w l.2.length)).sum
theorem hitsL_app (a b : List kL) (w : List Int) : hitsL (a ++ b) w = hitsL a w + hitsL b w := by simp [hitsL]
theorem hitsL_le (ls : List kL) (w : List Int) : hitsL ls w ≤ allS ls := by
  induction ls with
  | nil => simp [hitsL]
  | cons l ls ih =>
    have := cnt_le l.2 w l.2.length
    simp only [hitsL, allS, List.map_cons, List.sum_cons] at ih ⊢
    omega
theorem st_hits {n : Nat} (hn : 60 ≤ n) {M : mm_M} {a b : Nat} {F : Nat → Nat} {D : Nat → kL} {cc : Nat} {giv : Int} {w : List Int} (hO : Ov M a cc giv) (hL : Lv M a F D) (g : Sg M b w) : pX6_hits n M a b = some (iI (hitsL (lns F D cc) w), M) := by
  have hc := hO.1
  have key : ∀ (k i : Nat), i ≤ cc → cc < i + k → pX6_hits_l4 n k M a b (iI (hitsL (lns F D i) w)) (iI i) = some (iI (hitsL (lns F D cc) w), M) := by
    intro k
    induction k with
    | zero => intro i h1 h2; omega
    | succ k ih =>
      intro i h1 h2
      show pX6_hits_l4b n (pX6_hits_l4 n k) M a b _ _ = _
      by_cases c : (cc : Int) ≤ i
      · simp (disch := (first | assumption | (refine sm_of ?_ ?_ <;> omega) | fail)) only [iI_add, iI_sub, iI_mul, iI_neg, iI_lt, iI_le, iI_eq, b1_s, b2_s, ↓reduceIte, L0, L1, L2, L3, L4, L5, L6, L7, L8, L9, L10, L12, L20, L22, L24, L26, L27, L28, L32, L40, L60, L73, L95, L97, L222, L240, L441, L442, L622, Lm1, Lmh, pX6_hits_l4b, gi_at hO.2.2 1 rfl, c]
        rw [show i = cc by omega]
      · have l := hL.ln (i := i) (by omega)
        simp (disch := (first | assumption | (refine sm_of ?_ ?_ <;> omega) | fail)) only [iI_add, iI_sub, iI_mul, iI_neg, iI_lt, iI_le, iI_eq, b1_s, b2_s, ↓reduceIte, L0, L1, L2, L3, L4, L5, L6, L7, L8, L9, L10, L12, L20, L22, L24, L26, L27, L28, L32, L40, L60, L73, L95, L97, L222, L240, L441, L442, L622, Lm1, Lmh, pX6_hits_l4b, gi_at hO.2.2 1 rfl, c, gr_at hO.2.2 0 rfl, hL.ra (i := i) (by omega) (by omega), show ((i : Int)).toNat = i by omega, gr_at l.2.1 0 rfl, sg_hits hn l.2.2 g]
        have e : ((hitsL (lns F D i) w : Int) + (cnt (D (F i)).2 w (D (F i)).2.length)) = ((hitsL (lns F D (i + 1)) w : Nat) : Int) := by
          rw [lns_succ, hitsL_app]; simp [hitsL]
        rw [e, show ((i : Int) + 1) = ((i + 1 : Nat) : Int) by omega]
        exact ih (i + 1) (by omega) (by omega)
  simp only [pX6_hits, v_at hO.2.2]
  exact key n 0 (by omega) (by omega)
def ahU (c : kU) (l : kL) (p : Nat) : Bool := ahd c.1 c.2.2.1 c.2.2.2.1 c.2.2.2.2.1 c.2.2.2.2.2.1 l.1 l.2 p
def cntA (c : kU) (l : kL) (p : Nat) : Nat := ((List.range p).filter (fun q => ahU c l q)).length
theorem cntA_succ (c : kU) (l : kL) (p : Nat) : cntA c l (p + 1) = cntA c l p + if ahU c l p = true then 1 else 0 := by
  unfold cntA
  rw [List.range_succ, List.filter_append, List.length_append]
  by_cases d : ahU c l p = true <;> simp [d]
theorem cntA_le (c : kU) (l : kL) (p : Nat) : cntA c l p ≤ p := by
  unfold cntA
  exact Nat.le_trans (List.length_filter_le _ _) (by simp)
def leftL (ls : List kL) (c : kU) : Nat := (ls.map (fun l => cntA c l l.2.length)).sum
theorem leftL_app (a b : List kL) (c : kU) : leftL (a ++ b) c = leftL a c + leftL b c := by simp [leftL]
theorem leftL_le (ls : List kL) (c : kU) : leftL ls c ≤ allS ls := by
  induction ls with
  | nil => simp [leftL]
  | cons l ls ih =>
    have := cntA_le c l l.2.length
    simp only [leftL, allS, List.map_cons, List.sum_cons] at ih ⊢
    omega
theorem st_left {n : Nat} (hn : 60 ≤ n) {M : mm_M} {a b : Nat} {F : Nat → Nat} {D : Nat → kL} {cc : Nat} {giv : Int} {u : kU} (hO : Ov M a cc giv) (hL : Lv M a F D) (g : CuT M b u) : pX6_left n M a b = some (iI (leftL (lns F D cc) u), M) := by
  have hc := hO.1
  have inner : ∀ (K : mm_M → Nat → Nat → Int32 → Int32 → Option (Int32 × mm_M)) (i : Nat) (z : Nat), i < cc → z ≤ 1000 → ∀ (k p : Nat), p ≤ (D (F i)).2.length → (D (F i)).2.length < p + k → pX6_left_l15 n K k M a b (iI ((z + cntA u (D (F i)) p : Nat) : Int)) (iI i) (iI p) = K M a b (iI ((z + cntA u (D (F i)) (D (F i)).2.length : Nat) : Int)) (iI ((i + 1 : Nat) : Int)) := by
    intro K i z hi hz k
    induction k with
    | zero => intro p h1 h2; omega
    | succ k ih =>
      intro p h1 h2
      show pX6_left_l15b n K (pX6_left_l15 n K k) M a b _ _ _ = _
      have l := hL.ln (i := i) (by omega)
      have len := hL.len (i := i) (by omega)
      have ra := hL.ra (i := i) (by omega) (by omega)
      rw [show ((i : Int)).toNat = i by omega] at ra
      by_cases c : ((D (F i)).2.length : Int) ≤ p
      · simp (disch := (first | assumption | (refine sm_of ?_ ?_ <;> omega) | fail)) only [iI_add, iI_sub, iI_mul, iI_neg, iI_lt, iI_le, iI_eq, b1_s, b2_s, ↓reduceIte, L0, L1, L2, L3, L4, L5, L6, L7, L8, L9, L10, L12, L20, L22, L24, L26, L27, L28, L32, L40, L60, L73, L95, L97, L222, L240, L441, L442, L622, Lm1, Lmh, pX6_left_l15b, gr_at hO.2.2 0 rfl, ra, gr_at l.2.1 0 rfl, gi_at l.2.2.2.2.1 1 rfl, c]
        rw [show p = (D (F i)).2.length by omega, show ((i : Int) + 1) = ((i + 1 : Nat) : Int) by omega]
      · have ca := cu_ahead hn g l (p := p) (by omega)
        have cs := cntA_succ u (D (F i)) p
        simp (disch := (first | assumption | (refine sm_of ?_ ?_ <;> omega) | fail)) only [iI_add, iI_sub, iI_mul, iI_neg, iI_lt, iI_le, iI_eq, b1_s, b2_s, ↓reduceIte, L0, L1, L2, L3, L4, L5, L6, L7, L8, L9, L10, L12, L20, L22, L24, L26, L27, L28, L32, L40, L60, L73, L95, L97, L222, L240, L441, L442, L622, Lm1, Lmh, pX6_left_l15b, gr_at hO.2.2 0 rfl, ra, gr_at l.2.1 0 rfl, gi_at l.2.2.2.2.1 1 rfl, c, ca, bI_0]
        rw [show ahd u.1 u.2.2.1 u.2.2.2.1 u.2.2.2.2.1 u.2.2.2.2.2.1 (D (F i)).1 (D (F i)).2 p = ahU u (D (F i)) p from rfl, show ((p : Int) + 1) = ((p + 1 : Nat) : Int) by omega]
        cases d : ahU u (D (F i)) p
        · rw [if_pos rfl]
          rw [d] at cs
          simp at cs
          rw [← cs]
          exact ih (p + 1) (by omega) (by omega)
        · rw [if_neg (by decide)]
          rw [d] at cs
          simp at cs
          rw [show (((z + cntA u (D (F i)) p : Nat) : Int) + 1) = ((z + cntA u (D (F i)) (p + 1) : Nat) : Int) by omega]
          exact ih (p + 1) (by omega) (by omega)
  have key : ∀ (k i : Nat), i ≤ cc → cc < i + k → pX6_left_l4 n k M a b (iI (leftL (lns F D i) u)) (iI i) = some (iI (leftL (lns F D cc) u), M) := by
    intro k
    induction k with
    | zero => intro i h1 h2; omega
    | succ k ih =>
      intro i h1 h2
      show pX6_left_l4b n (pX6_left_l4 n k) M a b _ _ = _
      by_cases c : (cc : Int) ≤ i
      · simp (disch := (first | assumption | (refine sm_of ?_ ?_ <;> omega) | fail)) only [iI_add, iI_sub, iI_mul, iI_neg, iI_lt, iI_le, iI_eq, b1_s, b2_s, ↓reduceIte, L0, L1, L2, L3, L4, L5, L6, L7, L8, L9, L10, L12, L20, L22, L24, L26, L27, L28, L32, L40, L60, L73, L95, L97, L222, L240, L441, L442, L622, Lm1, Lmh, pX6_left_l4b, gi_at hO.2.2 1 rfl, c]
        rw [show i = cc by omega]
      · have b1 := leftL_le (lns F D i) u
        have b2 := allS_le (hL.all (c := i) (by omega))
        rw [lns_len] at b2
        have len := hL.len (i := i) (by omega)
        simp (disch := (first | assumption | (refine sm_of ?_ ?_ <;> omega) | fail)) only [iI_add, iI_sub, iI_mul, iI_neg, iI_lt, iI_le, iI_eq, b1_s, b2_s, ↓reduceIte, L0, L1, L2, L3, L4, L5, L6, L7, L8, L9, L10, L12, L20, L22, L24, L26, L27, L28, L32, L40, L60, L73, L95, L97, L222, L240, L441, L442, L622, Lm1, Lmh, pX6_left_l4b, gi_at hO.2.2 1 rfl, c]
        have := inner (pX6_left_l4 n k) i (leftL (lns F D i) u) (by omega) (by omega) n 0 (by omega) (by omega)
        simp only [cntA, List.range_zero, List.filter_nil, List.length_nil, Nat.add_zero] at this
        refine Eq.trans this ?_
        have e : leftL (lns F D i) u + ((List.range (D (F i)).2.length).filter (fun q => ahU u (D (F i)) q)).length = leftL (lns F D (i + 1)) u := by
          rw [lns_succ, leftL_app]; simp [leftL, cntA]
        rw [e]
        exact ih (i + 1) (by omega) (by omega)
  simp only [pX6_left, v_at hO.2.2]
  exact key n 0 (by omega) (by omega)
def isLn (ls : List kL) (k : Int) : Bool := decide (0 ≤ k ∧ k < ls.length)
theorem st_hasL {n : Nat} {M : mm_M} {a : Nat} {cc : Nat} {giv : Int} (hO : Ov M a cc giv) {k : Int} (hk : sm k) : pX6_hasLine n M a (iI k) = some (bI (decide (0 ≤ k ∧ k < cc)), M) := by
  have hc := hO.1
  by_cases c1 : k < 0
  · simp (disch := (first | assumption | (refine sm_of ?_ ?_ <;> omega) | fail)) only [iI_add, iI_sub, iI_mul, iI_neg, iI_lt, iI_le, iI_eq, b1_s, b2_s, ↓reduceIte, L0, L1, L2, L3, L4, L5, L6, L7, L8, L9, L10, L12, L20, L22, L24, L26, L27, L28, L32, L40, L60, L73, L95, L97, L222, L240, L441, L442, L622, Lm1, Lmh, pX6_hasLine, v_at hO.2.2, c1]
    simp [bI, show ¬ 0 ≤ k by omega]
  · by_cases c2 : (cc : Int) ≤ k
    · simp (disch := (first | assumption | (refine sm_of ?_ ?_ <;> omega) | fail)) only [iI_add, iI_sub, iI_mul, iI_neg, iI_lt, iI_le, iI_eq, b1_s, b2_s, ↓reduceIte, L0, L1, L2, L3, L4, L5, L6, L7, L8, L9, L10, L12, L20, L22, L24, L26, L27, L28, L32, L40, L60, L73, L95, L97, L222, L240, L441, L442, L622, Lm1, Lmh, pX6_hasLine, v_at hO.2.2, c1, gi_at hO.2.2 1 rfl, c2]
      simp [bI, show ¬ k < cc by omega]
    · simp (disch := (first | assumption | (refine sm_of ?_ ?_ <;> omega) | fail)) only [iI_add, iI_sub, iI_mul, iI_neg, iI_lt, iI_le, iI_eq, b1_s, b2_s, ↓reduceIte, L0, L1, L2, L3, L4, L5, L6, L7, L8, L9, L10, L12, L20, L22, L24, L26, L27, L28, L32, L40, L60, L73, L95, L97, L222, L240, L441, L442, L622, Lm1, Lmh, pX6_hasLine, v_at hO.2.2, c1, gi_at hO.2.2 1 rfl, c2]
      simp [bI, show k < cc by omega, show 0 ≤ k by omega]
def isCu (C : Nat → kU) (i : Int) : Bool := decide (0 ≤ i ∧ i < 3 ∧ 0 < (C i.toNat).2.1)
theorem st_hasC {n : Nat} {M : mm_M} {a : Nat} {cc : Nat} {giv : Int} {C : Nat → kU} (hO : Ov M a cc giv) (hC : Cv M a C) {k : Int} (hk : sm k) : pX6_hasCursor n M a (iI k) = some (bI (isCu C k), M) := by
  unfold isCu
  by_cases c1 : k < 0
  · simp (disch := (first | assumption | (refine sm_of ?_ ?_ <;> omega) | fail)) only [iI_add, iI_sub, iI_mul, iI_neg, iI_lt, iI_le, iI_eq, b1_s, b2_s, ↓reduceIte, L0, L1, L2, L3, L4, L5, L6, L7, L8, L9, L10, L12, L20, L22, L24, L26, L27, L28, L32, L40, L60, L73, L95, L97, L222, L240, L441, L442, L622, Lm1, Lmh, pX6_hasCursor, v_at hO.2.2, c1]
    simp [bI, show ¬ 0 ≤ k by omega]
  · by_cases c2 : 3 ≤ k
    · simp (disch := (first | assumption | (refine sm_of ?_ ?_ <;> omega) | fail)) only [iI_add, iI_sub, iI_mul, iI_neg, iI_lt, iI_le, iI_eq, b1_s, b2_s, ↓reduceIte, L0, L1, L2, L3, L4, L5, L6, L7, L8, L9, L10, L12, L20, L22, L24, L26, L27, L28, L32, L40, L60, L73, L95, L97, L222, L240, L441, L442, L622, Lm1, Lmh, pX6_hasCursor, v_at hO.2.2, c1, gr_at hO.2.2 3 rfl, hC.len, c2]
      simp [bI, show ¬ k < 3 by omega]
    · have q := hC.2 k.toNat (by omega)
      have q1 := q.1
      unfold nb at q1
      simp (disch := (first | assumption | (refine sm_of ?_ ?_ <;> omega) | fail)) only [iI_add, iI_sub, iI_mul, iI_neg, iI_lt, iI_le, iI_eq, b1_s, b2_s, ↓reduceIte, L0, L1, L2, L3, L4, L5, L6, L7, L8, L9, L10, L12, L20, L22, L24, L26, L27, L28, L32, L40, L60, L73, L95, L97, L222, L240, L441, L442, L622, Lm1, Lmh, pX6_hasCursor, v_at hO.2.2, c1, gr_at hO.2.2 3 rfl, hC.len, c2, hC.ra (i := k) (by omega) (by omega), gi_at q.2.2.2.2.1 1 rfl]
      by_cases c3 : (C k.toNat).2.1 ≤ 0
      · simp [bI, c3, show ¬ 0 < (C k.toNat).2.1 by omega]
      · simp [bI, c3, show 0 < (C k.toNat).2.1 by omega, show k < 3 by omega, show 0 ≤ k by omega]
