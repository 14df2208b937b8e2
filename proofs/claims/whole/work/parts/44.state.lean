/-! the journal -/
abbrev kG : Type := Int × Int × Int
def jsl (w : Int) (i : Nat) : Nat := ((w - 1 - i) % 60).toNat
def Jr (M : mm_M) (a : Nat) (B : Int) (lg : List kG) : Prop := ∃ (w : Int) (f g h : Nat → Int32), 0 ≤ w ∧ w ≤ B ∧ B ≤ 100000000 ∧ (lg.length : Int) = min 60 w ∧ M.2 a = some (mm_ob 1 [.ref (a + 1), .ref (a + 2), .ref (a + 3), .int (iI w)]) ∧ M.2 (a + 1) = some (mm_ai 60 f) ∧ M.2 (a + 2) = some (mm_ai 60 g) ∧ M.2 (a + 3) = some (mm_ai 60 h) ∧
  ∀ i, i < lg.length → f (jsl w i) = iI (lg.getD i (0, 0, 0)).1 ∧ g (jsl w i) = iI (lg.getD i (0, 0, 0)).2.1 ∧ h (jsl w i) = iI (lg.getD i (0, 0, 0)).2.2
theorem Jr.fr {M M' : mm_M} {a b k : Nat} {B : Int} {lg : List kG} (j : Jr M a B lg) (hf : fr M M' b k) (hd : a + 4 ≤ b ∨ b + k ≤ a) : Jr M' a B lg := by
  obtain ⟨w, f, g, h, h1, h2, h3, h4, h5, h6, h7, h8, h9⟩ := j
  exact ⟨w, f, g, h, h1, h2, h3, h4, hf.at h5 (by omega), hf.at h6 (by omega), hf.at h7 (by omega), hf.at h8 (by omega), h9⟩
theorem Jr.mono {M : mm_M} {a : Nat} {B B' : Int} {lg : List kG} (j : Jr M a B lg) (h : B ≤ B') (h' : B' ≤ 100000000) : Jr M a B' lg := by
  obtain ⟨w, f, g, k, h1, h2, h3, h4⟩ := j
  exact ⟨w, f, g, k, h1, by omega, h', h4⟩
theorem jr_copy {n : Nat} {M : mm_M} {a b : Nat} {B B' : Int} {lg lg' : List kG} (j : Jr M a B lg) (j' : Jr M b B' lg') (hd : a + 4 ≤ b ∨ b + 4 ≤ a) : ∃ M', pX1_copyFrom n M a b = some M' ∧ Jr M' a B' lg' ∧ fr M M' a 4 := by
  obtain ⟨w, f, g, h, h1, h2, h3, h4, h5, h6, h7, h8, h9⟩ := j
  obtain ⟨w', f', g', h', k1, k2, k3, k4, k5, k6, k7, k8, k9⟩ := j'
  have z : sm 0 := sm_of (by omega) (by omega)
  have z60 : sm 60 := sm_of (by omega) (by omega)
  obtain ⟨M1, e1, s1, f1⟩ := cp_ex k6 h6 (sp := 0) (dp := 0) (n := 60) (by omega) (by omega) (by omega) (by omega) (by omega) z z z60
  obtain ⟨M2, e2, s2, f2⟩ := cp_ex (f1.at k7 (by omega)) (f1.at h7 (by omega)) (sp := 0) (dp := 0) (n := 60) (by omega) (by omega) (by omega) (by omega) (by omega) z z z60
  have f12 : fr M M2 (a + 1) 2 := (f1.mono (by omega) (by omega)).trans (f2.mono (by omega) (by omega))
  obtain ⟨M3, e3, s3, f3⟩ := cp_ex (f12.at k8 (by omega)) (f12.at h8 (by omega)) (sp := 0) (dp := 0) (n := 60) (by omega) (by omega) (by omega) (by omega) (by omega) z z z60
  have f13 : fr M M3 (a + 1) 3 := (f12.mono (by omega) (by omega)).trans (f3.mono (by omega) (by omega))
  obtain ⟨M4, e4, s4, f4⟩ := pi_ex (f13.at h5 (by omega)) 3 (iI w')
  refine ⟨M4, ?_, ⟨w', _, _, _, k1, k2, k3, k4, s4, f4.at (f3.at (f2.at s1 (by omega)) (by omega)) (by omega), f4.at (f3.at s2 (by omega)) (by omega), f4.at s3 (by omega), ?_⟩, (f13.mono (by omega) (by omega)).trans (f4.mono (by omega) (by omega))⟩
  · simp (disch := (first | assumption | (refine sm_of ?_ ?_ <;> omega) | fail)) only [iI_add, iI_sub, iI_mul, iI_neg, iI_lt, iI_le, iI_eq, b1_s, b2_s, ↓reduceIte, L0, L1, L2, L3, L4, L5, L6, L7, L8, L9, L10, L12, L20, L22, L24, L26, L27, L28, L32, L40, L60, L73, L95, L97, L222, L240, L441, L442, L622, Lm1, Lmh, pX1_copyFrom, v_at h5, gr_at k5 0 rfl, gr_at h5 0 rfl, e1, gr_at (f1.at k5 (by omega)) 1 rfl, gr_at (f1.at h5 (by omega)) 1 rfl, e2, gr_at (f12.at k5 (by omega)) 2 rfl, gr_at (f12.at h5 (by omega)) 2 rfl, e3, gi_at (f13.at k5 (by omega)) 3 rfl, e4]
  · intro i hi
    have := k9 i hi
    have hl : jsl w' i < 60 := by unfold jsl; omega
    simp only [va_cpy]
    simp [hl]
    exact this
theorem jr_size {n : Nat} {M : mm_M} {a : Nat} {B : Int} {lg : List kG} (j : Jr M a B lg) : pX1_size n M a = some (iI lg.length, M) := by
  obtain ⟨w, f, g, h, h1, h2, h3, h4, h5, -⟩ := j
  simp (disch := (first | assumption | (refine sm_of ?_ ?_ <;> omega) | fail)) only [iI_add, iI_sub, iI_mul, iI_neg, iI_lt, iI_le, iI_eq, b1_s, b2_s, ↓reduceIte, L0, L1, L2, L3, L4, L5, L6, L7, L8, L9, L10, L12, L20, L22, L24, L26, L27, L28, L32, L40, L60, L73, L95, L97, L222, L240, L441, L442, L622, Lm1, Lmh, pX1_size, v_at h5, gi_at h5 3 rfl, mm_min]
  congr 2
  by_cases c : w < 60
  · rw [if_pos c]; congr 1; omega
  · rw [if_neg c]; congr 1; omega
theorem jr_add {n : Nat} {M : mm_M} {a : Nat} {B : Int} {lg : List kG} (j : Jr M a B lg) (hB : B + 1 ≤ 100000000) {x y z : Int} : ∃ M', pX1_add n M a (iI x) (iI y) (iI z) = some M' ∧ Jr M' a (B + 1) (((x, y, z) :: lg).take 60) ∧ fr M M' a 4 := by
  obtain ⟨w, f, g, h, h1, h2, h3, h4, h5, h6, h7, h8, h9⟩ := j
  have rw' : iI w - iI w / iI 60 * iI 60 = iI (w % 60) := iI_rem h1 (sm_of (by omega) (by omega)) (by omega) (sm_of (by omega) (by omega))
  have hm : 0 ≤ w % 60 ∧ w % 60 < 60 := by omega
  have sm' : sm (w % 60) := sm_of (by omega) (by omega)
  obtain ⟨M1, e1, s1, f1⟩ := is_ex h6 hm.1 (by omega) sm' (iI x)
  obtain ⟨M2, e2, s2, f2⟩ := is_ex (f1.at h7 (by omega)) hm.1 (by omega) sm' (iI y)
  have f12 : fr M M2 (a + 1) 2 := (f1.mono (by omega) (by omega)).trans (f2.mono (by omega) (by omega))
  obtain ⟨M3, e3, s3, f3⟩ := is_ex (f12.at h8 (by omega)) hm.1 (by omega) sm' (iI z)
  have f13 : fr M M3 (a + 1) 3 := (f12.mono (by omega) (by omega)).trans (f3.mono (by omega) (by omega))
  obtain ⟨w', wb⟩ : ∃ w' : Int, (w' = 60 ∧ w + 1 = 120) ∨ (w' = w + 1 ∧ ¬ w + 1 = 120) := by
    by_cases c : w + 1 = 120
    · exact ⟨60, .inl ⟨rfl, c⟩⟩
    · exact ⟨w + 1, .inr ⟨rfl, c⟩⟩
  obtain ⟨M4, e4, s4, f4⟩ := pi_ex (f13.at h5 (by omega)) 3 (iI w')
  refine ⟨M4, ?_, ⟨w', _, _, _, by omega, by omega, hB, ?_, s4, f4.at (f3.at (f2.at s1 (by omega)) (by omega)) (by omega), f4.at (f3.at s2 (by omega)) (by omega), f4.at s3 (by omega), ?_⟩, (f13.mono (by omega) (by omega)).trans (f4.mono (by omega) (by omega))⟩
  · have z60 : (iI 60 = iI 0) = False := by decide
    have L120 : (120 : Int32) = iI 120 := by decide
    rcases wb with ⟨q1, q2⟩ | ⟨q1, q2⟩
    · have q3 : (iI (w + 1) = iI 120) = True := by rw [q2]; exact eq_self _
      rw [q1] at e4
      simp only [pX1_add, v_at h5, gi_at h5 3 rfl, b1_s, L60, L0, L1, L120, z60, ↓reduceIte, rw', gr_at h5 0 rfl, e1, gr_at (f1.at h5 (by omega)) 1 rfl, e2, gr_at (f12.at h5 (by omega)) 2 rfl, e3, gi_at (f13.at h5 (by omega)) 3 rfl, iI_add, q3, e4]
      rw [if_neg (by decide)]
    · have q3 : (iI (w + 1) = iI 120) = False := by rw [iI_eq (sm_of (by omega) (by omega)) (sm_of (by omega) (by omega))]; exact eq_false q2
      rw [q1] at e4
      simp only [pX1_add, v_at h5, gi_at h5 3 rfl, b1_s, L60, L0, L1, L120, z60, ↓reduceIte, rw', gr_at h5 0 rfl, e1, gr_at (f1.at h5 (by omega)) 1 rfl, e2, gr_at (f12.at h5 (by omega)) 2 rfl, e3, gi_at (f13.at h5 (by omega)) 3 rfl, iI_add, q3, e4]
      rw [if_neg (by decide)]
  · simp; omega
  · intro i hi
    have hi' : i < lg.length + 1 ∧ i < 60 := by simp at hi; omega
    have ge : (((x, y, z) :: lg).take 60).getD i (0, 0, 0) = ((x, y, z) :: lg).getD i (0, 0, 0) := by
      rw [List.getD_eq_getElem?_getD, List.getElem?_take, if_pos hi'.2, List.getD_eq_getElem?_getD]
    rw [ge]
    cases i with
    | zero =>
      have e : jsl w' 0 = (w % 60).toNat := by unfold jsl; omega
      simp [e, upd]
    | succ i =>
      have e : jsl w' (i + 1) = jsl w i := by unfold jsl; omega
      have ne : ¬ jsl w i = (w % 60).toNat := by unfold jsl; omega
      have := h9 i (by omega)
      simp only [List.getD_cons_succ, e, upd, if_neg ne]
      exact this
theorem jr_entry {n : Nat} {M : mm_M} {a : Nat} {B : Int} {lg : List kG} (j : Jr M a B lg) {i what : Int} (hi : sm i) (hw : sm what) : pX1_entry n M a (iI i) (iI what) = some (iI (if 0 ≤ i ∧ i < lg.length then (if what = 0 then (lg.getD i.toNat (0, 0, 0)).1 else if what = 1 then (lg.getD i.toNat (0, 0, 0)).2.1 else if what = 2 then (lg.getD i.toNat (0, 0, 0)).2.2 else -1000000) else -1000000), M) := by
  have js := jr_size (n := n) j
  obtain ⟨w, f, g, h, h1, h2, h3, h4, h5, h6, h7, h8, h9⟩ := j
  have z60 : (iI 60 = iI 0) = False := by decide
  by_cases c1 : i < 0
  · rw [if_neg (by omega)]
    simp (disch := (first | assumption | (refine sm_of ?_ ?_ <;> omega) | fail)) only [iI_add, iI_sub, iI_mul, iI_neg, iI_lt, iI_le, iI_eq, b1_s, b2_s, ↓reduceIte, L0, L1, L2, L3, L4, L5, L6, L7, L8, L9, L10, L12, L20, L22, L24, L26, L27, L28, L32, L40, L60, L73, L95, L97, L222, L240, L441, L442, L622, Lm1, Lmh, pX1_entry, v_at h5, c1]
  · by_cases c2 : i < lg.length
    · have rw' : iI (w - 1 - i) - iI (w - 1 - i) / iI 60 * iI 60 = iI ((w - 1 - i) % 60) := iI_rem (by omega) (sm_of (by omega) (by omega)) (by omega) (sm_of (by omega) (by omega))
      have hm : 0 ≤ (w - 1 - i) % 60 ∧ (w - 1 - i) % 60 < 60 := by omega
      have sm' : sm ((w - 1 - i) % 60) := sm_of (by omega) (by omega)
      have ee := h9 i.toNat (by omega)
      have ej : jsl w i.toNat = ((w - 1 - i) % 60).toNat := by unfold jsl; rw [show ((i.toNat : Nat) : Int) = i by omega]
      rw [ej] at ee
      have a1 := ia_at h6 hm.1 (by omega) sm'
      have a2 := ia_at h7 hm.1 (by omega) sm'
      have a3 := ia_at h8 hm.1 (by omega) sm'
      rw [ee.1] at a1
      rw [ee.2.1] at a2
      rw [ee.2.2] at a3
      rw [if_pos (by omega)]
      simp (disch := (first | assumption | (refine sm_of ?_ ?_ <;> omega) | fail)) only [pX1_entry, v_at h5, L0, iI_lt, c1, ↓reduceIte, js, b2_s, c2, gi_at h5 3 rfl, b1_s, L60, z60, L1, iI_sub, rw', gr_at h5 0 rfl, gr_at h5 1 rfl, gr_at h5 2 rfl, a1, a2, a3, iI_eq, L2, Lmh]
      by_cases d0 : what = 0
      · simp [d0]
      · by_cases d1 : what = 1
        · simp [d1]
        · by_cases d2 : what = 2
          · simp [d2]
          · simp [d0, d1, d2, Lmh]
            skip
    · rw [if_neg (by omega)]
      simp (disch := (first | assumption | (refine sm_of ?_ ?_ <;> omega) | fail)) only [iI_add, iI_sub, iI_mul, iI_neg, iI_lt, iI_le, iI_eq, b1_s, b2_s, ↓reduceIte, L0, L1, L2, L3, L4, L5, L6, L7, L8, L9, L10, L12, L20, L22, L24, L26, L27, L28, L32, L40, L60, L73, L95, L97, L222, L240, L441, L442, L622, Lm1, Lmh, pX1_entry, v_at h5, c1, js, c2]
/-! the state -/
abbrev kL : Type := Int × List Int
abbrev kU : Type := List Int × Int × Bool × Int × List Int × Nat × List (Int × Int) × Int
def CuT (M : mm_M) (a : Nat) (c : kU) : Prop := Cu M a c.1 c.2.1 c.2.2.1 c.2.2.2.1 c.2.2.2.2.1 c.2.2.2.2.2.1 c.2.2.2.2.2.2.1 c.2.2.2.2.2.2.2
theorem CuT.fr {M M' : mm_M} {a b k : Nat} {c : kU} (h : CuT M a c) (hf : fr M M' b k) (hd : a + 8 ≤ b ∨ b + k ≤ a) : CuT M' a c := Cu.fr h hf hd
/-- the lines' cells: which is the i-th, what they hold -/
def Lv (M : mm_M) (a : Nat) (F : Nat → Nat) (D : Nat → kL) : Prop := (∃ f, M.2 (a + 1) = some (mm_ar 0 10 f) ∧ ∀ i, i < 10 → f i = some (a + 8 + 3 * F i)) ∧ (∀ i, i < 10 → F i < 10) ∧ (∀ i j, i < 10 → j < 10 → F i = F j → i = j) ∧ ∀ j, j < 10 → Ln M (a + 8 + 3 * j) (D j).1 (D j).2
def Cv (M : mm_M) (a : Nat) (C : Nat → kU) : Prop := (∃ f, M.2 (a + 2) = some (mm_ar 1 3 f) ∧ ∀ i, i < 3 → f i = some (a + 38 + 8 * i)) ∧ ∀ i, i < 3 → CuT M (a + 38 + 8 * i) (C i)
def Ov (M : mm_M) (a : Nat) (cnt : Nat) (giv : Int) : Prop := cnt ≤ 10 ∧ nb giv ∧ M.2 a = some (mm_ob 6 [.ref (a + 1), .int (iI cnt), .int (iI giv), .ref (a + 2), .ref (a + 3), .ref (a + 7)])
def Sv (M : mm_M) (a : Nat) (F : Nat → Nat) (D : Nat → kL) (cnt : Nat) (giv : Int) (C : Nat → kU) (B : Int) (lg : List kG) : Prop := Ov M a cnt giv ∧ Lv M a F D ∧ Cv M a C ∧ Jr M (a + 3) B lg ∧ ∃ f, M.2 (a + 7) = some (mm_ai 9 f)
theorem Lv.fr {M M' : mm_M} {a b k : Nat} {F : Nat → Nat} {D : Nat → kL} (h : Lv M a F D) (hf : fr M M' b k) (hd : a + 38 ≤ b ∨ b + k ≤ a + 1 ∨ (a + 1 < b ∧ b + k ≤ a + 8)) : Lv M' a F D := by
  obtain ⟨⟨f, h1, h2⟩, h3, h4, h5⟩ := h
  exact ⟨⟨f, hf.at h1 (by omega), h2⟩, h3, h4, fun j hj => (h5 j hj).fr hf (by omega)⟩
theorem Cv.fr {M M' : mm_M} {a b k : Nat} {C : Nat → kU} (h : Cv M a C) (hf : fr M M' b k) (hd : a + 62 ≤ b ∨ b + k ≤ a + 2 ∨ (a + 2 < b ∧ b + k ≤ a + 38)) : Cv M' a C := by
  obtain ⟨⟨f, h1, h2⟩, h5⟩ := h
  exact ⟨⟨f, hf.at h1 (by omega), h2⟩, fun j hj => (h5 j hj).fr hf (by omega)⟩
theorem Ov.fr {M M' : mm_M} {a b k : Nat} {cnt : Nat} {giv : Int} (h : Ov M a cnt giv) (hf : fr M M' b k) (hd : a < b ∨ b + k ≤ a) : Ov M' a cnt giv := ⟨h.1, h.2.1, hf.at h.2.2 (by omega)⟩
theorem Sv.fr {M M' : mm_M} {a b k : Nat} {F : Nat → Nat} {D : Nat → kL} {cnt : Nat} {giv : Int} {C : Nat → kU} {B : Int} {lg : List kG} (h : Sv M a F D cnt giv C B lg) (hf : fr M M' b k) (hd : a + 62 ≤ b ∨ b + k ≤ a) : Sv M' a F D cnt giv C B lg := by
  obtain ⟨h1, h2, h3, h4, f, h5⟩ := h
  exact ⟨h1.fr hf (by omega), h2.fr hf (by omega), h3.fr hf (by omega), h4.fr hf (by omega), f, hf.at h5 (by omega)⟩
theorem Lv.ra {M : mm_M} {a : Nat} {F : Nat → Nat} {D : Nat → kL} (h : Lv M a F D) {i : Int} (h0 : 0 ≤ i) (h1 : i < 10) : mm_ra M (a + 1) (iI i) = some (a + 8 + 3 * F i.toNat) := by
  obtain ⟨⟨f, g1, g2⟩, -⟩ := h
  rw [ra_at g1 (by omega) h0 (by omega) (sm_of (by omega) (by omega)), g2 _ (by omega)]
theorem Lv.ln {M : mm_M} {a : Nat} {F : Nat → Nat} {D : Nat → kL} (h : Lv M a F D) {i : Nat} (h1 : i < 10) : Ln M (a + 8 + 3 * F i) (D (F i)).1 (D (F i)).2 := h.2.2.2 _ (h.2.1 i h1)
theorem Cv.ra {M : mm_M} {a : Nat} {C : Nat → kU} (h : Cv M a C) {i : Int} (h0 : 0 ≤ i) (h1 : i < 3) : mm_ra M (a + 2) (iI i) = some (a + 38 + 8 * i.toNat) := by
  obtain ⟨⟨f, g1, g2⟩, -⟩ := h
  rw [ra_at g1 (by omega) h0 (by omega) (sm_of (by omega) (by omega)), g2 _ (by omega)]
theorem Cv.len {M : mm_M} {a : Nat} {C : Nat → kU} (h : Cv M a C) : mm_len M (a + 2) = some (iI 3) := by
  obtain ⟨⟨f, g1, g2⟩, -⟩ := h
  exact lenr_at g1 (by omega)
/-- a loop over the lines that copies them -/
theorem st_cpl {n : Nat} {a b : Nat} (hd : a + 62 ≤ b ∨ b + 62 ≤ a) {F F' : Nat → Nat} {D' : Nat → kL} {cnt' : Nat} {giv' : Int} (hc : cnt' ≤ 10) : ∀ (k i : Nat) (M : mm_M) (D : Nat → kL), i ≤ cnt' → cnt' < i + k → (∃ x y, Ov M a x y) → Lv M a F D → Ov M b cnt' giv' → Lv M b F' D' →
    ∃ M1 D1, pX6_copyFrom_l2 n k M a b (iI i) = pX6_copyFrom_b31 n M1 a b ∧ Lv M1 a F D1 ∧ (∀ j, i ≤ j → j < cnt' → D1 (F j) = D' (F' j)) ∧ (∀ j, j < 10 → (∀ z, i ≤ z → z < cnt' → F z ≠ j) → D1 j = D j) ∧ fr M M1 (a + 8) 30 := by
  intro k
  induction k with
  | zero => intro i M D h1 h2; omega
  | succ k ih =>
    intro i M D h1 h2 hO hL gO gL
    show ∃ M1 D1, pX6_copyFrom_l2b n (pX6_copyFrom_l2 n k) M a b (iI i) = _ ∧ _
    obtain ⟨x, y, hO⟩ := hO
    by_cases c : (cnt' : Int) ≤ i
    · refine ⟨M, D, ?_, hL, fun j h3 h4 => by omega, fun _ _ _ => rfl, fr.rfl⟩
      simp (disch := (first | assumption | (refine sm_of ?_ ?_ <;> omega) | fail)) only [iI_add, iI_sub, iI_mul, iI_neg, iI_lt, iI_le, iI_eq, b1_s, b2_s, ↓reduceIte, L0, L1, L2, L3, L4, L5, L6, L7, L8, L9, L10, L12, L20, L22, L24, L26, L27, L28, L32, L40, L60, L73, L95, L97, L222, L240, L441, L442, L622, Lm1, Lmh, pX6_copyFrom_l2b, gi_at gO.2.2 1 rfl, c]
    · obtain ⟨M1, e1, s1, f1⟩ := ln_copy (n := n) (hL.ln (i := i) (by omega)) (gL.ln (i := i) (by omega)) (by have := hL.2.1 i (by omega); have := gL.2.1 i (by omega); omega)
      have fi := hL.2.1 i (by omega)
      have L1' : Lv M1 a F (fun j => if j = F i then D' (F' i) else D j) := by
        obtain ⟨⟨f, q1, q2⟩, q3, q4, q5⟩ := hL
        refine ⟨⟨f, f1.at q1 (by omega), q2⟩, q3, q4, fun j hj => ?_⟩
        by_cases e : j = F i
        · subst e; simp only [↓reduceIte]; exact s1
        · simp only [if_neg e]; exact (q5 j hj).fr f1 (by omega)
      obtain ⟨M2, D2, e2, l2, a1, a2, f2⟩ := ih (i + 1) M1 _ (by omega) (by omega) ⟨x, y, hO.fr f1 (by omega)⟩ L1' (gO.fr f1 (by omega)) (gL.fr f1 (by omega))
      refine ⟨M2, D2, ?_, l2, ?_, ?_, (f1.mono (by omega) (by omega)).trans f2⟩
      · simp (disch := (first | assumption | (refine sm_of ?_ ?_ <;> omega) | fail)) only [iI_add, iI_sub, iI_mul, iI_neg, iI_lt, iI_le, iI_eq, b1_s, b2_s, ↓reduceIte, L0, L1, L2, L3, L4, L5, L6, L7, L8, L9, L10, L12, L20, L22, L24, L26, L27, L28, L32, L40, L60, L73, L95, L97, L222, L240, L441, L442, L622, Lm1, Lmh, pX6_copyFrom_l2b, gi_at gO.2.2 1 rfl, c, gr_at hO.2.2 0 rfl, gr_at gO.2.2 0 rfl, hL.ra (i := i) (by omega) (by omega), gL.ra (i := i) (by omega) (by omega), show ((i : Int)).toNat = i by omega, e1]
        rw [show ((i : Int) + 1) = ((i + 1 : Nat) : Int) by omega, e2]
      · intro j h3 h4
        by_cases e : j = i
        · subst e
          rw [a2 (F j) fi (fun z z1 z2 => fun q => by have := hL.2.2.1 z j (by omega) (by omega) q; omega)]
          simp
        · exact a1 j (by omega) h4
      · intro j h3 h4
        rw [a2 j h3 (fun z z1 z2 => h4 z (by omega) z2)]
        have : ¬ j = F i := fun q => h4 i (by omega) (by omega) q.symm
        simp [this]
theorem st_cpc {n : Nat} {a b : Nat} (hd : a + 62 ≤ b ∨ b + 62 ≤ a) {B B' : Int} {lg lg' : List kG} {C' : Nat → kU} : ∀ (k i : Nat) (M : mm_M) (C : Nat → kU), i ≤ 3 → 3 < i + k → (∃ x y, Ov M a x y) → (∃ x y, Ov M b x y) → Cv M a C → Cv M b C' → Jr M (a + 3) B lg → Jr M (b + 3) B' lg' →
    ∃ M1 C1, pX6_copyFrom_l49 n k M a b (iI i) = some M1 ∧ Cv M1 a C1 ∧ (∀ j, i ≤ j → j < 3 → C1 j = C' j) ∧ (∀ j, j < i → C1 j = C j) ∧ Jr M1 (a + 3) B' lg' ∧ M1.1 = M.1 ∧ ∀ q, ¬ ((a + 3 ≤ q ∧ q < a + 7) ∨ (a + 38 ≤ q ∧ q < a + 62)) → M1.2 q = M.2 q := by
  intro k
  induction k with
  | zero => intro i M D h1 h2; omega
  | succ k ih =>
    intro i M C h1 h2 hO gO hC gC hJ gJ
    show ∃ M1 C1, pX6_copyFrom_l49b n (pX6_copyFrom_l49 n k) M a b (iI i) = _ ∧ _
    obtain ⟨x, y, hO⟩ := hO
    obtain ⟨x', y', gO⟩ := gO
    by_cases c : (3 : Int) ≤ i
    · obtain ⟨M1, e1, j1, f1⟩ := jr_copy (n := n) hJ gJ (by omega)
      refine ⟨M1, C, ?_, hC.fr f1 (by omega), fun j h3 h4 => by omega, fun _ _ => rfl, j1, f1.1, fun q hq => f1.2 q (by omega)⟩
      simp (disch := (first | assumption | (refine sm_of ?_ ?_ <;> omega) | fail)) only [iI_add, iI_sub, iI_mul, iI_neg, iI_lt, iI_le, iI_eq, b1_s, b2_s, ↓reduceIte, L0, L1, L2, L3, L4, L5, L6, L7, L8, L9, L10, L12, L20, L22, L24, L26, L27, L28, L32, L40, L60, L73, L95, L97, L222, L240, L441, L442, L622, Lm1, Lmh, pX6_copyFrom_l49b, gr_at hO.2.2 3 rfl, hC.len, c, gr_at hO.2.2 4 rfl, gr_at gO.2.2 4 rfl, e1]
    · obtain ⟨M1, e1, s1, f1⟩ := cu_copy (n := n) (hC.2 i (by omega)) (gC.2 i (by omega)) (by omega)
      have C1' : Cv M1 a (fun j => if j = i then C' i else C j) := by
        obtain ⟨⟨f, q1, q2⟩, q5⟩ := hC
        refine ⟨⟨f, f1.at q1 (by omega), q2⟩, fun j hj => ?_⟩
        by_cases e : j = i
        · subst e; simp only [↓reduceIte]; exact s1
        · simp only [if_neg e]; exact (q5 j hj).fr f1 (by omega)
      obtain ⟨M2, C2, e2, c2, a1, a2, j2, m2, f2⟩ := ih (i + 1) M1 _ (by omega) (by omega) ⟨x, y, hO.fr f1 (by omega)⟩ ⟨x', y', gO.fr f1 (by omega)⟩ C1' (gC.fr f1 (by omega)) (hJ.fr f1 (by omega)) (gJ.fr f1 (by omega))
      refine ⟨M2, C2, ?_, c2, ?_, ?_, j2, m2.trans f1.1, fun q hq => (f2 q hq).trans (f1.2 q (by omega))⟩
      · simp (disch := (first | assumption | (refine sm_of ?_ ?_ <;> omega) | fail)) only [iI_add, iI_sub, iI_mul, iI_neg, iI_lt, iI_le, iI_eq, b1_s, b2_s, ↓reduceIte, L0, L1, L2, L3, L4, L5, L6, L7, L8, L9, L10, L12, L20, L22, L24, L26, L27, L28, L32, L40, L60, L73, L95, L97, L222, L240, L441, L442, L622, Lm1, Lmh, pX6_copyFrom_l49b, gr_at hO.2.2 3 rfl, hC.len, c, gr_at gO.2.2 3 rfl, hC.ra (i := i) (by omega) (by omega), gC.ra (i := i) (by omega) (by omega), show ((i : Int)).toNat = i by omega, e1]
        rw [show ((i : Int) + 1) = ((i + 1 : Nat) : Int) by omega, e2]
      · intro j h3 h4
        by_cases e : j = i
        · subst e; rw [a2 j (by omega)]; simp
        · exact a1 j (by omega) h4
      · intro j h3
        rw [a2 j (by omega)]
        simp [show ¬ j = i by omega]
theorem Sv.mono {M : mm_M} {a : Nat} {F : Nat → Nat} {D : Nat → kL} {cnt : Nat} {giv : Int} {C : Nat → kU} {B B' : Int} {lg : List kG} (h : Sv M a F D cnt giv C B lg) (h1 : B ≤ B') (h2 : B' ≤ 100000000) : Sv M a F D cnt giv C B' lg := ⟨h.1, h.2.1, h.2.2.1, h.2.2.2.1.mono h1 h2, h.2.2.2.2⟩
theorem st_copy {n : Nat} (hn : 60 ≤ n) {M : mm_M} {a b : Nat} {F F' : Nat → Nat} {D D' : Nat → kL} {cnt cnt' : Nat} {giv giv' : Int} {C C' : Nat → kU} {B B' : Int} {lg lg' : List kG} (h : Sv M a F D cnt giv C B lg) (g : Sv M b F' D' cnt' giv' C' B' lg') (hd : a + 62 ≤ b ∨ b + 62 ≤ a) : ∃ M1 D1 C1, pX6_copyFrom n M a b = some M1 ∧ Sv M1 a F D1 cnt' giv' C1 B' lg' ∧ (∀ j, j < cnt' → D1 (F j) = D' (F' j)) ∧ (∀ j, j < 3 → C1 j = C' j) ∧ fr M M1 a 62 := by
  obtain ⟨h1, h2, h3, h4, fs, h5⟩ := h
  obtain ⟨g1, g2, g3, g4, -⟩ := g
  obtain ⟨M1, D1, e1, l1, a1, -, f1⟩ := st_cpl (n := n) hd g1.1 n 0 M D (by omega) (by have := g1.1; omega) ⟨_, _, h1⟩ h2 g1 g2
  have h1' := h1.fr f1 (by omega)
  have g1' := g1.fr f1 (by omega)
  obtain ⟨M2, e2, s2, f2⟩ := pi_ex h1'.2.2 1 (iI cnt')
  have g1b := g1'.fr f2 (by omega)
  obtain ⟨M3, e3, s3, f3⟩ := pi_ex s2 2 (iI giv')
  have f23 := f2.trans f3
  have o3 : Ov M3 a cnt' giv' := ⟨g1.1, g1.2.1, s3⟩
  obtain ⟨M4, C4, e4, c4, b1, -, j4, m4, f4⟩ := st_cpc (n := n) hd n 0 M3 C (by omega) (by omega) ⟨_, _, o3⟩ ⟨_, _, g1'.fr f23 (by omega)⟩ ((h3.fr f1 (by omega)).fr f23 (by omega)) ((g3.fr f1 (by omega)).fr f23 (by omega)) ((h4.fr f1 (by omega)).fr f23 (by omega)) ((g4.fr f1 (by omega)).fr f23 (by omega))
  refine ⟨M4, D1, C4, ?_, ⟨⟨g1.1, g1.2.1, (f4 a (by omega)).trans s3⟩, ?_, c4, j4, fs, ?_⟩, fun j hj => a1 j (by omega) hj, fun j hj => b1 j (by omega) hj, m4.trans (f23.1.trans f1.1), fun q hq => ?_⟩
  · have e1 : pX6_copyFrom_l2 n n M a b (iI 0) = pX6_copyFrom_b31 n M1 a b := e1
    have e4 : pX6_copyFrom_l49 n n M3 a b (iI 0) = some M4 := e4
    simp (disch := (first | assumption | (refine sm_of ?_ ?_ <;> omega) | fail)) only [iI_add, iI_sub, iI_mul, iI_neg, iI_lt, iI_le, iI_eq, b1_s, b2_s, ↓reduceIte, L0, L1, L2, L3, L4, L5, L6, L7, L8, L9, L10, L12, L20, L22, L24, L26, L27, L28, L32, L40, L60, L73, L95, L97, L222, L240, L441, L442, L622, Lm1, Lmh, pX6_copyFrom, v_at h1.2.2, e1, pX6_copyFrom_b31, gi_at g1'.2.2 1 rfl, e2, gi_at g1b.2.2 2 rfl, e3, e4]
  · have l3 := l1.fr f23 (by omega)
    obtain ⟨⟨f, q1, q2⟩, q3, q4, q5⟩ := l3
    refine ⟨⟨f, (f4 _ (by omega)).trans q1, q2⟩, q3, q4, fun j hj => ?_⟩
    obtain ⟨z1, z2, z3, z4, z5, k, z6, z7⟩ := q5 j hj
    exact ⟨z1, (f4 _ (by omega)).trans z2, z3, z4, (f4 _ (by omega)).trans z5, k, (f4 _ (by omega)).trans z6, z7⟩
  · exact (f4 _ (by omega)).trans (f23.at (f1.at h5 (by omega)) (by omega))
  · rw [f4 q (by omega), f23.2 q (by omega), f1.2 q (by omega)]
