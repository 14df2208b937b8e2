theorem Lv.cg {M : mm_M} {a : Nat} {F : Nat → Nat} {D D' : Nat → kL} (h : Lv M a F D) (e : ∀ j, j < 10 → D' j = D j) : Lv M a F D' := ⟨h.1, h.2.1, h.2.2.1, fun j hj => by rw [e j hj]; exact h.2.2.2 j hj⟩
/-- one line's signs anew -/
theorem lv_sg {M M' : mm_M} {a : Nat} {F : Nat → Nat} {D : Nat → kL} (h : Lv M a F D) {j : Nat} (hj : j < 10) {xs : List Int} (g : Sg M' (a + 8 + 3 * j + 1) xs) (f : fr M M' (a + 8 + 3 * j + 1) 2) : Lv M' a F (fun i => if i = j then ((D i).1, xs) else D i) := by
  obtain ⟨⟨u, g1, g2⟩, g3, g4, g5⟩ := h
  refine ⟨⟨u, f.at g1 (by omega), g2⟩, g3, g4, fun i hi => ?_⟩
  by_cases c : i = j
  · subst c
    simp only [↓reduceIte]
    exact ⟨(g5 i hi).1, f.at (g5 i hi).2.1 (by omega), g⟩
  · simp only [if_neg c]
    exact (g5 i hi).fr f (by omega)
theorem sg_cut {M : mm_M} {a : Nat} {xs : List Int} (h : Sg M a xs) {p : Nat} (hp : p ≤ xs.length) : ∃ M', mm_pi 5 1 M a (iI p) = some M' ∧ Sg M' a (xs.take p) ∧ fr M M' a 1 := by
  obtain ⟨h1, h2, h3, f, h4, h5⟩ := h
  obtain ⟨M1, e1, s1, f1⟩ := pi_ex h3 1 (iI p)
  refine ⟨M1, e1, ⟨by simp; omega, fun x hx => h2 x (List.mem_of_mem_take hx), ?_, f, f1.at h4 (by omega), fun i hi => ?_⟩, f1⟩
  · rw [s1]; simp [Nat.min_eq_left hp]
  · simp at hi
    rw [h5 i (by omega), List.getD_eq_getElem?_getD, List.getD_eq_getElem?_getD, List.getElem?_take, if_pos (by omega)]
/-- signs of one row from a place on, put behind another row -/
theorem sg_addl {n : Nat} {M : mm_M} {a : Nat} {xs : List Int} (h : Sg M a xs) {p : Nat} (hp : p < xs.length) {b : Nat} {ys : List Int} (g : Sg M b ys) (hl : ys.length < 20) : ∃ M', pX5_at n M a (iI p) = some (iI (xs.getD p 0), M) ∧ pX5_add n M b (iI (xs.getD p 0)) = some M' ∧ Sg M' b (ys ++ [xs.getD p 0]) ∧ fr M M' b 2 := by
  have l := h.1
  obtain ⟨M1, e1, s1, f1⟩ := sg_add (n := n) g hl (h.2.1.get hp)
  refine ⟨M1, ?_, e1, s1, f1⟩
  rw [sg_at h (sm_of (by omega) (by omega))]
  unfold atL
  rw [if_pos (by omega)]
  simp
theorem drop_app {xs : List Int} {i : Nat} (h : i < xs.length) (ys : List Int) : (ys ++ [xs.getD i 0]) ++ xs.drop (i + 1) = ys ++ xs.drop i := by
  rw [List.drop_eq_getElem_cons h, getD_of h]; simp
theorem st_cut {n : Nat} (hn : 60 ≤ n) {M : mm_M} {a : Nat} {F : Nat → Nat} {D : Nat → kL} {cc : Nat} {giv : Int} (hO : Ov M a cc giv) (hL : Lv M a F D) {k p : Nat} (hk : k < cc) (hc : cc < 10) (hg : nb (giv + 1)) (hp : p ≤ (D (F k)).2.length) : ∃ M1 D1, pX6_cut n M a (iI k) (iI p) = some (iI giv, M1) ∧ Ov M1 a (cc + 1) (giv + 1) ∧ Lv M1 a (opF F (k + 1) cc) D1 ∧ (∀ j, j < 10 → D1 j = if j = F k then ((D j).1, (D j).2.take p) else if j = F cc then (giv, (D (F k)).2.drop p) else D j) ∧ kp M M1 a := by
  have fk := hL.2.1 k (by omega)
  have fc := hL.2.1 cc hc
  have hne : F k ≠ F cc := fun q => by have := hL.2.2.1 k cc (by omega) hc q; omega
  have lk := hL.ln (i := k) (by omega)
  have len := lk.2.2.1
  have ra := hL.ra (i := k) (by omega) (by omega)
  rw [show ((k : Int)).toNat = k by omega] at ra
  obtain ⟨M1, e1, o1, l1, k1⟩ := st_open hn hO hL (k := k + 1) (by omega) hc hg
  have c1 := l1.2.2.2 (F cc) fc
  simp only [↓reduceIte] at c1
  have d1 := l1.2.2.2 (F k) fk
  simp only [if_neg hne] at d1
  obtain ⟨M2, e2, s2, f2⟩ := pi_ex c1.2.2.2.2.1 1 (iI 0)
  have g2 := sg_zero c1.2.2 s2 f2
  have l2 := lv_sg l1 fc g2 (f2.mono (by omega) (by omega))
  have loop : ∀ (q i : Nat) (M : mm_M) (ys : List Int), Sg M (a + 8 + 3 * F k + 1) (D (F k)).2 → Sg M (a + 8 + 3 * F cc + 1) ys → M.2 (a + 8 + 3 * F cc) = some (mm_ob 2 [.ref (a + 8 + 3 * F cc + 1), .int (iI giv)]) → p ≤ i → i ≤ (D (F k)).2.length → ys.length + p = i → (D (F k)).2.length < i + q → ∃ M3 M4, pX6_cut_l31 n q M (iI p) (a + 8 + 3 * F k + 1) (a + 8 + 3 * F cc) (iI i) = some (iI giv, M4) ∧ Sg M3 (a + 8 + 3 * F cc + 1) (ys ++ (D (F k)).2.drop i) ∧ fr M M3 (a + 8 + 3 * F cc + 1) 2 ∧ Sg M4 (a + 8 + 3 * F k + 1) ((D (F k)).2.take p) ∧ fr M3 M4 (a + 8 + 3 * F k + 1) 1 := by
    intro q
    induction q with
    | zero => intro i M ys _ _ _ h1 h2 h3 h4; omega
    | succ q ih =>
      intro i M ys gk gy hl h1 h2 h3 h4
      show ∃ M3 M4, pX6_cut_l31b n (pX6_cut_l31 n q) M (iI p) _ _ (iI i) = _ ∧ _
      by_cases c : ((D (F k)).2.length : Int) ≤ i
      · obtain ⟨M4, e4, s4, f4⟩ := sg_cut gk hp
        refine ⟨M, M4, ?_, by rw [List.drop_eq_nil_of_le (by omega)]; simpa using gy, fr.rfl, s4, f4⟩
        simp (disch := (first | assumption | (refine sm_of ?_ ?_ <;> omega) | fail)) only [iI_add, iI_sub, iI_mul, iI_neg, iI_lt, iI_le, iI_eq, b1_s, b2_s, ↓reduceIte, L0, L1, L2, L3, L4, L5, L6, L7, L8, L9, L10, L12, L20, L22, L24, L26, L27, L28, L32, L40, L60, L73, L95, L97, L222, L240, L441, L442, L622, Lm1, Lmh, pX6_cut_l31b, gi_at gk.2.2.1 1 rfl, c, e4, gi_at (f4.at hl (by omega)) 1 rfl]
      · obtain ⟨M5, e5, e6, s6, f6⟩ := sg_addl (n := n) gk (p := i) (by omega) gy (by omega)
        obtain ⟨M3, M4, e7, s7, f7, s8, f8⟩ := ih (i + 1) M5 _ (gk.fr f6 (by omega)) s6 (f6.at hl (by omega)) (by omega) (by omega) (by simp; omega) (by omega)
        refine ⟨M3, M4, ?_, ?_, f6.trans f7, s8, f8⟩
        · simp (disch := (first | assumption | (refine sm_of ?_ ?_ <;> omega) | fail)) only [iI_add, iI_sub, iI_mul, iI_neg, iI_lt, iI_le, iI_eq, b1_s, b2_s, ↓reduceIte, L0, L1, L2, L3, L4, L5, L6, L7, L8, L9, L10, L12, L20, L22, L24, L26, L27, L28, L32, L40, L60, L73, L95, L97, L222, L240, L441, L442, L622, Lm1, Lmh, pX6_cut_l31b, gi_at gk.2.2.1 1 rfl, c, gr_at hl 0 rfl, e5, e6]
          rw [show ((i : Int) + 1) = ((i + 1 : Nat) : Int) by omega, e7]
        · rw [drop_app (by omega)] at s7; exact s7
  obtain ⟨M3, M4, e3, s3, f3, s4, f4⟩ := loop n p M2 [] (d1.2.2.fr f2 (by omega)) g2 (f2.at c1.2.1 (by omega)) (Nat.le_refl _) hp (by simp) (by omega)
  have l3 := lv_sg l2 fc (by simpa using s3) f3
  have l4 := lv_sg l3 fk s4 (f4.mono (by omega) (by omega))
  refine ⟨M4, _, ?_, ((o1.fr f2 (by omega)).fr f3 (by omega)).fr f4 (by omega), l4, fun j hj => ?_, ((k1.trans (kp.of f2 (by omega))).trans (kp.of f3 (by omega))).trans (kp.of f4 (by omega))⟩
  · rw [show (((k + 1 : Nat)) : Int) = (k : Int) + 1 by omega] at e1
    simp (disch := (first | assumption | (refine sm_of ?_ ?_ <;> omega) | fail)) only [iI_add, iI_sub, iI_mul, iI_neg, iI_lt, iI_le, iI_eq, b1_s, b2_s, ↓reduceIte, L0, L1, L2, L3, L4, L5, L6, L7, L8, L9, L10, L12, L20, L22, L24, L26, L27, L28, L32, L40, L60, L73, L95, L97, L222, L240, L441, L442, L622, Lm1, Lmh, pX6_cut, v_at hO.2.2, gr_at hO.2.2 0 rfl, ra, gr_at lk.2.1 0 rfl, e1, gr_at c1.2.1 0 rfl, e2]
    exact e3
  · by_cases c : j = F k
    · subst c; simp [hne]
    · by_cases d : j = F cc
      · subst d; simp [c]
      · simp [c, d]
theorem st_unite {n : Nat} (hn : 60 ≤ n) {M : mm_M} {a : Nat} {F : Nat → Nat} {D : Nat → kL} {cc : Nat} {giv : Int} (hO : Ov M a cc giv) (hL : Lv M a F D) {k : Nat} (hk : k + 1 < cc) (hl : (D (F k)).2.length + (D (F (k + 1))).2.length ≤ 20) : ∃ M1 D1, pX6_unite n M a (iI k) = some (iI (((D (F k)).2.length + (D (F (k + 1))).2.length : Nat) : Int), M1) ∧ Ov M1 a (cc - 1) giv ∧ Lv M1 a (clF F (k + 1) cc) D1 ∧ (∀ j, j < 10 → D1 j = if j = F k then ((D j).1, (D j).2 ++ (D (F (k + 1))).2) else D j) ∧ kp M M1 a := by
  have hc := hO.1
  have fk := hL.2.1 k (by omega)
  have fj := hL.2.1 (k + 1) (by omega)
  have hne : F k ≠ F (k + 1) := fun q => by have := hL.2.2.1 k (k + 1) (by omega) (by omega) q; omega
  have lk := hL.ln (i := k) (by omega)
  have lj := hL.ln (i := k + 1) (by omega)
  have r1 := hL.ra (i := k) (by omega) (by omega)
  have r2 := hL.ra (i := (k : Int) + 1) (by omega) (by omega)
  rw [show ((k : Int)).toNat = k by omega] at r1
  rw [show ((k : Int) + 1).toNat = k + 1 by omega] at r2
  have loop : ∀ (q i : Nat) (M : mm_M) (ys : List Int), Sg M (a + 8 + 3 * F k + 1) ys → Sg M (a + 8 + 3 * F (k + 1) + 1) (D (F (k + 1))).2 → i ≤ (D (F (k + 1))).2.length → ys.length = (D (F k)).2.length + i → (D (F (k + 1))).2.length < i + q → ∃ M3, pX6_unite_l25 n q M a (iI k) (a + 8 + 3 * F k + 1) (a + 8 + 3 * F (k + 1) + 1) (iI i) = pX6_unite_b50 n M3 a (iI k) (a + 8 + 3 * F k + 1) ∧ Sg M3 (a + 8 + 3 * F k + 1) (ys ++ (D (F (k + 1))).2.drop i) ∧ fr M M3 (a + 8 + 3 * F k + 1) 2 := by
    intro q
    induction q with
    | zero => intro i M ys _ _ h1 h2 h3; omega
    | succ q ih =>
      intro i M ys gy gj h1 h2 h3
      show ∃ M3, pX6_unite_l25b n (pX6_unite_l25 n q) M a (iI k) _ _ (iI i) = _ ∧ _
      by_cases c : ((D (F (k + 1))).2.length : Int) ≤ i
      · refine ⟨M, ?_, by rw [List.drop_eq_nil_of_le (by omega)]; simpa using gy, fr.rfl⟩
        simp (disch := (first | assumption | (refine sm_of ?_ ?_ <;> omega) | fail)) only [iI_add, iI_sub, iI_mul, iI_neg, iI_lt, iI_le, iI_eq, b1_s, b2_s, ↓reduceIte, L0, L1, L2, L3, L4, L5, L6, L7, L8, L9, L10, L12, L20, L22, L24, L26, L27, L28, L32, L40, L60, L73, L95, L97, L222, L240, L441, L442, L622, Lm1, Lmh, pX6_unite_l25b, gi_at gj.2.2.1 1 rfl, c]
      · obtain ⟨M5, e5, e6, s6, f6⟩ := sg_addl (n := n) gj (p := i) (by omega) gy (by omega)
        obtain ⟨M3, e7, s7, f7⟩ := ih (i + 1) M5 _ s6 (gj.fr f6 (by omega)) (by omega) (by simp; omega) (by omega)
        refine ⟨M3, ?_, ?_, f6.trans f7⟩
        · simp (disch := (first | assumption | (refine sm_of ?_ ?_ <;> omega) | fail)) only [iI_add, iI_sub, iI_mul, iI_neg, iI_lt, iI_le, iI_eq, b1_s, b2_s, ↓reduceIte, L0, L1, L2, L3, L4, L5, L6, L7, L8, L9, L10, L12, L20, L22, L24, L26, L27, L28, L32, L40, L60, L73, L95, L97, L222, L240, L441, L442, L622, Lm1, Lmh, pX6_unite_l25b, gi_at gj.2.2.1 1 rfl, c, e5, e6]
          rw [show ((i : Int) + 1) = ((i + 1 : Nat) : Int) by omega, e7]
        · rw [drop_app (by omega)] at s7; exact s7
  have len2 := lj.2.2.1
  obtain ⟨M3, e3, s3, f3⟩ := loop n 0 M _ lk.2.2 lj.2.2 (by omega) (by omega) (by omega)
  simp only [List.drop_zero] at s3
  have l3 := lv_sg hL fk s3 f3
  obtain ⟨M4, e4, o4, l4, k4, f4⟩ := st_close hn (hO.fr f3 (by omega)) l3 (k := k + 1) (by omega)
  have s4 := s3.fr f4 (by omega)
  refine ⟨M4, _, ?_, o4, l4, fun j hj => ?_, (kp.of f3 (by omega)).trans k4⟩
  · rw [show (((k + 1 : Nat)) : Int) = (k : Int) + 1 by omega] at e4
    simp (disch := (first | assumption | (refine sm_of ?_ ?_ <;> omega) | fail)) only [iI_add, iI_sub, iI_mul, iI_neg, iI_lt, iI_le, iI_eq, b1_s, b2_s, ↓reduceIte, L0, L1, L2, L3, L4, L5, L6, L7, L8, L9, L10, L12, L20, L22, L24, L26, L27, L28, L32, L40, L60, L73, L95, L97, L222, L240, L441, L442, L622, Lm1, Lmh, pX6_unite, v_at hO.2.2, gr_at hO.2.2 0 rfl, r1, r2, gr_at lk.2.1 0 rfl, gr_at lj.2.1 0 rfl]
    have e3 : pX6_unite_l25 n n M a (iI k) (a + 8 + 3 * F k + 1) (a + 8 + 3 * F (k + 1) + 1) (iI 0) = _ := e3
    rw [e3]
    simp (disch := (first | assumption | (refine sm_of ?_ ?_ <;> omega) | fail)) only [iI_add, iI_sub, iI_mul, iI_neg, iI_lt, iI_le, iI_eq, b1_s, b2_s, ↓reduceIte, L0, L1, L2, L3, L4, L5, L6, L7, L8, L9, L10, L12, L20, L22, L24, L26, L27, L28, L32, L40, L60, L73, L95, L97, L222, L240, L441, L442, L622, Lm1, Lmh, pX6_unite_b50, e4, gi_at s4.2.2.1 1 rfl]
    simp
  · by_cases c : j = F k
    · subst c; simp
    · simp [c]
theorem st_start {n : Nat} (hn : 60 ≤ n) {M : mm_M} {a s i : Nat} {F : Nat → Nat} {D : Nat → kL} {cc : Nat} {giv : Int} {C : Nat → kU} {xs : List Int} (hO : Ov M a cc giv) (hL : Lv M a F D) (hC : Cv M a C) (hi : i < 3) {so x : Int32} {y : Int} (h : Sp M s so x (iI y) xs) (hd : a + 62 ≤ s ∨ s + 3 ≤ a) (hy : 1 ≤ y ∧ y ≤ 9) : ∃ M1 C1, pX6_start n M a (a + 38 + 8 * i) s = some (iI (hitsL (lns F D cc) xs), M1) ∧ Cv M1 a C1 ∧ C1 i = (xs, y, false, (C i).2.2.2.1, (C i).2.2.2.2.1, (C i).2.2.2.2.2.1, [], 0) ∧ (∀ j, j ≠ i → C1 j = C j) ∧ fr M M1 (a + 38 + 8 * i) 8 := by
  have c := hC.2 i hi
  have hc := c
  obtain ⟨h1, h2, h3, h4, h5, h6, h7, ⟨f, h8, h9⟩, k, h10, h11⟩ := c
  obtain ⟨M1, e1, s1, f1⟩ := sg_copy (n := n) h6 h.2 (by omega)
  have c5 := f1.at h5 (by omega)
  have p1 := f1.at h.1 (by omega)
  obtain ⟨M2, e2, s2, f2⟩ := pi_ex c5 1 (iI y)
  have c2 : Cu M2 (a + 38 + 8 * i) xs y (C i).2.2.1 (C i).2.2.2.1 (C i).2.2.2.2.1 (C i).2.2.2.2.2.1 (C i).2.2.2.2.2.2.1 (C i).2.2.2.2.2.2.2 := ⟨⟨by omega, by omega⟩, h2, h3, h4, s2, s1.fr f2 (by omega), (h7.fr f1 (by omega)).fr f2 (by omega), ⟨f, f2.at (f1.at h8 (by omega)) (by omega), h9⟩, k, f2.at (f1.at h10 (by omega)) (by omega), h11⟩
  obtain ⟨M3, e3, c3, f3⟩ := cu_unmark (n := n) c2
  have f13 : fr M M3 (a + 38 + 8 * i) 8 := ((f1.mono (by omega) (by omega)).trans (f2.mono (by omega) (by omega))).trans (f3.mono (by omega) (by omega))
  have hO3 := hO.fr f13 (by omega)
  have hL3 := hL.fr f13 (by omega)
  have q := st_hits hn hO3 hL3 c3.2.2.2.2.2.1
  refine ⟨M3, fun j => if j = i then (xs, y, false, (C i).2.2.2.1, (C i).2.2.2.2.1, (C i).2.2.2.2.2.1, [], 0) else C j, ?_, ⟨?_, fun j hj => ?_⟩, by simp, fun j hj => by simp [hj], f13⟩
  · simp (disch := (first | assumption | (refine sm_of ?_ ?_ <;> omega) | fail)) only [iI_add, iI_sub, iI_mul, iI_neg, iI_lt, iI_le, iI_eq, b1_s, b2_s, ↓reduceIte, L0, L1, L2, L3, L4, L5, L6, L7, L8, L9, L10, L12, L20, L22, L24, L26, L27, L28, L32, L40, L60, L73, L95, L97, L222, L240, L441, L442, L622, Lm1, Lmh, pX6_start, v_at hO.2.2, gr_at h5 0 rfl, gr_at h.1 3 rfl, e1, gi_at p1 2 rfl, e2, e3, gr_at c3.2.2.2.2.1 0 rfl, q]
  · obtain ⟨⟨u, g1, g2⟩, -⟩ := hC
    exact ⟨u, f13.at g1 (by omega), g2⟩
  · by_cases d : j = i
    · subst d; simp only [↓reduceIte]; exact c3
    · simp only [if_neg d]; exact (hC.2 j hj).fr f13 (by omega)
