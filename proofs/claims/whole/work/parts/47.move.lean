/-- only the state's head, its row of lines and its lines have changed -/
def kp (M M' : mm_M) (a : Nat) : Prop := (∀ C, Cv M a C → Cv M' a C) ∧ (∀ B lg, Jr M (a + 3) B lg → Jr M' (a + 3) B lg) ∧ M'.2 (a + 7) = M.2 (a + 7) ∧ fr M M' a 62
theorem kp.rfl {M : mm_M} {a : Nat} : kp M M a := ⟨fun _ h => h, fun _ _ h => h, Eq.refl _, fr.rfl⟩
theorem kp.trans {M M1 M2 : mm_M} {a : Nat} (h : kp M M1 a) (g : kp M1 M2 a) : kp M M2 a := ⟨fun C q => g.1 C (h.1 C q), fun B lg q => g.2.1 B lg (h.2.1 B lg q), g.2.2.1.trans h.2.2.1, h.2.2.2.trans g.2.2.2⟩
theorem kp.of {M M' : mm_M} {a b k : Nat} (f : fr M M' b k) (hd : (a ≤ b ∧ b + k ≤ a + 2) ∨ (a + 8 ≤ b ∧ b + k ≤ a + 38)) : kp M M' a := ⟨fun _ h => h.fr f (by omega), fun _ _ h => h.fr f (by omega), f.2 _ (by omega), f.mono (by omega) (by omega)⟩
def La (M : mm_M) (a : Nat) (G : Nat → Nat) (D : Nat → kL) : Prop := (∃ f, M.2 (a + 1) = some (mm_ar 0 10 f) ∧ ∀ i, i < 10 → f i = some (a + 8 + 3 * G i)) ∧ (∀ i, i < 10 → G i < 10) ∧ ∀ j, j < 10 → Ln M (a + 8 + 3 * j) (D j).1 (D j).2
theorem Lv.la {M : mm_M} {a : Nat} {F : Nat → Nat} {D : Nat → kL} (h : Lv M a F D) : La M a F D := ⟨h.1, h.2.1, h.2.2.2⟩
theorem La.ra {M : mm_M} {a : Nat} {F : Nat → Nat} {D : Nat → kL} (h : La M a F D) {i : Int} (h0 : 0 ≤ i) (h1 : i < 10) : mm_ra M (a + 1) (iI i) = some (a + 8 + 3 * F i.toNat) := by
  obtain ⟨⟨f, g1, g2⟩, -⟩ := h
  rw [ra_at g1 (by omega) h0 (by omega) (sm_of (by omega) (by omega)), g2 _ (by omega)]
theorem La.set {M : mm_M} {a : Nat} {G : Nat → Nat} {D : Nat → kL} (h : La M a G D) {i : Int} (h0 : 0 ≤ i) (h1 : i < 10) {j : Nat} (hj : j < 10) : ∃ M1, mm_rs M (a + 1) (iI i) (a + 8 + 3 * j) = some M1 ∧ La M1 a (fun q => if q = i.toNat then j else G q) D ∧ fr M M1 (a + 1) 1 := by
  obtain ⟨⟨f, g1, g2⟩, g3, g4⟩ := h
  obtain ⟨M1, e1, s1, f1⟩ := rs_ex g1 (by omega) (g4 j hj).2.1 h0 (by omega) (sm_of (by omega) (by omega))
  refine ⟨M1, e1, ⟨⟨_, s1, fun q hq => ?_⟩, fun q hq => ?_, fun q hq => (g4 q hq).fr f1 (by omega)⟩, f1⟩
  · by_cases c : q = i.toNat
    · simp [va_up, c]
    · simp [va_up, c, g2 q hq]
  · by_cases c : q = i.toNat
    · simp [c, hj]
    · simp [c, g3 q hq]
theorem La.cg {M : mm_M} {a : Nat} {G G' : Nat → Nat} {D : Nat → kL} (h : La M a G D) (e : ∀ i, i < 10 → G' i = G i) : La M a G' D := by
  obtain ⟨⟨f, g1, g2⟩, g3, g4⟩ := h
  exact ⟨⟨f, g1, fun i hi => by rw [g2 i hi, e i hi]⟩, fun i hi => by rw [e i hi]; exact g3 i hi, g4⟩
def opF (F : Nat → Nat) (k c : Nat) : Nat → Nat := fun i => if i < k then F i else if i = k then F c else if i ≤ c then F (i - 1) else F i
def opP (k c : Nat) : Nat → Nat := fun i => if i < k then i else if i = k then c else if i ≤ c then i - 1 else i
theorem opF_eq (F : Nat → Nat) (k c i : Nat) : opF F k c i = F (opP k c i) := by unfold opF opP; (repeat' split) <;> rfl
theorem st_open {n : Nat} (hn : 60 ≤ n) {M : mm_M} {a : Nat} {F : Nat → Nat} {D : Nat → kL} {cc : Nat} {giv : Int} (hO : Ov M a cc giv) (hL : Lv M a F D) {k : Nat} (hk : k ≤ cc) (hc : cc < 10) (hg : nb (giv + 1)) : ∃ M1, pX6_open n M a (iI k) = some (a + 8 + 3 * F cc, M1) ∧ Ov M1 a (cc + 1) (giv + 1) ∧ Lv M1 a (opF F k cc) (fun j => if j = F cc then (giv, (D j).2) else D j) ∧ kp M M1 a := by
  have fc := hL.2.1 cc hc
  have loop : ∀ (q i : Nat) (M : mm_M) (G : Nat → Nat), Ov M a cc giv → La M a G D → k ≤ i → i ≤ cc → i < k + q → ∃ M1 G1, pX6_open_l15 n q M a (iI k) (a + 8 + 3 * F cc) (iI i) = pX6_open_b40 n M1 a (iI k) (a + 8 + 3 * F cc) ∧ La M1 a G1 D ∧ (∀ j, j < 10 → G1 j = if k < j ∧ j ≤ i then G (j - 1) else G j) ∧ fr M M1 (a + 1) 1 := by
    intro q
    induction q with
    | zero => intro i M G _ _ h1 h2 h3; omega
    | succ q ih =>
      intro i M G hO hG h1 h2 h3
      show ∃ M1 G1, pX6_open_l15b n (pX6_open_l15 n q) M a (iI k) (a + 8 + 3 * F cc) (iI i) = _ ∧ _
      by_cases c : (i : Int) ≤ k
      · refine ⟨M, G, ?_, hG, fun j hj => ?_, fr.rfl⟩
        · simp (disch := (first | assumption | (refine sm_of ?_ ?_ <;> omega) | fail)) only [iI_add, iI_sub, iI_mul, iI_neg, iI_lt, iI_le, iI_eq, b1_s, b2_s, ↓reduceIte, L0, L1, L2, L3, L4, L5, L6, L7, L8, L9, L10, L12, L20, L22, L24, L26, L27, L28, L32, L40, L60, L73, L95, L97, L222, L240, L441, L442, L622, Lm1, Lmh, pX6_open_l15b, c]
        · rw [if_neg (by omega)]
      · have ra := hG.ra (i := (i : Int) - 1) (by omega) (by omega)
        rw [show ((i : Int) - 1).toNat = i - 1 by omega] at ra
        obtain ⟨M1, e1, s1, f1⟩ := hG.set (i := i) (by omega) (by omega) (j := G (i - 1)) (hG.2.1 (i - 1) (by omega))
        obtain ⟨M2, G2, e2, s2, a2, f2⟩ := ih (i - 1) M1 _ (hO.fr f1 (by omega)) s1 (by omega) (by omega) (by omega)
        refine ⟨M2, G2, ?_, s2, fun j hj => ?_, f1.trans f2⟩
        · simp (disch := (first | assumption | (refine sm_of ?_ ?_ <;> omega) | fail)) only [iI_add, iI_sub, iI_mul, iI_neg, iI_lt, iI_le, iI_eq, b1_s, b2_s, ↓reduceIte, L0, L1, L2, L3, L4, L5, L6, L7, L8, L9, L10, L12, L20, L22, L24, L26, L27, L28, L32, L40, L60, L73, L95, L97, L222, L240, L441, L442, L622, Lm1, Lmh, pX6_open_l15b, c, gr_at hO.2.2 0 rfl, ra, e1]
          rw [show ((i : Int) + -1) = ((i - 1 : Nat) : Int) by omega, e2]
        · rw [a2 j hj]
          by_cases d : j = i
          · subst d; rw [if_neg (show ¬ (k < j ∧ j ≤ j - 1) by omega), if_pos (show j = ((j : Int)).toNat by omega), if_pos (show k < j ∧ j ≤ j by omega)]
          · by_cases e : k < j ∧ j ≤ i
            · rw [if_pos (by omega), if_pos e, if_neg (by omega)]
            · rw [if_neg (by omega), if_neg e, if_neg (by omega)]
  have ra := hL.ra (i := cc) (by omega) (by omega)
  rw [show ((cc : Int)).toNat = cc by omega] at ra
  obtain ⟨M1, G1, e1, s1, a1, f1⟩ := loop n cc M F hO hL.la hk (Nat.le_refl _) (by omega)
  have hO1 := hO.fr f1 (by omega)
  obtain ⟨M2, e2, s2, f2⟩ := s1.set (i := k) (by omega) (by omega) (j := F cc) fc
  have hO2 := hO1.fr f2 (by omega)
  have l2 := s2.2.2 (F cc) fc
  obtain ⟨M3, e3, s3, f3⟩ := pi_ex l2.2.1 1 (iI giv)
  have hO3 := hO2.fr f3 (by omega)
  obtain ⟨M4, e4, s4, f4⟩ := pi_ex hO3.2.2 2 (iI (giv + 1))
  obtain ⟨M5, e5, s5, f5⟩ := pi_ex s4 1 (iI ((cc : Int) + 1))
  have f45 := f4.trans f5
  refine ⟨M5, ?_, ⟨by omega, hg, s5⟩, ?_, (((kp.of f1 (by omega)).trans (kp.of f2 (by omega))).trans (kp.of f3 (by omega))).trans (kp.of f45 (by omega))⟩
  · simp (disch := (first | assumption | (refine sm_of ?_ ?_ <;> omega) | fail)) only [iI_add, iI_sub, iI_mul, iI_neg, iI_lt, iI_le, iI_eq, b1_s, b2_s, ↓reduceIte, L0, L1, L2, L3, L4, L5, L6, L7, L8, L9, L10, L12, L20, L22, L24, L26, L27, L28, L32, L40, L60, L73, L95, L97, L222, L240, L441, L442, L622, Lm1, Lmh, pX6_open, v_at hO.2.2, gr_at hO.2.2 0 rfl, gi_at hO.2.2 1 rfl, ra]
    rw [e1]
    simp (disch := (first | assumption | (refine sm_of ?_ ?_ <;> omega) | fail)) only [iI_add, iI_sub, iI_mul, iI_neg, iI_lt, iI_le, iI_eq, b1_s, b2_s, ↓reduceIte, L0, L1, L2, L3, L4, L5, L6, L7, L8, L9, L10, L12, L20, L22, L24, L26, L27, L28, L32, L40, L60, L73, L95, L97, L222, L240, L441, L442, L622, Lm1, Lmh, pX6_open_b40, gr_at hO1.2.2 0 rfl, e2, gi_at hO2.2.2 2 rfl, e3, gi_at hO3.2.2 2 rfl, e4, gi_at s4 1 rfl, e5]
  · have s2' : La M2 a (opF F k cc) D := s2.cg (fun i hi => by
      unfold opF
      by_cases d : i = k
      · subst d; simp
      · simp only [show ((k : Int)).toNat = k by omega, if_neg d]
        rw [a1 i hi]
        by_cases e : i < k
        · rw [if_pos e, if_neg (by omega)]
        · rw [if_neg e]
          by_cases g : i ≤ cc
          · rw [if_pos g, if_pos (by omega)]
          · rw [if_neg g, if_neg (by omega)])
    obtain ⟨⟨f, g1, g2⟩, g3, g4⟩ := s2'
    refine ⟨⟨f, f45.at (f3.at g1 (by omega)) (by omega), g2⟩, g3, ?_, fun j hj => ?_⟩
    · intro i j hi hj hij
      rw [opF_eq, opF_eq] at hij
      have : opP k cc i = opP k cc j := hL.2.2.1 _ _ (by unfold opP; (repeat' split) <;> omega) (by unfold opP; (repeat' split) <;> omega) hij
      unfold opP at this
      (repeat' split at this) <;> omega
    · by_cases d : j = F cc
      · subst d
        simp only [↓reduceIte]
        have lg := hO.2.1
        exact ⟨lg, f45.at s3 (by omega), ((l2.2.2.fr f3 (by omega)).fr f45 (by omega))⟩
      · simp only [if_neg d]
        exact ((g4 j hj).fr f3 (by omega)).fr f45 (by omega)
def clF (F : Nat → Nat) (k c : Nat) : Nat → Nat := fun i => if i < k then F i else if i < c - 1 then F (i + 1) else if i = c - 1 then F k else F i
def clP (k c : Nat) : Nat → Nat := fun i => if i < k then i else if i < c - 1 then i + 1 else if i = c - 1 then k else i
theorem clF_eq (F : Nat → Nat) (k c i : Nat) : clF F k c i = F (clP k c i) := by unfold clF clP; (repeat' split) <;> rfl
theorem st_close {n : Nat} (hn : 60 ≤ n) {M : mm_M} {a : Nat} {F : Nat → Nat} {D : Nat → kL} {cc : Nat} {giv : Int} (hO : Ov M a cc giv) (hL : Lv M a F D) {k : Nat} (hk : k < cc) : ∃ M1, pX6_close n M a (iI k) = some M1 ∧ Ov M1 a (cc - 1) giv ∧ Lv M1 a (clF F k cc) D ∧ kp M M1 a ∧ fr M M1 a 2 := by
  have hc := hO.1
  have fc := hL.2.1 k (by omega)
  have loop : ∀ (q i : Nat) (M : mm_M) (G : Nat → Nat), Ov M a cc giv → La M a G D → i < cc → cc ≤ i + q → ∃ M1 G1, pX6_close_l9 n q M a (a + 8 + 3 * F k) (iI i) = pX6_close_b39 n M1 a (a + 8 + 3 * F k) ∧ La M1 a G1 D ∧ (∀ j, j < 10 → G1 j = if i ≤ j ∧ j < cc - 1 then G (j + 1) else G j) ∧ fr M M1 (a + 1) 1 := by
    intro q
    induction q with
    | zero => intro i M G _ _ h1 h2; omega
    | succ q ih =>
      intro i M G hO hG h1 h2
      show ∃ M1 G1, pX6_close_l9b n (pX6_close_l9 n q) M a (a + 8 + 3 * F k) (iI i) = _ ∧ _
      by_cases c : (cc : Int) - 1 ≤ i
      · refine ⟨M, G, ?_, hG, fun j hj => ?_, fr.rfl⟩
        · simp (disch := (first | assumption | (refine sm_of ?_ ?_ <;> omega) | fail)) only [iI_add, iI_sub, iI_mul, iI_neg, iI_lt, iI_le, iI_eq, b1_s, b2_s, ↓reduceIte, L0, L1, L2, L3, L4, L5, L6, L7, L8, L9, L10, L12, L20, L22, L24, L26, L27, L28, L32, L40, L60, L73, L95, L97, L222, L240, L441, L442, L622, Lm1, Lmh, pX6_close_l9b, gi_at hO.2.2 1 rfl, c]
        · rw [if_neg (by omega)]
      · have ra := hG.ra (i := (i : Int) + 1) (by omega) (by omega)
        rw [show ((i : Int) + 1).toNat = i + 1 by omega] at ra
        obtain ⟨M1, e1, s1, f1⟩ := hG.set (i := i) (by omega) (by omega) (j := G (i + 1)) (hG.2.1 (i + 1) (by omega))
        obtain ⟨M2, G2, e2, s2, a2, f2⟩ := ih (i + 1) M1 _ (hO.fr f1 (by omega)) s1 (by omega) (by omega)
        refine ⟨M2, G2, ?_, s2, fun j hj => ?_, f1.trans f2⟩
        · simp (disch := (first | assumption | (refine sm_of ?_ ?_ <;> omega) | fail)) only [iI_add, iI_sub, iI_mul, iI_neg, iI_lt, iI_le, iI_eq, b1_s, b2_s, ↓reduceIte, L0, L1, L2, L3, L4, L5, L6, L7, L8, L9, L10, L12, L20, L22, L24, L26, L27, L28, L32, L40, L60, L73, L95, L97, L222, L240, L441, L442, L622, Lm1, Lmh, pX6_close_l9b, gi_at hO.2.2 1 rfl, c, gr_at hO.2.2 0 rfl, ra, e1]
          rw [show ((i : Int) + 1) = ((i + 1 : Nat) : Int) by omega, e2]
        · rw [a2 j hj]
          by_cases d : j = i
          · subst d; rw [if_neg (show ¬ (j + 1 ≤ j ∧ j < cc - 1) by omega), if_pos (show j = ((j : Int)).toNat by omega), if_pos (show j ≤ j ∧ j < cc - 1 by omega)]
          · by_cases e : i ≤ j ∧ j < cc - 1
            · rw [if_pos (by omega), if_pos e, if_neg (by omega)]
            · rw [if_neg (by omega), if_neg e, if_neg (by omega)]
  have ra := hL.ra (i := k) (by omega) (by omega)
  rw [show ((k : Int)).toNat = k by omega] at ra
  obtain ⟨M1, G1, e1, s1, a1, f1⟩ := loop n k M F hO hL.la hk (by omega)
  have hO1 := hO.fr f1 (by omega)
  obtain ⟨M2, e2, s2, f2⟩ := pi_ex hO1.2.2 1 (iI ((cc : Int) - 1))
  have s1' : La M2 a G1 D := by
    obtain ⟨⟨f, g1, g2⟩, g3, g4⟩ := s1
    exact ⟨⟨f, f2.at g1 (by omega), g2⟩, g3, fun j hj => (g4 j hj).fr f2 (by omega)⟩
  obtain ⟨M3, e3, s3, f3⟩ := s1'.set (i := (cc : Int) - 1) (by omega) (by omega) (j := F k) fc
  have e9 : ((cc : Int) - 1) = ((cc - 1 : Nat) : Int) := by omega
  refine ⟨M3, ?_, ⟨by omega, hO.2.1, ?_⟩, ?_, ((kp.of f1 (by omega)).trans (kp.of f2 (by omega))).trans (kp.of f3 (by omega)), ((f1.mono (by omega) (by omega)).trans (f2.mono (by omega) (by omega))).trans (f3.mono (by omega) (by omega))⟩
  · simp (disch := (first | assumption | (refine sm_of ?_ ?_ <;> omega) | fail)) only [iI_add, iI_sub, iI_mul, iI_neg, iI_lt, iI_le, iI_eq, b1_s, b2_s, ↓reduceIte, L0, L1, L2, L3, L4, L5, L6, L7, L8, L9, L10, L12, L20, L22, L24, L26, L27, L28, L32, L40, L60, L73, L95, L97, L222, L240, L441, L442, L622, Lm1, Lmh, pX6_close, v_at hO.2.2, gr_at hO.2.2 0 rfl, ra]
    rw [e1]
    simp (disch := (first | assumption | (refine sm_of ?_ ?_ <;> omega) | fail)) only [iI_add, iI_sub, iI_mul, iI_neg, iI_lt, iI_le, iI_eq, b1_s, b2_s, ↓reduceIte, L0, L1, L2, L3, L4, L5, L6, L7, L8, L9, L10, L12, L20, L22, L24, L26, L27, L28, L32, L40, L60, L73, L95, L97, L222, L240, L441, L442, L622, Lm1, Lmh, pX6_close_b39, gi_at hO1.2.2 1 rfl, e2, gr_at s2 0 rfl, gi_at s2 1 rfl, e3]
  · rw [← e9]; exact f3.at s2 (by omega)
  · have s3' : La M3 a (clF F k cc) D := s3.cg (fun i hi => by
      unfold clF
      by_cases d : i = cc - 1
      · subst d
        rw [if_neg (by omega), if_neg (by omega), if_pos rfl]
        simp only [show ((cc : Int) - 1).toNat = cc - 1 by omega, ↓reduceIte]
      · simp only [show ((cc : Int) - 1).toNat = cc - 1 by omega, if_neg d]
        rw [a1 i hi]
        by_cases e : i < k
        · rw [if_pos e, if_neg (by omega)]
        · rw [if_neg e]
          by_cases g : i < cc - 1
          · rw [if_pos g, if_pos (by omega)]
          · rw [if_neg g, if_neg (by omega)])
    refine ⟨s3'.1, s3'.2.1, ?_, s3'.2.2⟩
    intro i j hi hj hij
    rw [clF_eq, clF_eq] at hij
    have : clP k cc i = clP k cc j := hL.2.2.1 _ _ (by unfold clP; (repeat' split) <;> omega) (by unfold clP; (repeat' split) <;> omega) hij
    unfold clP at this
    (repeat' split at this) <;> omega
def swF (F : Nat → Nat) (k o : Nat) : Nat → Nat := fun i => if i = k then F o else if i = o then F k else F i
theorem st_change {n : Nat} {M : mm_M} {a : Nat} {F : Nat → Nat} {D : Nat → kL} {cc : Nat} {giv : Int} (hO : Ov M a cc giv) (hL : Lv M a F D) {k o : Nat} (hk : k < cc) (ho : o < cc) (hne : k ≠ o) : ∃ M1, pX6_change n M a (iI k) (iI o) = some (iI (D (F o)).1, M1) ∧ Ov M1 a cc giv ∧ Lv M1 a (swF F k o) D ∧ kp M M1 a := by
  have hc := hO.1
  have r1 := hL.ra (i := k) (by omega) (by omega)
  have r2 := hL.ra (i := o) (by omega) (by omega)
  rw [show ((k : Int)).toNat = k by omega] at r1
  rw [show ((o : Int)).toNat = o by omega] at r2
  obtain ⟨M1, e1, s1, f1⟩ := hL.la.set (i := k) (by omega) (by omega) (j := F o) (hL.2.1 o (by omega))
  have hO1 := hO.fr f1 (by omega)
  obtain ⟨M2, e2, s2, f2⟩ := s1.set (i := o) (by omega) (by omega) (j := F k) (hL.2.1 k (by omega))
  have hO2 := hO1.fr f2 (by omega)
  have s2' : La M2 a (swF F k o) D := s2.cg (fun i hi => by
    unfold swF
    simp only [show ((k : Int)).toNat = k by omega, show ((o : Int)).toNat = o by omega]
    by_cases d : i = k
    · subst d; simp [hne]
    · by_cases e : i = o
      · subst e; simp [d]
      · simp [d, e])
  have r3 := s2'.ra (i := k) (by omega) (by omega)
  rw [show ((k : Int)).toNat = k by omega, show swF F k o k = F o by simp [swF]] at r3
  have l3 := s2'.2.2 (F o) (hL.2.1 o (by omega))
  refine ⟨M2, ?_, hO2, ⟨s2'.1, s2'.2.1, ?_, s2'.2.2⟩, (kp.of f1 (by omega)).trans (kp.of f2 (by omega))⟩
  · simp (disch := (first | assumption | (refine sm_of ?_ ?_ <;> omega) | fail)) only [iI_add, iI_sub, iI_mul, iI_neg, iI_lt, iI_le, iI_eq, b1_s, b2_s, ↓reduceIte, L0, L1, L2, L3, L4, L5, L6, L7, L8, L9, L10, L12, L20, L22, L24, L26, L27, L28, L32, L40, L60, L73, L95, L97, L222, L240, L441, L442, L622, Lm1, Lmh, pX6_change, v_at hO.2.2, gr_at hO.2.2 0 rfl, r1, r2, e1, gr_at hO1.2.2 0 rfl, e2, gr_at hO2.2.2 0 rfl, r3, gi_at l3.2.1 1 rfl]
  · intro i j hi hj hij
    have h9 : ∀ z, swF F k o z = F (if z = k then o else if z = o then k else z) := by intro z; unfold swF; (repeat' split) <;> rfl
    rw [h9, h9] at hij
    have := hL.2.2.1 _ _ (by (repeat' split) <;> omega) (by (repeat' split) <;> omega) hij
    (repeat' split at this) <;> omega
