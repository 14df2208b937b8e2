/-! the reference's cursors -/
def NwU (nw : Int → Int) (o : Int) (u : kU) : Prop := (u.2.1 = 0 → nw o = 0) ∧ (u.2.1 ≠ 0 → nw o = u.1.length ∧ rowA nw (o + 1) u.1 ∧ nw (o + 7) = u.2.1 ∧ nw (o + 8) = (if u.2.2.1 = true then 1 else 0) ∧ nw (o + 53) = u.2.2.2.2.2.2.1.length ∧ nw (o + 54) = u.2.2.2.2.2.2.2 ∧ (∀ i : Nat, i < u.2.2.2.2.2.2.1.length → nw (o + 55 + 2 * i) = (u.2.2.2.2.2.2.1.getD i (0, 0)).1 ∧ nw (o + 55 + 2 * i + 1) = (u.2.2.2.2.2.2.1.getD i (0, 0)).2) ∧ (u.2.2.1 = true → nw (o + 9) = u.2.2.2.1 ∧ nw (o + 10) = u.2.2.2.2.2.1 ∧ nw (o + 11) = (u.2.2.2.2.1.drop (u.2.2.2.2.2.1 + u.1.length)).length ∧ rowA nw (o + 12) (u.2.2.2.2.1.drop (u.2.2.2.2.2.1 + u.1.length)) ∧ nw (o + 32) = u.2.2.2.2.2.1 ∧ rowA nw (o + 33) (u.2.2.2.2.1.take u.2.2.2.2.2.1).reverse))
def okU (u : kU) : Prop := 0 ≤ u.2.1 ∧ u.2.1 ≤ 9 ∧ (u.2.1 ≠ 0 → 1 ≤ u.1.length ∧ u.1.length ≤ 6 ∧ okS u.1) ∧ (u.2.2.1 = true → okS u.2.2.2.2.1 ∧ u.2.2.2.2.2.1 ≤ u.2.2.2.2.1.length ∧ u.2.2.2.2.1.length ≤ 20 ∧ nb u.2.2.2.1) ∧ u.2.2.2.2.2.2.1.length ≤ 9 ∧ nb u.2.2.2.2.2.2.2
theorem m_cmpM {n : Nat} (hn : 60 ≤ n) {M : mm_M} {am : Nat} {m : mS} {ls : List kL} (hN : NwL (m.1 7) ls) (ho : okL ls) {c : Nat} (hc : c < 3) {u : kU} (hU : NwU (m.1 7) (222 + 73 * c) u) (hk : okU u) (hsz : u.2.1 ≠ 0) (hmk : u.2.2.1 = true) (hw : m.1 0 20 = u.1.length) {k p : Nat} (hkl : k < ls.length) (hp : p ≤ (lnN ls k).2.length) : pX10_comparesMark n (mk M am m) am (iI k) (iI p) (iI c) = some (iI (cmpS u.1.length p (lnN ls k).1 (lnN ls k).2 u.2.2.2.2.2.1 u.2.2.2.1 u.2.2.2.2.1), mk M am m) := by
  obtain ⟨a1, a2, a3, a4⟩ := ho.2 k hkl
  obtain ⟨w1, w2, w3⟩ := hk.2.2.1 hsz
  obtain ⟨b1, b2, b3, b4⟩ := hk.2.2.2.1 hmk
  obtain ⟨u1, u2, u3, u4, u5, u6, u7, u8⟩ := hU.2 hsz
  obtain ⟨v1, v2, v3, v4, v5, v6⟩ := u8 hmk
  unfold nb at a4 b4
  have c10 := ho.1
  generalize hA : (lnN ls k).2.drop (p + u.1.length) = A
  generalize hB : u.2.2.2.2.1.drop (u.2.2.2.2.2.1 + u.1.length) = B at *
  generalize hC : ((lnN ls k).2.take p).reverse = C
  generalize hD : (u.2.2.2.2.1.take u.2.2.2.2.2.1).reverse = D at *
  have oA : okS A := by rw [← hA]; exact a3.drop _
  have oB : okS B := by rw [← hB]; exact b1.drop _
  have oC : okS C := by rw [← hC]; exact (a3.take _).rev
  have oD : okS D := by rw [← hD]; exact (b1.take _).rev
  have lA : A.length ≤ 20 := by rw [← hA]; simp; omega
  have lB : B.length ≤ 20 := by rw [← hB]; simp; omega
  have lC : C.length ≤ 20 := by rw [← hC]; simp; omega
  have eD : D.length = u.2.2.2.2.2.1 := by rw [← hD]; simp; omega
  have cAB := cmpL_bd A B
  have cCD := cmpL_bd C D
  have zz : cmpL ([] : List Int) [] = 0 := rfl
  have nn : ∀ {X : List Int}, X.length ≤ 20 → X.drop 21 = [] := fun h => List.drop_eq_nil_of_le (by omega)
  have tail : ∀ z : Int, -1 ≤ z ∧ z ≤ 1 → pX10_comparesMark_b141 n (mk M am m) am (iI k) (iI p) (iI (222 + 73 * c)) (iI z) = some (iI (if z ≠ 0 then z else if ordZ (lnN ls k).1 u.2.2.2.1 ≠ 0 then ordZ (lnN ls k).1 u.2.2.2.1 else ordZ (p : Int) u.2.2.2.2.2.1), mk M am m) := by
    intro z hz
    have o1 := ordZ_bd (lnN ls k).1 u.2.2.2.1
    by_cases c : z = 0
    · subst c
      simp (disch := (first | assumption | (refine sm_of ?_ ?_ <;> omega) | omega)) only [iI_add, iI_sub, iI_mul, iI_neg, iI_lt, iI_le, iI_eq, b1_s, b2_s, ↓reduceIte, mk_v, mk_gl23, mk_pl23, mk_gr1, mk_gr5, mk_gr6, mk_gr8, mk_gr9, mk_gr11, mk_gr13, mk_gr14, mk_gr15, mk_gr17, mk_gr18, mk_gr21, mk_gr24, mk_gr28, mk_gr30, mk_gr31, mk_gi0, mk_gi2, mk_gi3, mk_gi4, mk_gi7, mk_gi10, mk_gi12, mk_gi16, mk_gi19, mk_gi20, mk_gi22, mk_gi25, mk_gi26, mk_gi27, mk_gi29, mk_gi32, mk_pi0, mk_pi2, mk_pi3, mk_pi4, mk_pi7, mk_pi10, mk_pi12, mk_pi16, mk_pi19, mk_pi20, mk_pi22, mk_pi25, mk_pi26, mk_pi27, mk_pi29, mk_pi32, mk_ia1, mk_ia2, mk_ia3, mk_ia4, mk_ia5, mk_ia6, mk_ia7, mk_ia8, mk_ia9, mk_ia10, mk_ia11, mk_ia12, mk_ia13, mk_ia14, mk_ia15, mk_ia16, mk_is1, mk_is2, mk_is3, mk_is4, mk_is5, mk_is6, mk_is7, mk_is8, mk_is9, mk_is10, mk_is11, mk_is12, mk_is13, mk_is14, mk_is15, mk_is16, L0, L1, L2, L3, L4, L5, L6, L7, L8, L9, L10, L12, L20, L22, L24, L26, L27, L28, L32, L40, L60, L73, L95, L97, L222, L240, L441, L442, L622, Lm1, Lmh, L11, L13, L14, L15, L16, L17, L18, L19, L21, L23, L25, L30, L31, L33, L36, L39, L41, L44, L48, L53, L54, L55, L57, L58, L59, L91, L93, L98, L99, L100, L105, L106, L112, L114, L115, L119, L122, L160, L180, L200, L255, L1440, L24880, L63, Lm2, pX10_comparesMark_b141, pX10_comparesMark_b169, m_num hN ho hkl, v1, v2, m_ord]
      by_cases d : ordZ (lnN ls k).1 u.2.2.2.1 = 0
      · simp [d]
      · simp [d]
    · simp (disch := (first | assumption | (refine sm_of ?_ ?_ <;> omega) | omega)) only [iI_add, iI_sub, iI_mul, iI_neg, iI_lt, iI_le, iI_eq, b1_s, b2_s, ↓reduceIte, mk_v, mk_gl23, mk_pl23, mk_gr1, mk_gr5, mk_gr6, mk_gr8, mk_gr9, mk_gr11, mk_gr13, mk_gr14, mk_gr15, mk_gr17, mk_gr18, mk_gr21, mk_gr24, mk_gr28, mk_gr30, mk_gr31, mk_gi0, mk_gi2, mk_gi3, mk_gi4, mk_gi7, mk_gi10, mk_gi12, mk_gi16, mk_gi19, mk_gi20, mk_gi22, mk_gi25, mk_gi26, mk_gi27, mk_gi29, mk_gi32, mk_pi0, mk_pi2, mk_pi3, mk_pi4, mk_pi7, mk_pi10, mk_pi12, mk_pi16, mk_pi19, mk_pi20, mk_pi22, mk_pi25, mk_pi26, mk_pi27, mk_pi29, mk_pi32, mk_ia1, mk_ia2, mk_ia3, mk_ia4, mk_ia5, mk_ia6, mk_ia7, mk_ia8, mk_ia9, mk_ia10, mk_ia11, mk_ia12, mk_ia13, mk_ia14, mk_ia15, mk_ia16, mk_is1, mk_is2, mk_is3, mk_is4, mk_is5, mk_is6, mk_is7, mk_is8, mk_is9, mk_is10, mk_is11, mk_is12, mk_is13, mk_is14, mk_is15, mk_is16, L0, L1, L2, L3, L4, L5, L6, L7, L8, L9, L10, L12, L20, L22, L24, L26, L27, L28, L32, L40, L60, L73, L95, L97, L222, L240, L441, L442, L622, Lm1, Lmh, L11, L13, L14, L15, L16, L17, L18, L19, L21, L23, L25, L30, L31, L33, L36, L39, L41, L44, L48, L53, L54, L55, L57, L58, L59, L91, L93, L98, L99, L100, L105, L106, L112, L114, L115, L119, L122, L160, L180, L200, L255, L1440, L24880, L63, Lm2, pX10_comparesMark_b141, pX10_comparesMark_b169, c]
      simp [c]
  have l2 : ∀ (r i : Nat), i ≤ 21 → 22 ≤ i + r → ∀ z : Int, -1 ≤ z ∧ z ≤ 1 → pX10_comparesMark_l78 n r (mk M am m) am (iI k) (iI p) (iI (222 + 73 * c)) (iI z) (iI i) = pX10_comparesMark_b141 n (mk M am m) am (iI k) (iI p) (iI (222 + 73 * c)) (iI (if z ≠ 0 then z else cmpL (C.drop i) (D.drop i))) := by
    intro r
    induction r with
    | zero => intro i h1 h2; omega
    | succ r ih =>
      intro i h1 h2 z hz
      show pX10_comparesMark_l78b n (pX10_comparesMark_l78 n r) (mk M am m) am _ _ _ _ _ = _
      by_cases c1 : (20 : Int) < i
      · simp (disch := (first | assumption | (refine sm_of ?_ ?_ <;> omega) | omega)) only [iI_add, iI_sub, iI_mul, iI_neg, iI_lt, iI_le, iI_eq, b1_s, b2_s, ↓reduceIte, mk_v, mk_gl23, mk_pl23, mk_gr1, mk_gr5, mk_gr6, mk_gr8, mk_gr9, mk_gr11, mk_gr13, mk_gr14, mk_gr15, mk_gr17, mk_gr18, mk_gr21, mk_gr24, mk_gr28, mk_gr30, mk_gr31, mk_gi0, mk_gi2, mk_gi3, mk_gi4, mk_gi7, mk_gi10, mk_gi12, mk_gi16, mk_gi19, mk_gi20, mk_gi22, mk_gi25, mk_gi26, mk_gi27, mk_gi29, mk_gi32, mk_pi0, mk_pi2, mk_pi3, mk_pi4, mk_pi7, mk_pi10, mk_pi12, mk_pi16, mk_pi19, mk_pi20, mk_pi22, mk_pi25, mk_pi26, mk_pi27, mk_pi29, mk_pi32, mk_ia1, mk_ia2, mk_ia3, mk_ia4, mk_ia5, mk_ia6, mk_ia7, mk_ia8, mk_ia9, mk_ia10, mk_ia11, mk_ia12, mk_ia13, mk_ia14, mk_ia15, mk_ia16, mk_is1, mk_is2, mk_is3, mk_is4, mk_is5, mk_is6, mk_is7, mk_is8, mk_is9, mk_is10, mk_is11, mk_is12, mk_is13, mk_is14, mk_is15, mk_is16, L0, L1, L2, L3, L4, L5, L6, L7, L8, L9, L10, L12, L20, L22, L24, L26, L27, L28, L32, L40, L60, L73, L95, L97, L222, L240, L441, L442, L622, Lm1, Lmh, L11, L13, L14, L15, L16, L17, L18, L19, L21, L23, L25, L30, L31, L33, L36, L39, L41, L44, L48, L53, L54, L55, L57, L58, L59, L91, L93, L98, L99, L100, L105, L106, L112, L114, L115, L119, L122, L160, L180, L200, L255, L1440, L24880, L63, Lm2, pX10_comparesMark_l78b, c1]
        rw [show i = 21 by omega, nn lC, nn (show D.length ≤ 20 by omega), zz]
        by_cases d : z = 0
        · simp [d]
        · simp [d]
      · by_cases d : z = 0
        · subst d
          have bc := atD_bd oC i
          have bd' := atD_bd oD i
          have e1 := m_bef (n := n) (M := M) (am := am) hN ho hkl hp (show i ≤ 20 by omega)
          rw [hC] at e1
          have fin : ∀ y : Int, y = atD D i → pX10_comparesMark_l78 n r (mk M am m) am (iI k) (iI p) (iI (222 + 73 * c)) (iI (ordZ (atD C i) y)) (iI ((i : Int) + 1)) = pX10_comparesMark_b141 n (mk M am m) am (iI k) (iI p) (iI (222 + 73 * c)) (iI (if ((0 : Int) ≠ 0) then 0 else cmpL (C.drop i) (D.drop i))) := by
            intro y hy
            rw [hy, show ((i : Int) + 1) = ((i + 1 : Nat) : Int) by omega, ih (i + 1) (by omega) (by omega) _ (ordZ_bd _ _), ord_atD oC oD i]
            by_cases f : ordZ (atD C i) (atD D i) = 0
            · simp [f]
            · simp [f]
          by_cases g : (u.2.2.2.2.2.1 : Int) ≤ i
          · simp (disch := (first | assumption | (refine sm_of ?_ ?_ <;> omega) | omega)) only [iI_add, iI_sub, iI_mul, iI_neg, iI_lt, iI_le, iI_eq, b1_s, b2_s, ↓reduceIte, mk_v, mk_gl23, mk_pl23, mk_gr1, mk_gr5, mk_gr6, mk_gr8, mk_gr9, mk_gr11, mk_gr13, mk_gr14, mk_gr15, mk_gr17, mk_gr18, mk_gr21, mk_gr24, mk_gr28, mk_gr30, mk_gr31, mk_gi0, mk_gi2, mk_gi3, mk_gi4, mk_gi7, mk_gi10, mk_gi12, mk_gi16, mk_gi19, mk_gi20, mk_gi22, mk_gi25, mk_gi26, mk_gi27, mk_gi29, mk_gi32, mk_pi0, mk_pi2, mk_pi3, mk_pi4, mk_pi7, mk_pi10, mk_pi12, mk_pi16, mk_pi19, mk_pi20, mk_pi22, mk_pi25, mk_pi26, mk_pi27, mk_pi29, mk_pi32, mk_ia1, mk_ia2, mk_ia3, mk_ia4, mk_ia5, mk_ia6, mk_ia7, mk_ia8, mk_ia9, mk_ia10, mk_ia11, mk_ia12, mk_ia13, mk_ia14, mk_ia15, mk_ia16, mk_is1, mk_is2, mk_is3, mk_is4, mk_is5, mk_is6, mk_is7, mk_is8, mk_is9, mk_is10, mk_is11, mk_is12, mk_is13, mk_is14, mk_is15, mk_is16, L0, L1, L2, L3, L4, L5, L6, L7, L8, L9, L10, L12, L20, L22, L24, L26, L27, L28, L32, L40, L60, L73, L95, L97, L222, L240, L441, L442, L622, Lm1, Lmh, L11, L13, L14, L15, L16, L17, L18, L19, L21, L23, L25, L30, L31, L33, L36, L39, L41, L44, L48, L53, L54, L55, L57, L58, L59, L91, L93, L98, L99, L100, L105, L106, L112, L114, L115, L119, L122, L160, L180, L200, L255, L1440, L24880, L63, Lm2, pX10_comparesMark_l78b, c1, e1, v5, g, m_ord]
            exact fin (-1) (by unfold atD; rw [List.getElem?_eq_none (by omega)])
          · have rd := v6 i (by omega)
            have ad : atD D i = dec (D.getD i 0) := by unfold atD; rw [List.getElem?_eq_getElem (by omega), getD_of (by omega)]
            rw [← ad] at rd
            simp (disch := (first | assumption | (refine sm_of ?_ ?_ <;> omega) | omega)) only [iI_add, iI_sub, iI_mul, iI_neg, iI_lt, iI_le, iI_eq, b1_s, b2_s, ↓reduceIte, mk_v, mk_gl23, mk_pl23, mk_gr1, mk_gr5, mk_gr6, mk_gr8, mk_gr9, mk_gr11, mk_gr13, mk_gr14, mk_gr15, mk_gr17, mk_gr18, mk_gr21, mk_gr24, mk_gr28, mk_gr30, mk_gr31, mk_gi0, mk_gi2, mk_gi3, mk_gi4, mk_gi7, mk_gi10, mk_gi12, mk_gi16, mk_gi19, mk_gi20, mk_gi22, mk_gi25, mk_gi26, mk_gi27, mk_gi29, mk_gi32, mk_pi0, mk_pi2, mk_pi3, mk_pi4, mk_pi7, mk_pi10, mk_pi12, mk_pi16, mk_pi19, mk_pi20, mk_pi22, mk_pi25, mk_pi26, mk_pi27, mk_pi29, mk_pi32, mk_ia1, mk_ia2, mk_ia3, mk_ia4, mk_ia5, mk_ia6, mk_ia7, mk_ia8, mk_ia9, mk_ia10, mk_ia11, mk_ia12, mk_ia13, mk_ia14, mk_ia15, mk_ia16, mk_is1, mk_is2, mk_is3, mk_is4, mk_is5, mk_is6, mk_is7, mk_is8, mk_is9, mk_is10, mk_is11, mk_is12, mk_is13, mk_is14, mk_is15, mk_is16, L0, L1, L2, L3, L4, L5, L6, L7, L8, L9, L10, L12, L20, L22, L24, L26, L27, L28, L32, L40, L60, L73, L95, L97, L222, L240, L441, L442, L622, Lm1, Lmh, L11, L13, L14, L15, L16, L17, L18, L19, L21, L23, L25, L30, L31, L33, L36, L39, L41, L44, L48, L53, L54, L55, L57, L58, L59, L91, L93, L98, L99, L100, L105, L106, L112, L114, L115, L119, L122, L160, L180, L200, L255, L1440, L24880, L63, Lm2, pX10_comparesMark_l78b, c1, e1, v5, g, rd, m_ord]
            exact fin _ rfl
        · simp (disch := (first | assumption | (refine sm_of ?_ ?_ <;> omega) | omega)) only [iI_add, iI_sub, iI_mul, iI_neg, iI_lt, iI_le, iI_eq, b1_s, b2_s, ↓reduceIte, mk_v, mk_gl23, mk_pl23, mk_gr1, mk_gr5, mk_gr6, mk_gr8, mk_gr9, mk_gr11, mk_gr13, mk_gr14, mk_gr15, mk_gr17, mk_gr18, mk_gr21, mk_gr24, mk_gr28, mk_gr30, mk_gr31, mk_gi0, mk_gi2, mk_gi3, mk_gi4, mk_gi7, mk_gi10, mk_gi12, mk_gi16, mk_gi19, mk_gi20, mk_gi22, mk_gi25, mk_gi26, mk_gi27, mk_gi29, mk_gi32, mk_pi0, mk_pi2, mk_pi3, mk_pi4, mk_pi7, mk_pi10, mk_pi12, mk_pi16, mk_pi19, mk_pi20, mk_pi22, mk_pi25, mk_pi26, mk_pi27, mk_pi29, mk_pi32, mk_ia1, mk_ia2, mk_ia3, mk_ia4, mk_ia5, mk_ia6, mk_ia7, mk_ia8, mk_ia9, mk_ia10, mk_ia11, mk_ia12, mk_ia13, mk_ia14, mk_ia15, mk_ia16, mk_is1, mk_is2, mk_is3, mk_is4, mk_is5, mk_is6, mk_is7, mk_is8, mk_is9, mk_is10, mk_is11, mk_is12, mk_is13, mk_is14, mk_is15, mk_is16, L0, L1, L2, L3, L4, L5, L6, L7, L8, L9, L10, L12, L20, L22, L24, L26, L27, L28, L32, L40, L60, L73, L95, L97, L222, L240, L441, L442, L622, Lm1, Lmh, L11, L13, L14, L15, L16, L17, L18, L19, L21, L23, L25, L30, L31, L33, L36, L39, L41, L44, L48, L53, L54, L55, L57, L58, L59, L91, L93, L98, L99, L100, L105, L106, L112, L114, L115, L119, L122, L160, L180, L200, L255, L1440, L24880, L63, Lm2, pX10_comparesMark_l78b, c1, d]
          simp [d]
  have l1 : ∀ (r i : Nat), i ≤ 21 → 22 ≤ i + r → ∀ z : Int, -1 ≤ z ∧ z ≤ 1 → pX10_comparesMark_l12 n r (mk M am m) am (iI k) (iI p) (iI (222 + 73 * c)) (iI z) (iI i) = pX10_comparesMark_l78 n n (mk M am m) am (iI k) (iI p) (iI (222 + 73 * c)) (iI (if z ≠ 0 then z else cmpL (A.drop i) (B.drop i))) (iI 0) := by
    intro r
    induction r with
    | zero => intro i h1 h2; omega
    | succ r ih =>
      intro i h1 h2 z hz
      show pX10_comparesMark_l12b n (pX10_comparesMark_l12 n r) (mk M am m) am _ _ _ _ _ = _
      by_cases c1 : (20 : Int) < i
      · simp (disch := (first | assumption | (refine sm_of ?_ ?_ <;> omega) | omega)) only [iI_add, iI_sub, iI_mul, iI_neg, iI_lt, iI_le, iI_eq, b1_s, b2_s, ↓reduceIte, mk_v, mk_gl23, mk_pl23, mk_gr1, mk_gr5, mk_gr6, mk_gr8, mk_gr9, mk_gr11, mk_gr13, mk_gr14, mk_gr15, mk_gr17, mk_gr18, mk_gr21, mk_gr24, mk_gr28, mk_gr30, mk_gr31, mk_gi0, mk_gi2, mk_gi3, mk_gi4, mk_gi7, mk_gi10, mk_gi12, mk_gi16, mk_gi19, mk_gi20, mk_gi22, mk_gi25, mk_gi26, mk_gi27, mk_gi29, mk_gi32, mk_pi0, mk_pi2, mk_pi3, mk_pi4, mk_pi7, mk_pi10, mk_pi12, mk_pi16, mk_pi19, mk_pi20, mk_pi22, mk_pi25, mk_pi26, mk_pi27, mk_pi29, mk_pi32, mk_ia1, mk_ia2, mk_ia3, mk_ia4, mk_ia5, mk_ia6, mk_ia7, mk_ia8, mk_ia9, mk_ia10, mk_ia11, mk_ia12, mk_ia13, mk_ia14, mk_ia15, mk_ia16, mk_is1, mk_is2, mk_is3, mk_is4, mk_is5, mk_is6, mk_is7, mk_is8, mk_is9, mk_is10, mk_is11, mk_is12, mk_is13, mk_is14, mk_is15, mk_is16, L0, L1, L2, L3, L4, L5, L6, L7, L8, L9, L10, L12, L20, L22, L24, L26, L27, L28, L32, L40, L60, L73, L95, L97, L222, L240, L441, L442, L622, Lm1, Lmh, L11, L13, L14, L15, L16, L17, L18, L19, L21, L23, L25, L30, L31, L33, L36, L39, L41, L44, L48, L53, L54, L55, L57, L58, L59, L91, L93, L98, L99, L100, L105, L106, L112, L114, L115, L119, L122, L160, L180, L200, L255, L1440, L24880, L63, Lm2, pX10_comparesMark_l12b, c1]
        rw [show i = 21 by omega, nn lA, nn lB, zz]
        by_cases d : z = 0
        · simp [d]
        · simp [d]
      · by_cases d : z = 0
        · subst d
          have bc := atD_bd oA i
          have bd' := atD_bd oB i
          have e1 := m_fol (n := n) (M := M) (am := am) hN ho hw (by omega) hkl (show p ≤ 20 by omega) (show i ≤ 20 by omega)
          rw [hA] at e1
          have fin : ∀ y : Int, y = atD B i → pX10_comparesMark_l12 n r (mk M am m) am (iI k) (iI p) (iI (222 + 73 * c)) (iI (ordZ (atD A i) y)) (iI ((i : Int) + 1)) = pX10_comparesMark_l78 n n (mk M am m) am (iI k) (iI p) (iI (222 + 73 * c)) (iI (if ((0 : Int) ≠ 0) then 0 else cmpL (A.drop i) (B.drop i))) (iI 0) := by
            intro y hy
            rw [hy, show ((i : Int) + 1) = ((i + 1 : Nat) : Int) by omega, ih (i + 1) (by omega) (by omega) _ (ordZ_bd _ _), ord_atD oA oB i]
            by_cases f : ordZ (atD A i) (atD B i) = 0
            · simp [f]
            · simp [f]
          by_cases g : (B.length : Int) ≤ i
          · simp (disch := (first | assumption | (refine sm_of ?_ ?_ <;> omega) | omega)) only [iI_add, iI_sub, iI_mul, iI_neg, iI_lt, iI_le, iI_eq, b1_s, b2_s, ↓reduceIte, mk_v, mk_gl23, mk_pl23, mk_gr1, mk_gr5, mk_gr6, mk_gr8, mk_gr9, mk_gr11, mk_gr13, mk_gr14, mk_gr15, mk_gr17, mk_gr18, mk_gr21, mk_gr24, mk_gr28, mk_gr30, mk_gr31, mk_gi0, mk_gi2, mk_gi3, mk_gi4, mk_gi7, mk_gi10, mk_gi12, mk_gi16, mk_gi19, mk_gi20, mk_gi22, mk_gi25, mk_gi26, mk_gi27, mk_gi29, mk_gi32, mk_pi0, mk_pi2, mk_pi3, mk_pi4, mk_pi7, mk_pi10, mk_pi12, mk_pi16, mk_pi19, mk_pi20, mk_pi22, mk_pi25, mk_pi26, mk_pi27, mk_pi29, mk_pi32, mk_ia1, mk_ia2, mk_ia3, mk_ia4, mk_ia5, mk_ia6, mk_ia7, mk_ia8, mk_ia9, mk_ia10, mk_ia11, mk_ia12, mk_ia13, mk_ia14, mk_ia15, mk_ia16, mk_is1, mk_is2, mk_is3, mk_is4, mk_is5, mk_is6, mk_is7, mk_is8, mk_is9, mk_is10, mk_is11, mk_is12, mk_is13, mk_is14, mk_is15, mk_is16, L0, L1, L2, L3, L4, L5, L6, L7, L8, L9, L10, L12, L20, L22, L24, L26, L27, L28, L32, L40, L60, L73, L95, L97, L222, L240, L441, L442, L622, Lm1, Lmh, L11, L13, L14, L15, L16, L17, L18, L19, L21, L23, L25, L30, L31, L33, L36, L39, L41, L44, L48, L53, L54, L55, L57, L58, L59, L91, L93, L98, L99, L100, L105, L106, L112, L114, L115, L119, L122, L160, L180, L200, L255, L1440, L24880, L63, Lm2, pX10_comparesMark_l12b, c1, e1, v3, g, m_ord]
            exact fin (-1) (by unfold atD; rw [List.getElem?_eq_none (by omega)])
          · have rd := v4 i (by omega)
            have ad : atD B i = dec (B.getD i 0) := by unfold atD; rw [List.getElem?_eq_getElem (by omega), getD_of (by omega)]
            rw [← ad] at rd
            simp (disch := (first | assumption | (refine sm_of ?_ ?_ <;> omega) | omega)) only [iI_add, iI_sub, iI_mul, iI_neg, iI_lt, iI_le, iI_eq, b1_s, b2_s, ↓reduceIte, mk_v, mk_gl23, mk_pl23, mk_gr1, mk_gr5, mk_gr6, mk_gr8, mk_gr9, mk_gr11, mk_gr13, mk_gr14, mk_gr15, mk_gr17, mk_gr18, mk_gr21, mk_gr24, mk_gr28, mk_gr30, mk_gr31, mk_gi0, mk_gi2, mk_gi3, mk_gi4, mk_gi7, mk_gi10, mk_gi12, mk_gi16, mk_gi19, mk_gi20, mk_gi22, mk_gi25, mk_gi26, mk_gi27, mk_gi29, mk_gi32, mk_pi0, mk_pi2, mk_pi3, mk_pi4, mk_pi7, mk_pi10, mk_pi12, mk_pi16, mk_pi19, mk_pi20, mk_pi22, mk_pi25, mk_pi26, mk_pi27, mk_pi29, mk_pi32, mk_ia1, mk_ia2, mk_ia3, mk_ia4, mk_ia5, mk_ia6, mk_ia7, mk_ia8, mk_ia9, mk_ia10, mk_ia11, mk_ia12, mk_ia13, mk_ia14, mk_ia15, mk_ia16, mk_is1, mk_is2, mk_is3, mk_is4, mk_is5, mk_is6, mk_is7, mk_is8, mk_is9, mk_is10, mk_is11, mk_is12, mk_is13, mk_is14, mk_is15, mk_is16, L0, L1, L2, L3, L4, L5, L6, L7, L8, L9, L10, L12, L20, L22, L24, L26, L27, L28, L32, L40, L60, L73, L95, L97, L222, L240, L441, L442, L622, Lm1, Lmh, L11, L13, L14, L15, L16, L17, L18, L19, L21, L23, L25, L30, L31, L33, L36, L39, L41, L44, L48, L53, L54, L55, L57, L58, L59, L91, L93, L98, L99, L100, L105, L106, L112, L114, L115, L119, L122, L160, L180, L200, L255, L1440, L24880, L63, Lm2, pX10_comparesMark_l12b, c1, e1, v3, g, rd, m_ord]
            exact fin _ rfl
        · simp (disch := (first | assumption | (refine sm_of ?_ ?_ <;> omega) | omega)) only [iI_add, iI_sub, iI_mul, iI_neg, iI_lt, iI_le, iI_eq, b1_s, b2_s, ↓reduceIte, mk_v, mk_gl23, mk_pl23, mk_gr1, mk_gr5, mk_gr6, mk_gr8, mk_gr9, mk_gr11, mk_gr13, mk_gr14, mk_gr15, mk_gr17, mk_gr18, mk_gr21, mk_gr24, mk_gr28, mk_gr30, mk_gr31, mk_gi0, mk_gi2, mk_gi3, mk_gi4, mk_gi7, mk_gi10, mk_gi12, mk_gi16, mk_gi19, mk_gi20, mk_gi22, mk_gi25, mk_gi26, mk_gi27, mk_gi29, mk_gi32, mk_pi0, mk_pi2, mk_pi3, mk_pi4, mk_pi7, mk_pi10, mk_pi12, mk_pi16, mk_pi19, mk_pi20, mk_pi22, mk_pi25, mk_pi26, mk_pi27, mk_pi29, mk_pi32, mk_ia1, mk_ia2, mk_ia3, mk_ia4, mk_ia5, mk_ia6, mk_ia7, mk_ia8, mk_ia9, mk_ia10, mk_ia11, mk_ia12, mk_ia13, mk_ia14, mk_ia15, mk_ia16, mk_is1, mk_is2, mk_is3, mk_is4, mk_is5, mk_is6, mk_is7, mk_is8, mk_is9, mk_is10, mk_is11, mk_is12, mk_is13, mk_is14, mk_is15, mk_is16, L0, L1, L2, L3, L4, L5, L6, L7, L8, L9, L10, L12, L20, L22, L24, L26, L27, L28, L32, L40, L60, L73, L95, L97, L222, L240, L441, L442, L622, Lm1, Lmh, L11, L13, L14, L15, L16, L17, L18, L19, L21, L23, L25, L30, L31, L33, L36, L39, L41, L44, L48, L53, L54, L55, L57, L58, L59, L91, L93, L98, L99, L100, L105, L106, L112, L114, L115, L119, L122, L160, L180, L200, L255, L1440, L24880, L63, Lm2, pX10_comparesMark_l12b, c1, d]
          simp [d]
  simp (disch := (first | assumption | (refine sm_of ?_ ?_ <;> omega) | omega)) only [iI_add, iI_sub, iI_mul, iI_neg, iI_lt, iI_le, iI_eq, b1_s, b2_s, ↓reduceIte, mk_v, mk_gl23, mk_pl23, mk_gr1, mk_gr5, mk_gr6, mk_gr8, mk_gr9, mk_gr11, mk_gr13, mk_gr14, mk_gr15, mk_gr17, mk_gr18, mk_gr21, mk_gr24, mk_gr28, mk_gr30, mk_gr31, mk_gi0, mk_gi2, mk_gi3, mk_gi4, mk_gi7, mk_gi10, mk_gi12, mk_gi16, mk_gi19, mk_gi20, mk_gi22, mk_gi25, mk_gi26, mk_gi27, mk_gi29, mk_gi32, mk_pi0, mk_pi2, mk_pi3, mk_pi4, mk_pi7, mk_pi10, mk_pi12, mk_pi16, mk_pi19, mk_pi20, mk_pi22, mk_pi25, mk_pi26, mk_pi27, mk_pi29, mk_pi32, mk_ia1, mk_ia2, mk_ia3, mk_ia4, mk_ia5, mk_ia6, mk_ia7, mk_ia8, mk_ia9, mk_ia10, mk_ia11, mk_ia12, mk_ia13, mk_ia14, mk_ia15, mk_ia16, mk_is1, mk_is2, mk_is3, mk_is4, mk_is5, mk_is6, mk_is7, mk_is8, mk_is9, mk_is10, mk_is11, mk_is12, mk_is13, mk_is14, mk_is15, mk_is16, L0, L1, L2, L3, L4, L5, L6, L7, L8, L9, L10, L12, L20, L22, L24, L26, L27, L28, L32, L40, L60, L73, L95, L97, L222, L240, L441, L442, L622, Lm1, Lmh, L11, L13, L14, L15, L16, L17, L18, L19, L21, L23, L25, L30, L31, L33, L36, L39, L41, L44, L48, L53, L54, L55, L57, L58, L59, L91, L93, L98, L99, L100, L105, L106, L112, L114, L115, L119, L122, L160, L180, L200, L255, L1440, L24880, L63, Lm2, pX10_comparesMark, pX10_cursorAt]
  have e1 := l1 n 0 (by omega) (by omega) 0 (by omega)
  have e2 := l2 n 0 (by omega) (by omega) (cmpL A B) cAB
  simp only [List.drop_zero, ne_eq, not_true_eq_false, if_false] at e1 e2
  rw [show ((0 : Nat) : Int) = 0 from rfl] at e1 e2
  rw [e1, e2, tail _ (by split <;> omega)]
  unfold cmpS
  rw [hA, hB, hC, hD]
  by_cases f : cmpL A B = 0
  · simp [f]
  · simp [f]
theorem m_first {n : Nat} (hn : 300 ≤ n) {M : mm_M} {am : Nat} {m : mS} {ls : List kL} (hN : NwL (m.1 7) ls) (ho : okL ls) (hd : numD ls) {c : Nat} (hc : c < 3) {u : kU} (hU : NwU (m.1 7) (222 + 73 * c) u) (hk : okU u) (hsz : u.2.1 ≠ 0) : ∃ m' fi, pX10_firstLeft n (mk M am m) am (iI c) = some (iI (fi : Nat), mk M am m') ∧ Hl m' (fbL ls u.1 ls.length) ∧ okH ls (fbL ls u.1 ls.length) ∧ sx m m' ∧ m'.1 0 20 = u.1.length ∧ fi ≤ (fbL ls u.1 ls.length).length ∧ ahL ls u = (fbL ls u.1 ls.length).drop fi := by
  obtain ⟨w1, w2, w3⟩ := hk.2.2.1 hsz
  obtain ⟨u1, u2, u3, u4, u5, u6, u7, u8⟩ := hU.2 hsz
  obtain ⟨m1, e1, h1, ok1, x1, f20⟩ := m_lays hn (M := M) (am := am) hN ho w3 (by omega) (j := 7) (by omega) (by omega) (by omega) (by omega) (o := 222 + 73 * c + 1) (by omega) (by simp only [mz]; omega) (by simp [mz]) u2
  have e7 : m1.1 7 = m.1 7 := x1.2.1 7 (by decide) (by decide) (by decide)
  have hN1 : NwL (m1.1 7) ls := by rw [e7]; exact hN
  have hU1 : NwU (m1.1 7) (222 + 73 * c) u := by rw [e7]; exact hU
  rw [← e7] at u4
  obtain ⟨hl, h19, hA⟩ := h1
  generalize hL : fbL ls u.1 ls.length = L at *
  have start : pX10_firstLeft n (mk M am m) am (iI c) = pX10_firstLeft_l26 n n (mk M am m1) am (iI c) (iI (222 + 73 * c)) (iI 0) := by
    simp (disch := (first | assumption | (refine sm_of ?_ ?_ <;> omega) | omega)) only [iI_add, iI_sub, iI_mul, iI_neg, iI_lt, iI_le, iI_eq, b1_s, b2_s, ↓reduceIte, mk_v, mk_gl23, mk_pl23, mk_gr1, mk_gr5, mk_gr6, mk_gr8, mk_gr9, mk_gr11, mk_gr13, mk_gr14, mk_gr15, mk_gr17, mk_gr18, mk_gr21, mk_gr24, mk_gr28, mk_gr30, mk_gr31, mk_gi0, mk_gi2, mk_gi3, mk_gi4, mk_gi7, mk_gi10, mk_gi12, mk_gi16, mk_gi19, mk_gi20, mk_gi22, mk_gi25, mk_gi26, mk_gi27, mk_gi29, mk_gi32, mk_pi0, mk_pi2, mk_pi3, mk_pi4, mk_pi7, mk_pi10, mk_pi12, mk_pi16, mk_pi19, mk_pi20, mk_pi22, mk_pi25, mk_pi26, mk_pi27, mk_pi29, mk_pi32, mk_ia1, mk_ia2, mk_ia3, mk_ia4, mk_ia5, mk_ia6, mk_ia7, mk_ia8, mk_ia9, mk_ia10, mk_ia11, mk_ia12, mk_ia13, mk_ia14, mk_ia15, mk_ia16, mk_is1, mk_is2, mk_is3, mk_is4, mk_is5, mk_is6, mk_is7, mk_is8, mk_is9, mk_is10, mk_is11, mk_is12, mk_is13, mk_is14, mk_is15, mk_is16, L0, L1, L2, L3, L4, L5, L6, L7, L8, L9, L10, L12, L20, L22, L24, L26, L27, L28, L32, L40, L60, L73, L95, L97, L222, L240, L441, L442, L622, Lm1, Lmh, L11, L13, L14, L15, L16, L17, L18, L19, L21, L23, L25, L30, L31, L33, L36, L39, L41, L44, L48, L53, L54, L55, L57, L58, L59, L91, L93, L98, L99, L100, L105, L106, L112, L114, L115, L119, L122, L160, L180, L200, L255, L1440, L24880, L63, Lm2, pX10_firstLeft, pX10_cursorAt, Int.add_zero, u1, e1]
  rw [start]
  have ad := ah_drop hd u
  rw [hL] at ad
  by_cases mk1 : u.2.2.1 = true
  · rw [if_pos mk1] at u4
    have loop : ∀ (q i : Nat), i ≤ L.length → L.length < i + q → ahL ls u = (L.drop i).dropWhile (fun h => !(!u.2.2.1 || decide (0 < cmpH u.1.length h.2 (lnN ls h.1).1 (lnN ls h.1).2 u.2.2.2.2.2.1 u.2.2.2.1 u.2.2.2.2.1))) → ∃ fi, pX10_firstLeft_l26 n q (mk M am m1) am (iI c) (iI (222 + 73 * c)) (iI i) = some (iI (fi : Nat), mk M am m1) ∧ fi ≤ L.length ∧ ahL ls u = L.drop fi := by
      intro q
      induction q with
      | zero => intro i z1 z2; omega
      | succ q ih =>
        intro i z1 z2 z3
        show ∃ fi, pX10_firstLeft_l26b n (pX10_firstLeft_l26 n q) (mk M am m1) am _ _ _ = _ ∧ _
        by_cases d : (L.length : Int) ≤ i
        · refine ⟨i, ?_, z1, ?_⟩
          · simp (disch := (first | assumption | (refine sm_of ?_ ?_ <;> omega) | omega)) only [iI_add, iI_sub, iI_mul, iI_neg, iI_lt, iI_le, iI_eq, b1_s, b2_s, ↓reduceIte, mk_v, mk_gl23, mk_pl23, mk_gr1, mk_gr5, mk_gr6, mk_gr8, mk_gr9, mk_gr11, mk_gr13, mk_gr14, mk_gr15, mk_gr17, mk_gr18, mk_gr21, mk_gr24, mk_gr28, mk_gr30, mk_gr31, mk_gi0, mk_gi2, mk_gi3, mk_gi4, mk_gi7, mk_gi10, mk_gi12, mk_gi16, mk_gi19, mk_gi20, mk_gi22, mk_gi25, mk_gi26, mk_gi27, mk_gi29, mk_gi32, mk_pi0, mk_pi2, mk_pi3, mk_pi4, mk_pi7, mk_pi10, mk_pi12, mk_pi16, mk_pi19, mk_pi20, mk_pi22, mk_pi25, mk_pi26, mk_pi27, mk_pi29, mk_pi32, mk_ia1, mk_ia2, mk_ia3, mk_ia4, mk_ia5, mk_ia6, mk_ia7, mk_ia8, mk_ia9, mk_ia10, mk_ia11, mk_ia12, mk_ia13, mk_ia14, mk_ia15, mk_ia16, mk_is1, mk_is2, mk_is3, mk_is4, mk_is5, mk_is6, mk_is7, mk_is8, mk_is9, mk_is10, mk_is11, mk_is12, mk_is13, mk_is14, mk_is15, mk_is16, L0, L1, L2, L3, L4, L5, L6, L7, L8, L9, L10, L12, L20, L22, L24, L26, L27, L28, L32, L40, L60, L73, L95, L97, L222, L240, L441, L442, L622, Lm1, Lmh, L11, L13, L14, L15, L16, L17, L18, L19, L21, L23, L25, L30, L31, L33, L36, L39, L41, L44, L48, L53, L54, L55, L57, L58, L59, L91, L93, L98, L99, L100, L105, L106, L112, L114, L115, L119, L122, L160, L180, L200, L255, L1440, L24880, L63, Lm2, pX10_firstLeft_l26b, u4, h19, d]
          · rw [z3, List.drop_eq_nil_of_le (by omega)]; rfl
        · have hi : i < L.length := by omega
          obtain ⟨y1, y2⟩ := hA i hi
          have ok := ok1.get (j := i) hi
          generalize hx : L.getD i (0, 0) = x at *
          have lx := (ho.2 x.1 ok.1).2.1
          have c10 := ho.1
          have cm := m_cmpM (show 60 ≤ n by omega) (M := M) (am := am) hN1 ho hc hU1 hk hsz mk1 f20 ok.1 (Nat.le_of_lt ok.2)
          have cb := cmpS_bd u.1.length x.2 (lnN ls x.1).1 (lnN ls x.1).2 u.2.2.2.2.2.1 u.2.2.2.1 u.2.2.2.2.1
          have cl := (cmpS_lt u.1.length x.2 (lnN ls x.1).1 (lnN ls x.1).2 u.2.2.2.2.2.1 u.2.2.2.1 u.2.2.2.2.1).2
          have hx' : L[i] = x := by rw [← hx, List.getD_eq_getElem?_getD, List.getElem?_eq_getElem hi]; rfl
          rw [List.drop_eq_getElem_cons hi, hx', List.dropWhile_cons] at z3
          simp (disch := (first | assumption | (refine sm_of ?_ ?_ <;> omega) | omega)) only [iI_add, iI_sub, iI_mul, iI_neg, iI_lt, iI_le, iI_eq, b1_s, b2_s, ↓reduceIte, mk_v, mk_gl23, mk_pl23, mk_gr1, mk_gr5, mk_gr6, mk_gr8, mk_gr9, mk_gr11, mk_gr13, mk_gr14, mk_gr15, mk_gr17, mk_gr18, mk_gr21, mk_gr24, mk_gr28, mk_gr30, mk_gr31, mk_gi0, mk_gi2, mk_gi3, mk_gi4, mk_gi7, mk_gi10, mk_gi12, mk_gi16, mk_gi19, mk_gi20, mk_gi22, mk_gi25, mk_gi26, mk_gi27, mk_gi29, mk_gi32, mk_pi0, mk_pi2, mk_pi3, mk_pi4, mk_pi7, mk_pi10, mk_pi12, mk_pi16, mk_pi19, mk_pi20, mk_pi22, mk_pi25, mk_pi26, mk_pi27, mk_pi29, mk_pi32, mk_ia1, mk_ia2, mk_ia3, mk_ia4, mk_ia5, mk_ia6, mk_ia7, mk_ia8, mk_ia9, mk_ia10, mk_ia11, mk_ia12, mk_ia13, mk_ia14, mk_ia15, mk_ia16, mk_is1, mk_is2, mk_is3, mk_is4, mk_is5, mk_is6, mk_is7, mk_is8, mk_is9, mk_is10, mk_is11, mk_is12, mk_is13, mk_is14, mk_is15, mk_is16, L0, L1, L2, L3, L4, L5, L6, L7, L8, L9, L10, L12, L20, L22, L24, L26, L27, L28, L32, L40, L60, L73, L95, L97, L222, L240, L441, L442, L622, Lm1, Lmh, L11, L13, L14, L15, L16, L17, L18, L19, L21, L23, L25, L30, L31, L33, L36, L39, L41, L44, L48, L53, L54, L55, L57, L58, L59, L91, L93, L98, L99, L100, L105, L106, L112, L114, L115, L119, L122, L160, L180, L200, L255, L1440, L24880, L63, Lm2, pX10_firstLeft_l26b, u4, h19, d, y1, y2, cm]
          by_cases g : 0 < cmpS u.1.length x.2 (lnN ls x.1).1 (lnN ls x.1).2 u.2.2.2.2.2.1 u.2.2.2.1 u.2.2.2.2.1
          · rw [if_pos g]
            refine ⟨i, rfl, z1, ?_⟩
            rw [z3, decide_eq_true (cl.mp g)]
            simp
            rw [List.drop_eq_getElem_cons hi, hx']
          · rw [if_neg g]
            have : decide (0 < cmpH u.1.length x.2 (lnN ls x.1).1 (lnN ls x.1).2 u.2.2.2.2.2.1 u.2.2.2.1 u.2.2.2.2.1) = false := decide_eq_false (fun q => g (cl.mpr q))
            rw [this, mk1] at z3
            simp only [Bool.not_true, Bool.or_false, Bool.not_false, if_true] at z3
            rw [show ((i : Int) + 1) = ((i + 1 : Nat) : Int) by omega]
            refine ih (i + 1) (by omega) (by omega) ?_
            rw [z3, mk1]; simp
    obtain ⟨fi, e2, z1, z2⟩ := loop n 0 (by omega) (by omega) (by rw [List.drop_zero]; exact ad)
    exact ⟨m1, fi, e2, ⟨hl, h19, hA⟩, ok1, x1, f20, z1, z2⟩
  · rw [if_neg mk1] at u4
    refine ⟨m1, 0, ?_, ⟨hl, h19, hA⟩, ok1, x1, f20, by omega, ?_⟩
    · obtain ⟨q', rfl⟩ : ∃ q', n = q' + 1 := ⟨n - 1, by omega⟩
      show pX10_firstLeft_l26b _ (pX10_firstLeft_l26 _ q') (mk M am m1) am _ _ _ = _
      simp (disch := (first | assumption | (refine sm_of ?_ ?_ <;> omega) | omega)) only [iI_add, iI_sub, iI_mul, iI_neg, iI_lt, iI_le, iI_eq, b1_s, b2_s, ↓reduceIte, mk_v, mk_gl23, mk_pl23, mk_gr1, mk_gr5, mk_gr6, mk_gr8, mk_gr9, mk_gr11, mk_gr13, mk_gr14, mk_gr15, mk_gr17, mk_gr18, mk_gr21, mk_gr24, mk_gr28, mk_gr30, mk_gr31, mk_gi0, mk_gi2, mk_gi3, mk_gi4, mk_gi7, mk_gi10, mk_gi12, mk_gi16, mk_gi19, mk_gi20, mk_gi22, mk_gi25, mk_gi26, mk_gi27, mk_gi29, mk_gi32, mk_pi0, mk_pi2, mk_pi3, mk_pi4, mk_pi7, mk_pi10, mk_pi12, mk_pi16, mk_pi19, mk_pi20, mk_pi22, mk_pi25, mk_pi26, mk_pi27, mk_pi29, mk_pi32, mk_ia1, mk_ia2, mk_ia3, mk_ia4, mk_ia5, mk_ia6, mk_ia7, mk_ia8, mk_ia9, mk_ia10, mk_ia11, mk_ia12, mk_ia13, mk_ia14, mk_ia15, mk_ia16, mk_is1, mk_is2, mk_is3, mk_is4, mk_is5, mk_is6, mk_is7, mk_is8, mk_is9, mk_is10, mk_is11, mk_is12, mk_is13, mk_is14, mk_is15, mk_is16, L0, L1, L2, L3, L4, L5, L6, L7, L8, L9, L10, L12, L20, L22, L24, L26, L27, L28, L32, L40, L60, L73, L95, L97, L222, L240, L441, L442, L622, Lm1, Lmh, L11, L13, L14, L15, L16, L17, L18, L19, L21, L23, L25, L30, L31, L33, L36, L39, L41, L44, L48, L53, L54, L55, L57, L58, L59, L91, L93, L98, L99, L100, L105, L106, L112, L114, L115, L119, L122, L160, L180, L200, L255, L1440, L24880, L63, Lm2, pX10_firstLeft_l26b, u4]
      rw [if_neg (by omega)]; rfl
    · unfold ahL
      rw [hL, List.drop_zero]
      have : u.2.2.1 = false := by simpa using mk1
      rw [List.filter_eq_self.mpr (fun y _ => by rw [this]; rfl)]
theorem m_left {n : Nat} (hn : 300 ≤ n) {M : mm_M} {am : Nat} {m : mS} {ls : List kL} (hN : NwL (m.1 7) ls) (ho : okL ls) (hd : numD ls) {c : Nat} (hc : c < 3) {u : kU} (hU : NwU (m.1 7) (222 + 73 * c) u) (hk : okU u) (hsz : u.2.1 ≠ 0) : ∃ m', pX10_leftOf n (mk M am m) am (iI c) = some (iI (leftL ls u), mk M am m') ∧ sx m m' := by
  obtain ⟨m1, fi, e1, h1, ok1, x1, f20, z1, z2⟩ := m_first hn (M := M) (am := am) hN ho hd hc hU hk hsz
  refine ⟨m1, ?_, x1⟩
  have h19 := h1.2.1
  simp (disch := (first | assumption | (refine sm_of ?_ ?_ <;> omega) | omega)) only [iI_add, iI_sub, iI_mul, iI_neg, iI_lt, iI_le, iI_eq, b1_s, b2_s, ↓reduceIte, mk_v, mk_gl23, mk_pl23, mk_gr1, mk_gr5, mk_gr6, mk_gr8, mk_gr9, mk_gr11, mk_gr13, mk_gr14, mk_gr15, mk_gr17, mk_gr18, mk_gr21, mk_gr24, mk_gr28, mk_gr30, mk_gr31, mk_gi0, mk_gi2, mk_gi3, mk_gi4, mk_gi7, mk_gi10, mk_gi12, mk_gi16, mk_gi19, mk_gi20, mk_gi22, mk_gi25, mk_gi26, mk_gi27, mk_gi29, mk_gi32, mk_pi0, mk_pi2, mk_pi3, mk_pi4, mk_pi7, mk_pi10, mk_pi12, mk_pi16, mk_pi19, mk_pi20, mk_pi22, mk_pi25, mk_pi26, mk_pi27, mk_pi29, mk_pi32, mk_ia1, mk_ia2, mk_ia3, mk_ia4, mk_ia5, mk_ia6, mk_ia7, mk_ia8, mk_ia9, mk_ia10, mk_ia11, mk_ia12, mk_ia13, mk_ia14, mk_ia15, mk_ia16, mk_is1, mk_is2, mk_is3, mk_is4, mk_is5, mk_is6, mk_is7, mk_is8, mk_is9, mk_is10, mk_is11, mk_is12, mk_is13, mk_is14, mk_is15, mk_is16, L0, L1, L2, L3, L4, L5, L6, L7, L8, L9, L10, L12, L20, L22, L24, L26, L27, L28, L32, L40, L60, L73, L95, L97, L222, L240, L441, L442, L622, Lm1, Lmh, L11, L13, L14, L15, L16, L17, L18, L19, L21, L23, L25, L30, L31, L33, L36, L39, L41, L44, L48, L53, L54, L55, L57, L58, L59, L91, L93, L98, L99, L100, L105, L106, L112, L114, L115, L119, L122, L160, L180, L200, L255, L1440, L24880, L63, Lm2, pX10_leftOf, e1, h19]
  congr 3
  rw [← ah_len hd, z2, List.length_drop]; omega
