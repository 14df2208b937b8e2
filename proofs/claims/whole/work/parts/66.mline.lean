/-! the reference's lines: laid, copied, put in, taken away, changed about, cut, joined -/
theorem m_laysS {n : Nat} (hn : 60 ≤ n) {M : mm_M} {am : Nat} {m : mS} {xs : List Int} (hx : xs.length ≤ 20) {j : Nat} (hj0 : 0 < j) (hj : j < 17) {o : Int} (ho0 : 0 ≤ o) (ho1 : o + xs.length ≤ mz j) (hz : mz j ≤ 100000) {k : Nat} (hk : k < 10) (hr : ∀ f : Int → Int, (∀ q : Int, (q < 2 + 22 * k + 1 ∨ 2 + 22 * k + 22 ≤ q) → f q = m.1 7 q) → rowA ((setA m 7 f).1 j) o xs) : ∃ nw', pX10_laysSigns n (mk M am m) am (iI k) (am + j) (iI o) (iI xs.length) = some (mk M am (setA m 7 nw')) ∧ nw' (2 + 22 * k + 1) = xs.length ∧ rowA nw' (2 + 22 * k + 2) xs ∧ ∀ q : Int, (q < 2 + 22 * k + 1 ∨ 2 + 22 * k + 22 ≤ q) → nw' q = m.1 7 q := by
  have loop : ∀ (q i : Nat) (f : Int → Int), i ≤ 20 → 20 < i + q → (∀ z : Int, (z < 2 + 22 * k + 1 ∨ 2 + 22 * k + 22 ≤ z) → f z = m.1 7 z) → f (2 + 22 * k + 1) = xs.length → (∀ z : Nat, z < i → z < xs.length → f (2 + 22 * k + 2 + z) = dec (xs.getD z 0)) → ∃ nw', pX10_laysSigns_l16 n q (mk M am (setA m 7 f)) am (iI k) (am + j) (iI o) (iI xs.length) (iI i) = some (mk M am (setA m 7 nw')) ∧ nw' (2 + 22 * k + 1) = xs.length ∧ rowA nw' (2 + 22 * k + 2) xs ∧ ∀ z : Int, (z < 2 + 22 * k + 1 ∨ 2 + 22 * k + 22 ≤ z) → nw' z = m.1 7 z := by
    intro q
    induction q with
    | zero => intro i f h1 h2; omega
    | succ q ih =>
      intro i f h1 h2 h3 h4 h5
      show ∃ nw', pX10_laysSigns_l16b n (pX10_laysSigns_l16 n q) (mk M am (setA m 7 f)) am _ _ _ _ _ = _ ∧ _
      by_cases c : (20 : Int) ≤ i
      · refine ⟨f, ?_, h4, fun z hz => h5 z (by omega) hz, h3⟩
        simp (disch := (first | assumption | (refine sm_of ?_ ?_ <;> omega) | omega)) only [iI_add, iI_sub, iI_mul, iI_neg, iI_lt, iI_le, iI_eq, b1_s, b2_s, ↓reduceIte, mk_v, mk_gl23, mk_pl23, mk_gr1, mk_gr5, mk_gr6, mk_gr8, mk_gr9, mk_gr11, mk_gr13, mk_gr14, mk_gr15, mk_gr17, mk_gr18, mk_gr21, mk_gr24, mk_gr28, mk_gr30, mk_gr31, mk_gi0, mk_gi2, mk_gi3, mk_gi4, mk_gi7, mk_gi10, mk_gi12, mk_gi16, mk_gi19, mk_gi20, mk_gi22, mk_gi25, mk_gi26, mk_gi27, mk_gi29, mk_gi32, mk_pi0, mk_pi2, mk_pi3, mk_pi4, mk_pi7, mk_pi10, mk_pi12, mk_pi16, mk_pi19, mk_pi20, mk_pi22, mk_pi25, mk_pi26, mk_pi27, mk_pi29, mk_pi32, mk_ia1, mk_ia2, mk_ia3, mk_ia4, mk_ia5, mk_ia6, mk_ia7, mk_ia8, mk_ia9, mk_ia10, mk_ia11, mk_ia12, mk_ia13, mk_ia14, mk_ia15, mk_ia16, mk_is1, mk_is2, mk_is3, mk_is4, mk_is5, mk_is6, mk_is7, mk_is8, mk_is9, mk_is10, mk_is11, mk_is12, mk_is13, mk_is14, mk_is15, mk_is16, L0, L1, L2, L3, L4, L5, L6, L7, L8, L9, L10, L12, L20, L22, L24, L26, L27, L28, L32, L40, L60, L73, L95, L97, L222, L240, L441, L442, L622, Lm1, Lmh, L11, L13, L14, L15, L16, L17, L18, L19, L21, L23, L25, L30, L31, L33, L36, L39, L41, L44, L48, L53, L54, L55, L57, L58, L59, L91, L93, L98, L99, L100, L105, L106, L112, L114, L115, L119, L122, L160, L180, L200, L255, L1440, L24880, L63, Lm2, pX10_laysSigns_l16b, c]
      · by_cases d : (xs.length : Int) ≤ i
        · obtain ⟨nw, e1, r1⟩ := ih (i + 1) (upI f (2 + 22 * k + 2 + i) 0) (by omega) (by omega) (fun z hz => by rw [upI_n _ _ (by omega)]; exact h3 z hz) (by rw [upI_n _ _ (by omega)]; exact h4) (fun z z1 z2 => by rw [upI_n _ _ (by omega)]; exact h5 z (by omega) z2)
          refine ⟨nw, ?_, r1⟩
          simp (disch := (first | assumption | (refine sm_of ?_ ?_ <;> omega) | omega)) only [iI_add, iI_sub, iI_mul, iI_neg, iI_lt, iI_le, iI_eq, b1_s, b2_s, ↓reduceIte, mk_v, mk_gl23, mk_pl23, mk_gr1, mk_gr5, mk_gr6, mk_gr8, mk_gr9, mk_gr11, mk_gr13, mk_gr14, mk_gr15, mk_gr17, mk_gr18, mk_gr21, mk_gr24, mk_gr28, mk_gr30, mk_gr31, mk_gi0, mk_gi2, mk_gi3, mk_gi4, mk_gi7, mk_gi10, mk_gi12, mk_gi16, mk_gi19, mk_gi20, mk_gi22, mk_gi25, mk_gi26, mk_gi27, mk_gi29, mk_gi32, mk_pi0, mk_pi2, mk_pi3, mk_pi4, mk_pi7, mk_pi10, mk_pi12, mk_pi16, mk_pi19, mk_pi20, mk_pi22, mk_pi25, mk_pi26, mk_pi27, mk_pi29, mk_pi32, mk_ia1, mk_ia2, mk_ia3, mk_ia4, mk_ia5, mk_ia6, mk_ia7, mk_ia8, mk_ia9, mk_ia10, mk_ia11, mk_ia12, mk_ia13, mk_ia14, mk_ia15, mk_ia16, mk_is1, mk_is2, mk_is3, mk_is4, mk_is5, mk_is6, mk_is7, mk_is8, mk_is9, mk_is10, mk_is11, mk_is12, mk_is13, mk_is14, mk_is15, mk_is16, L0, L1, L2, L3, L4, L5, L6, L7, L8, L9, L10, L12, L20, L22, L24, L26, L27, L28, L32, L40, L60, L73, L95, L97, L222, L240, L441, L442, L622, Lm1, Lmh, L11, L13, L14, L15, L16, L17, L18, L19, L21, L23, L25, L30, L31, L33, L36, L39, L41, L44, L48, L53, L54, L55, L57, L58, L59, L91, L93, L98, L99, L100, L105, L106, L112, L114, L115, L119, L122, L160, L180, L200, L255, L1440, L24880, L63, Lm2, pX10_laysSigns_l16b, pX10_lineAt, c, d, setA_e, setA_setA]
          rw [show ((i : Int) + 1) = ((i + 1 : Nat) : Int) by omega]
          exact e1
        · have rd := hr f h3 i (by omega)
          have s2 := mk_ia M am (setA m 7 f) hj0 hj (i := o + i) (by omega) (by omega) (sm_of (by omega) (by omega))
          rw [rd] at s2
          obtain ⟨nw, e1, r1⟩ := ih (i + 1) (upI f (2 + 22 * k + 2 + i) (dec (xs.getD i 0))) (by omega) (by omega) (fun z hz => by rw [upI_n _ _ (by omega)]; exact h3 z hz) (by rw [upI_n _ _ (by omega)]; exact h4) (fun z z1 z2 => by
            by_cases e : z = i
            · rw [e, upI_e]
            · rw [upI_n _ _ (by omega)]; exact h5 z (by omega) z2)
          refine ⟨nw, ?_, r1⟩
          simp (disch := (first | assumption | (refine sm_of ?_ ?_ <;> omega) | omega)) only [iI_add, iI_sub, iI_mul, iI_neg, iI_lt, iI_le, iI_eq, b1_s, b2_s, ↓reduceIte, mk_v, mk_gl23, mk_pl23, mk_gr1, mk_gr5, mk_gr6, mk_gr8, mk_gr9, mk_gr11, mk_gr13, mk_gr14, mk_gr15, mk_gr17, mk_gr18, mk_gr21, mk_gr24, mk_gr28, mk_gr30, mk_gr31, mk_gi0, mk_gi2, mk_gi3, mk_gi4, mk_gi7, mk_gi10, mk_gi12, mk_gi16, mk_gi19, mk_gi20, mk_gi22, mk_gi25, mk_gi26, mk_gi27, mk_gi29, mk_gi32, mk_pi0, mk_pi2, mk_pi3, mk_pi4, mk_pi7, mk_pi10, mk_pi12, mk_pi16, mk_pi19, mk_pi20, mk_pi22, mk_pi25, mk_pi26, mk_pi27, mk_pi29, mk_pi32, mk_ia1, mk_ia2, mk_ia3, mk_ia4, mk_ia5, mk_ia6, mk_ia7, mk_ia8, mk_ia9, mk_ia10, mk_ia11, mk_ia12, mk_ia13, mk_ia14, mk_ia15, mk_ia16, mk_is1, mk_is2, mk_is3, mk_is4, mk_is5, mk_is6, mk_is7, mk_is8, mk_is9, mk_is10, mk_is11, mk_is12, mk_is13, mk_is14, mk_is15, mk_is16, L0, L1, L2, L3, L4, L5, L6, L7, L8, L9, L10, L12, L20, L22, L24, L26, L27, L28, L32, L40, L60, L73, L95, L97, L222, L240, L441, L442, L622, Lm1, Lmh, L11, L13, L14, L15, L16, L17, L18, L19, L21, L23, L25, L30, L31, L33, L36, L39, L41, L44, L48, L53, L54, L55, L57, L58, L59, L91, L93, L98, L99, L100, L105, L106, L112, L114, L115, L119, L122, L160, L180, L200, L255, L1440, L24880, L63, Lm2, pX10_laysSigns_l16b, pX10_lineAt, c, d, s2, setA_e, setA_setA]
          rw [show ((i : Int) + 1) = ((i + 1 : Nat) : Int) by omega]
          exact e1
  obtain ⟨nw, e1, r1⟩ := loop n 0 (upI (m.1 7) (2 + 22 * k + 1) xs.length) (by omega) (by omega) (fun z hz => by rw [upI_n _ _ (by omega)]) (by rw [upI_e]) (fun z z1 z2 => by omega)
  refine ⟨nw, ?_, r1⟩
  simp (disch := (first | assumption | (refine sm_of ?_ ?_ <;> omega) | omega)) only [iI_add, iI_sub, iI_mul, iI_neg, iI_lt, iI_le, iI_eq, b1_s, b2_s, ↓reduceIte, mk_v, mk_gl23, mk_pl23, mk_gr1, mk_gr5, mk_gr6, mk_gr8, mk_gr9, mk_gr11, mk_gr13, mk_gr14, mk_gr15, mk_gr17, mk_gr18, mk_gr21, mk_gr24, mk_gr28, mk_gr30, mk_gr31, mk_gi0, mk_gi2, mk_gi3, mk_gi4, mk_gi7, mk_gi10, mk_gi12, mk_gi16, mk_gi19, mk_gi20, mk_gi22, mk_gi25, mk_gi26, mk_gi27, mk_gi29, mk_gi32, mk_pi0, mk_pi2, mk_pi3, mk_pi4, mk_pi7, mk_pi10, mk_pi12, mk_pi16, mk_pi19, mk_pi20, mk_pi22, mk_pi25, mk_pi26, mk_pi27, mk_pi29, mk_pi32, mk_ia1, mk_ia2, mk_ia3, mk_ia4, mk_ia5, mk_ia6, mk_ia7, mk_ia8, mk_ia9, mk_ia10, mk_ia11, mk_ia12, mk_ia13, mk_ia14, mk_ia15, mk_ia16, mk_is1, mk_is2, mk_is3, mk_is4, mk_is5, mk_is6, mk_is7, mk_is8, mk_is9, mk_is10, mk_is11, mk_is12, mk_is13, mk_is14, mk_is15, mk_is16, L0, L1, L2, L3, L4, L5, L6, L7, L8, L9, L10, L12, L20, L22, L24, L26, L27, L28, L32, L40, L60, L73, L95, L97, L222, L240, L441, L442, L622, Lm1, Lmh, L11, L13, L14, L15, L16, L17, L18, L19, L21, L23, L25, L30, L31, L33, L36, L39, L41, L44, L48, L53, L54, L55, L57, L58, L59, L91, L93, L98, L99, L100, L105, L106, L112, L114, L115, L119, L122, L160, L180, L200, L255, L1440, L24880, L63, Lm2, pX10_laysSigns, pX10_lineAt]
  exact e1
theorem m_copyL {n : Nat} (hn : 60 ≤ n) {M : mm_M} {am : Nat} {m : mS} {s t : Nat} (hs : s < 10) (ht : t < 10) (hne : s ≠ t) : ∃ nw', pX10_copiesLine n (mk M am m) am (iI s) (iI t) = some (mk M am (setA m 7 nw')) ∧ ∀ q : Int, nw' q = if 2 + 22 * (t : Int) ≤ q ∧ q < 2 + 22 * t + 22 then m.1 7 (q + 22 * ((s : Int) - t)) else m.1 7 q := by
  have loop : ∀ (q i : Nat) (f : Int → Int), i ≤ 22 → 22 < i + q → (∀ z : Int, f z = if 2 + 22 * (t : Int) ≤ z ∧ z < 2 + 22 * t + i then m.1 7 (z + 22 * ((s : Int) - t)) else m.1 7 z) → ∃ nw', pX10_copiesLine_l2 n q (mk M am (setA m 7 f)) am (iI s) (iI t) (iI i) = some (mk M am (setA m 7 nw')) ∧ ∀ z : Int, nw' z = if 2 + 22 * (t : Int) ≤ z ∧ z < 2 + 22 * t + 22 then m.1 7 (z + 22 * ((s : Int) - t)) else m.1 7 z := by
    intro q
    induction q with
    | zero => intro i f h1 h2; omega
    | succ q ih =>
      intro i f h1 h2 h3
      show ∃ nw', pX10_copiesLine_l2b n (pX10_copiesLine_l2 n q) (mk M am (setA m 7 f)) am _ _ _ = _ ∧ _
      by_cases c : (22 : Int) ≤ i
      · refine ⟨f, ?_, fun z => ?_⟩
        · simp (disch := (first | assumption | (refine sm_of ?_ ?_ <;> omega) | omega)) only [iI_add, iI_sub, iI_mul, iI_neg, iI_lt, iI_le, iI_eq, b1_s, b2_s, ↓reduceIte, mk_v, mk_gl23, mk_pl23, mk_gr1, mk_gr5, mk_gr6, mk_gr8, mk_gr9, mk_gr11, mk_gr13, mk_gr14, mk_gr15, mk_gr17, mk_gr18, mk_gr21, mk_gr24, mk_gr28, mk_gr30, mk_gr31, mk_gi0, mk_gi2, mk_gi3, mk_gi4, mk_gi7, mk_gi10, mk_gi12, mk_gi16, mk_gi19, mk_gi20, mk_gi22, mk_gi25, mk_gi26, mk_gi27, mk_gi29, mk_gi32, mk_pi0, mk_pi2, mk_pi3, mk_pi4, mk_pi7, mk_pi10, mk_pi12, mk_pi16, mk_pi19, mk_pi20, mk_pi22, mk_pi25, mk_pi26, mk_pi27, mk_pi29, mk_pi32, mk_ia1, mk_ia2, mk_ia3, mk_ia4, mk_ia5, mk_ia6, mk_ia7, mk_ia8, mk_ia9, mk_ia10, mk_ia11, mk_ia12, mk_ia13, mk_ia14, mk_ia15, mk_ia16, mk_is1, mk_is2, mk_is3, mk_is4, mk_is5, mk_is6, mk_is7, mk_is8, mk_is9, mk_is10, mk_is11, mk_is12, mk_is13, mk_is14, mk_is15, mk_is16, L0, L1, L2, L3, L4, L5, L6, L7, L8, L9, L10, L12, L20, L22, L24, L26, L27, L28, L32, L40, L60, L73, L95, L97, L222, L240, L441, L442, L622, Lm1, Lmh, L11, L13, L14, L15, L16, L17, L18, L19, L21, L23, L25, L30, L31, L33, L36, L39, L41, L44, L48, L53, L54, L55, L57, L58, L59, L91, L93, L98, L99, L100, L105, L106, L112, L114, L115, L119, L122, L160, L180, L200, L255, L1440, L24880, L63, Lm2, pX10_copiesLine_l2b, c]
        · rw [h3 z, show i = 22 by omega]; rfl
      · obtain ⟨nw, e1, r1⟩ := ih (i + 1) (upI f (2 + 22 * t + i) (f (2 + 22 * s + i))) (by omega) (by omega) (fun z => by
          by_cases e : z = 2 + 22 * t + i
          · rw [e, upI_e, if_pos (by omega), h3, if_neg (by omega)]; exact congrArg (m.1 7) (by omega)
          · rw [upI_n _ _ e, h3 z]
            by_cases g : 2 + 22 * (t : Int) ≤ z ∧ z < 2 + 22 * t + i
            · rw [if_pos g, if_pos (by omega)]
            · rw [if_neg g, if_neg (by omega)])
        refine ⟨nw, ?_, r1⟩
        simp (disch := (first | assumption | (refine sm_of ?_ ?_ <;> omega) | omega)) only [iI_add, iI_sub, iI_mul, iI_neg, iI_lt, iI_le, iI_eq, b1_s, b2_s, ↓reduceIte, mk_v, mk_gl23, mk_pl23, mk_gr1, mk_gr5, mk_gr6, mk_gr8, mk_gr9, mk_gr11, mk_gr13, mk_gr14, mk_gr15, mk_gr17, mk_gr18, mk_gr21, mk_gr24, mk_gr28, mk_gr30, mk_gr31, mk_gi0, mk_gi2, mk_gi3, mk_gi4, mk_gi7, mk_gi10, mk_gi12, mk_gi16, mk_gi19, mk_gi20, mk_gi22, mk_gi25, mk_gi26, mk_gi27, mk_gi29, mk_gi32, mk_pi0, mk_pi2, mk_pi3, mk_pi4, mk_pi7, mk_pi10, mk_pi12, mk_pi16, mk_pi19, mk_pi20, mk_pi22, mk_pi25, mk_pi26, mk_pi27, mk_pi29, mk_pi32, mk_ia1, mk_ia2, mk_ia3, mk_ia4, mk_ia5, mk_ia6, mk_ia7, mk_ia8, mk_ia9, mk_ia10, mk_ia11, mk_ia12, mk_ia13, mk_ia14, mk_ia15, mk_ia16, mk_is1, mk_is2, mk_is3, mk_is4, mk_is5, mk_is6, mk_is7, mk_is8, mk_is9, mk_is10, mk_is11, mk_is12, mk_is13, mk_is14, mk_is15, mk_is16, L0, L1, L2, L3, L4, L5, L6, L7, L8, L9, L10, L12, L20, L22, L24, L26, L27, L28, L32, L40, L60, L73, L95, L97, L222, L240, L441, L442, L622, Lm1, Lmh, L11, L13, L14, L15, L16, L17, L18, L19, L21, L23, L25, L30, L31, L33, L36, L39, L41, L44, L48, L53, L54, L55, L57, L58, L59, L91, L93, L98, L99, L100, L105, L106, L112, L114, L115, L119, L122, L160, L180, L200, L255, L1440, L24880, L63, Lm2, pX10_copiesLine_l2b, pX10_lineAt, c, setA_e, setA_setA]
        rw [show ((i : Int) + 1) = ((i + 1 : Nat) : Int) by omega]
        exact e1
  obtain ⟨nw, e1, r1⟩ := loop n 0 (m.1 7) (by omega) (by omega) (fun z => by rw [if_neg (by omega)])
  rw [setA_self] at e1
  refine ⟨nw, ?_, r1⟩
  simp only [pX10_copiesLine, mk_v]
  exact e1
/-- lines from k on moved up by one -/
theorem m_up {n : Nat} (hn : 60 ≤ n) {M : mm_M} {am : Nat} {m : mS} {k cc : Nat} (hc : cc < 10) (a2 : Nat) (x3 x4 : Int32) : ∀ (q o : Nat) (f : Int → Int), k ≤ o → o ≤ cc → o < k + q → (∀ z : Int, f z = if 2 + 22 * ((o : Int) + 1) ≤ z ∧ z < 2 + 22 * (cc + 1) then m.1 7 (z - 22) else m.1 7 z) → ∃ nw', pX10_putsNow_l8 n q (mk M am (setA m 7 f)) am (iI k) a2 x3 x4 (iI o) = pX10_putsNow_b30 n (mk M am (setA m 7 nw')) am (iI k) a2 x3 x4 ∧ ∀ z : Int, nw' z = if 2 + 22 * ((k : Int) + 1) ≤ z ∧ z < 2 + 22 * (cc + 1) then m.1 7 (z - 22) else m.1 7 z := by
  intro q
  induction q with
  | zero => intro o f h1 h2 h3; omega
  | succ q ih =>
    intro o f h1 h2 h3 h4
    show ∃ nw', pX10_putsNow_l8b n (pX10_putsNow_l8 n q) (mk M am (setA m 7 f)) am _ _ _ _ _ = _ ∧ _
    by_cases c : (o : Int) ≤ k
    · refine ⟨f, ?_, fun z => ?_⟩
      · simp (disch := (first | assumption | (refine sm_of ?_ ?_ <;> omega) | omega)) only [iI_add, iI_sub, iI_mul, iI_neg, iI_lt, iI_le, iI_eq, b1_s, b2_s, ↓reduceIte, mk_v, mk_gl23, mk_pl23, mk_gr1, mk_gr5, mk_gr6, mk_gr8, mk_gr9, mk_gr11, mk_gr13, mk_gr14, mk_gr15, mk_gr17, mk_gr18, mk_gr21, mk_gr24, mk_gr28, mk_gr30, mk_gr31, mk_gi0, mk_gi2, mk_gi3, mk_gi4, mk_gi7, mk_gi10, mk_gi12, mk_gi16, mk_gi19, mk_gi20, mk_gi22, mk_gi25, mk_gi26, mk_gi27, mk_gi29, mk_gi32, mk_pi0, mk_pi2, mk_pi3, mk_pi4, mk_pi7, mk_pi10, mk_pi12, mk_pi16, mk_pi19, mk_pi20, mk_pi22, mk_pi25, mk_pi26, mk_pi27, mk_pi29, mk_pi32, mk_ia1, mk_ia2, mk_ia3, mk_ia4, mk_ia5, mk_ia6, mk_ia7, mk_ia8, mk_ia9, mk_ia10, mk_ia11, mk_ia12, mk_ia13, mk_ia14, mk_ia15, mk_ia16, mk_is1, mk_is2, mk_is3, mk_is4, mk_is5, mk_is6, mk_is7, mk_is8, mk_is9, mk_is10, mk_is11, mk_is12, mk_is13, mk_is14, mk_is15, mk_is16, L0, L1, L2, L3, L4, L5, L6, L7, L8, L9, L10, L12, L20, L22, L24, L26, L27, L28, L32, L40, L60, L73, L95, L97, L222, L240, L441, L442, L622, Lm1, Lmh, L11, L13, L14, L15, L16, L17, L18, L19, L21, L23, L25, L30, L31, L33, L36, L39, L41, L44, L48, L53, L54, L55, L57, L58, L59, L91, L93, L98, L99, L100, L105, L106, L112, L114, L115, L119, L122, L160, L180, L200, L255, L1440, L24880, L63, Lm2, pX10_putsNow_l8b, c]
      · rw [h4 z, show o = k by omega]
    · obtain ⟨g, e1, r1⟩ := m_copyL hn (M := M) (am := am) (m := setA m 7 f) (s := o - 1) (t := o) (by omega) (by omega) (by omega)
      rw [setA_setA] at e1
      rw [show ((o - 1 : Nat) : Int) = (o : Int) - 1 by omega] at e1
      obtain ⟨nw, e2, r2⟩ := ih (o - 1) g (by omega) (by omega) (by omega) (fun z => by
        rw [r1 z, setA_e]
        by_cases d : 2 + 22 * (o : Int) ≤ z ∧ z < 2 + 22 * o + 22
        · rw [if_pos d, if_pos (by omega), h4, if_neg (by omega)]; exact congrArg (m.1 7) (by omega)
        · rw [if_neg d, h4 z]
          by_cases d2 : 2 + 22 * ((o : Int) + 1) ≤ z ∧ z < 2 + 22 * (cc + 1)
          · rw [if_pos d2, if_pos (by omega)]
          · rw [if_neg d2, if_neg (by omega)])
      refine ⟨nw, ?_, r2⟩
      simp (disch := (first | assumption | (refine sm_of ?_ ?_ <;> omega) | omega)) only [iI_add, iI_sub, iI_mul, iI_neg, iI_lt, iI_le, iI_eq, b1_s, b2_s, ↓reduceIte, mk_v, mk_gl23, mk_pl23, mk_gr1, mk_gr5, mk_gr6, mk_gr8, mk_gr9, mk_gr11, mk_gr13, mk_gr14, mk_gr15, mk_gr17, mk_gr18, mk_gr21, mk_gr24, mk_gr28, mk_gr30, mk_gr31, mk_gi0, mk_gi2, mk_gi3, mk_gi4, mk_gi7, mk_gi10, mk_gi12, mk_gi16, mk_gi19, mk_gi20, mk_gi22, mk_gi25, mk_gi26, mk_gi27, mk_gi29, mk_gi32, mk_pi0, mk_pi2, mk_pi3, mk_pi4, mk_pi7, mk_pi10, mk_pi12, mk_pi16, mk_pi19, mk_pi20, mk_pi22, mk_pi25, mk_pi26, mk_pi27, mk_pi29, mk_pi32, mk_ia1, mk_ia2, mk_ia3, mk_ia4, mk_ia5, mk_ia6, mk_ia7, mk_ia8, mk_ia9, mk_ia10, mk_ia11, mk_ia12, mk_ia13, mk_ia14, mk_ia15, mk_ia16, mk_is1, mk_is2, mk_is3, mk_is4, mk_is5, mk_is6, mk_is7, mk_is8, mk_is9, mk_is10, mk_is11, mk_is12, mk_is13, mk_is14, mk_is15, mk_is16, L0, L1, L2, L3, L4, L5, L6, L7, L8, L9, L10, L12, L20, L22, L24, L26, L27, L28, L32, L40, L60, L73, L95, L97, L222, L240, L441, L442, L622, Lm1, Lmh, L11, L13, L14, L15, L16, L17, L18, L19, L21, L23, L25, L30, L31, L33, L36, L39, L41, L44, L48, L53, L54, L55, L57, L58, L59, L91, L93, L98, L99, L100, L105, L106, L112, L114, L115, L119, L122, L160, L180, L200, L255, L1440, L24880, L63, Lm2, pX10_putsNow_l8b, c, e1]
      rw [show ((o : Int) + -1) = ((o - 1 : Nat) : Int) by omega]
      exact e2
theorem lnN_ins {ls : List kL} {k : Nat} (hk : k ≤ ls.length) (x : kL) (i : Nat) : lnN (insL ls k x) i = if i < k then lnN ls i else if i = k then x else lnN ls (i - 1) := by
  unfold lnN insL
  rw [List.getD_eq_getElem?_getD]
  by_cases c : i < k
  · rw [if_pos c, List.getElem?_append_left (by simp; omega), List.getElem?_take, if_pos c, List.getD_eq_getElem?_getD]
  · rw [if_neg c, List.getElem?_append_right (by simp; omega)]
    by_cases d : i = k
    · rw [if_pos d]; simp [d, Nat.min_eq_left hk]
    · rw [if_neg d]
      rw [show i - (ls.take k).length = (i - 1 - k) + 1 by simp; omega, List.getElem?_cons_succ, List.getElem?_drop, List.getD_eq_getElem?_getD]
      congr 2; omega
theorem ins_len {ls : List kL} {k : Nat} (hk : k ≤ ls.length) (x : kL) : (insL ls k x).length = ls.length + 1 := by simp [insL]; omega
theorem lnN_del {ls : List kL} {k : Nat} (hk : k < ls.length) (i : Nat) : lnN (delL ls k) i = if i < k then lnN ls i else lnN ls (i + 1) := by
  unfold lnN delL
  rw [List.getD_eq_getElem?_getD]
  by_cases c : i < k
  · rw [if_pos c, List.getElem?_append_left (by simp; omega), List.getElem?_take, if_pos c, List.getD_eq_getElem?_getD]
  · rw [if_neg c, List.getElem?_append_right (by simp; omega), List.getElem?_drop, List.getD_eq_getElem?_getD]
    congr 2; simp; omega
theorem del_len {ls : List kL} {k : Nat} (hk : k < ls.length) : (delL ls k).length = ls.length - 1 := by simp [delL]; omega
theorem lnN_set {ls : List kL} {k : Nat} (hk : k < ls.length) (x : kL) (i : Nat) : lnN (ls.set k x) i = if i = k then x else lnN ls i := by
  unfold lnN
  rw [List.getD_eq_getElem?_getD, List.getElem?_set]
  by_cases c : k = i
  · subst c; simp [hk]
  · rw [if_neg c, if_neg (fun q => c q.symm), List.getD_eq_getElem?_getD]
/-- a row of signs that is read at a shifted place -/
theorem rowA_cg {f g : Int → Int} {o o' : Int} {xs : List Int} (h : rowA f o xs) (e : ∀ i : Nat, i < xs.length → g (o' + i) = f (o + i)) : rowA g o' xs := fun i hi => (e i hi).trans (h i hi)
theorem m_puts {n : Nat} (hn : 60 ≤ n) {M : mm_M} {am : Nat} {m : mS} {ls : List kL} (hN : NwL (m.1 7) ls) (ho : okL ls) {giv : Int} (hg : m.1 7 1 = giv) (hgb : nb giv) {k : Nat} (hk : k ≤ ls.length) (hc : ls.length < 10) {xs : List Int} (hx : xs.length ≤ 20) {j : Nat} (hj0 : 0 < j) (hj : j < 17) (hj7 : j ≠ 7) {o : Int} (ho0 : 0 ≤ o) (ho1 : o + xs.length ≤ mz j) (hz : mz j ≤ 100000) (hr : rowA (m.1 j) o xs) : ∃ nw', pX10_putsNow n (mk M am m) am (iI k) (am + j) (iI o) (iI xs.length) = some (iI giv, mk M am (setA m 7 nw')) ∧ NwL nw' (insL ls k (giv, xs)) ∧ nw' 1 = giv + 1 ∧ ∀ q : Int, 222 ≤ q → nw' q = m.1 7 q := by
  have h0 := hN.1
  unfold nb at hgb
  obtain ⟨f, e1, r1⟩ := m_up hn (M := M) (am := am) (m := m) (k := k) (cc := ls.length) hc (am + j) (iI o) (iI xs.length) n ls.length (m.1 7) hk (Nat.le_refl _) (by omega) (fun z => by rw [if_neg (by omega)])
  rw [setA_self] at e1
  have f0 : f 0 = ls.length := by rw [r1, if_neg (by omega)]; exact h0
  have f1 : f 1 = giv := by rw [r1, if_neg (by omega)]; exact hg
  obtain ⟨g, e2, g1, g2, g3⟩ := m_laysS hn (M := M) (am := am) (m := setA m 7 (upI (upI (upI f 0 (ls.length + 1)) (2 + 22 * k) giv) 1 (giv + 1))) hx hj0 hj ho0 ho1 hz (k := k) (by omega) (fun f' _ => by rw [setA_n _ _ hj7, setA_n _ _ hj7]; exact hr)
  rw [setA_setA, setA_e] at *
  have g4 : g (2 + 22 * k) = giv := by rw [g3 _ (by omega), upI_n _ _ (by omega), upI_e]
  have gf : ∀ q : Int, q ≠ 0 → q ≠ 1 → ¬ (2 + 22 * (k : Int) ≤ q ∧ q < 2 + 22 * k + 22) → g q = f q := by
    intro q q0 q1 q2
    rw [g3 q (by omega), upI_n _ _ q1, upI_n _ _ (by omega), upI_n _ _ q0]
  have nN : NwL g (insL ls k (giv, xs)) := by
    refine ⟨?_, fun i hi => ?_⟩
    · rw [ins_len hk, g3 0 (by omega), upI_n _ _ (by omega), upI_n _ _ (by omega), upI_e]; simp
    · rw [ins_len hk] at hi
      rw [lnN_ins hk]
      by_cases c1 : i < k
      · rw [if_pos c1]
        obtain ⟨a1, a2, a3⟩ := hN.2 i (by omega)
        refine ⟨?_, ?_, rowA_cg a3 (fun z hz' => ?_)⟩
        · rw [gf _ (by omega) (by omega) (by omega), r1, if_neg (by omega)]; exact a1
        · rw [gf _ (by omega) (by omega) (by omega), r1, if_neg (by omega)]; exact a2
        · have := (ho.2 i (by omega)).2.1
          rw [gf _ (by omega) (by omega) (by omega), r1, if_neg (by omega)]
      · rw [if_neg c1]
        by_cases c2 : i = k
        · subst c2; rw [if_pos rfl]; exact ⟨g4, g1, g2⟩
        · rw [if_neg c2]
          obtain ⟨a1, a2, a3⟩ := hN.2 (i - 1) (by omega)
          have l20 := (ho.2 (i - 1) (by omega)).2.1
          refine ⟨?_, ?_, rowA_cg a3 (fun z hz' => ?_)⟩
          · rw [gf _ (by omega) (by omega) (by omega), r1, if_pos (by omega), show 2 + 22 * (i : Int) - 22 = 2 + 22 * ((i - 1 : Nat) : Int) by omega]; exact a1
          · rw [gf _ (by omega) (by omega) (by omega), r1, if_pos (by omega), show 2 + 22 * (i : Int) + 1 - 22 = 2 + 22 * ((i - 1 : Nat) : Int) + 1 by omega]; exact a2
          · rw [gf _ (by omega) (by omega) (by omega), r1, if_pos (by omega)]; exact congrArg (m.1 7) (by omega)
  have okk : pX10_numberOf n (mk M am (setA m 7 g)) am (iI k) = some (iI giv, mk M am (setA m 7 g)) := by
    simp (disch := (first | assumption | (refine sm_of ?_ ?_ <;> omega) | omega)) only [iI_add, iI_sub, iI_mul, iI_neg, iI_lt, iI_le, iI_eq, b1_s, b2_s, ↓reduceIte, mk_v, mk_gl23, mk_pl23, mk_gr1, mk_gr5, mk_gr6, mk_gr8, mk_gr9, mk_gr11, mk_gr13, mk_gr14, mk_gr15, mk_gr17, mk_gr18, mk_gr21, mk_gr24, mk_gr28, mk_gr30, mk_gr31, mk_gi0, mk_gi2, mk_gi3, mk_gi4, mk_gi7, mk_gi10, mk_gi12, mk_gi16, mk_gi19, mk_gi20, mk_gi22, mk_gi25, mk_gi26, mk_gi27, mk_gi29, mk_gi32, mk_pi0, mk_pi2, mk_pi3, mk_pi4, mk_pi7, mk_pi10, mk_pi12, mk_pi16, mk_pi19, mk_pi20, mk_pi22, mk_pi25, mk_pi26, mk_pi27, mk_pi29, mk_pi32, mk_ia1, mk_ia2, mk_ia3, mk_ia4, mk_ia5, mk_ia6, mk_ia7, mk_ia8, mk_ia9, mk_ia10, mk_ia11, mk_ia12, mk_ia13, mk_ia14, mk_ia15, mk_ia16, mk_is1, mk_is2, mk_is3, mk_is4, mk_is5, mk_is6, mk_is7, mk_is8, mk_is9, mk_is10, mk_is11, mk_is12, mk_is13, mk_is14, mk_is15, mk_is16, L0, L1, L2, L3, L4, L5, L6, L7, L8, L9, L10, L12, L20, L22, L24, L26, L27, L28, L32, L40, L60, L73, L95, L97, L222, L240, L441, L442, L622, Lm1, Lmh, L11, L13, L14, L15, L16, L17, L18, L19, L21, L23, L25, L30, L31, L33, L36, L39, L41, L44, L48, L53, L54, L55, L57, L58, L59, L91, L93, L98, L99, L100, L105, L106, L112, L114, L115, L119, L122, L160, L180, L200, L255, L1440, L24880, L63, Lm2, pX10_numberOf, pX10_lineAt, Int.add_zero, setA_e, g4]
  refine ⟨g, ?_, nN, ?_, fun q hq => ?_⟩
  · simp (disch := (first | assumption | (refine sm_of ?_ ?_ <;> omega) | omega)) only [iI_add, iI_sub, iI_mul, iI_neg, iI_lt, iI_le, iI_eq, b1_s, b2_s, ↓reduceIte, mk_v, mk_gl23, mk_pl23, mk_gr1, mk_gr5, mk_gr6, mk_gr8, mk_gr9, mk_gr11, mk_gr13, mk_gr14, mk_gr15, mk_gr17, mk_gr18, mk_gr21, mk_gr24, mk_gr28, mk_gr30, mk_gr31, mk_gi0, mk_gi2, mk_gi3, mk_gi4, mk_gi7, mk_gi10, mk_gi12, mk_gi16, mk_gi19, mk_gi20, mk_gi22, mk_gi25, mk_gi26, mk_gi27, mk_gi29, mk_gi32, mk_pi0, mk_pi2, mk_pi3, mk_pi4, mk_pi7, mk_pi10, mk_pi12, mk_pi16, mk_pi19, mk_pi20, mk_pi22, mk_pi25, mk_pi26, mk_pi27, mk_pi29, mk_pi32, mk_ia1, mk_ia2, mk_ia3, mk_ia4, mk_ia5, mk_ia6, mk_ia7, mk_ia8, mk_ia9, mk_ia10, mk_ia11, mk_ia12, mk_ia13, mk_ia14, mk_ia15, mk_ia16, mk_is1, mk_is2, mk_is3, mk_is4, mk_is5, mk_is6, mk_is7, mk_is8, mk_is9, mk_is10, mk_is11, mk_is12, mk_is13, mk_is14, mk_is15, mk_is16, L0, L1, L2, L3, L4, L5, L6, L7, L8, L9, L10, L12, L20, L22, L24, L26, L27, L28, L32, L40, L60, L73, L95, L97, L222, L240, L441, L442, L622, Lm1, Lmh, L11, L13, L14, L15, L16, L17, L18, L19, L21, L23, L25, L30, L31, L33, L36, L39, L41, L44, L48, L53, L54, L55, L57, L58, L59, L91, L93, L98, L99, L100, L105, L106, L112, L114, L115, L119, L122, L160, L180, L200, L255, L1440, L24880, L63, Lm2, pX10_putsNow, h0]
    rw [e1]
    simp (disch := (first | assumption | (refine sm_of ?_ ?_ <;> omega) | omega)) only [iI_add, iI_sub, iI_mul, iI_neg, iI_lt, iI_le, iI_eq, b1_s, b2_s, ↓reduceIte, mk_v, mk_gl23, mk_pl23, mk_gr1, mk_gr5, mk_gr6, mk_gr8, mk_gr9, mk_gr11, mk_gr13, mk_gr14, mk_gr15, mk_gr17, mk_gr18, mk_gr21, mk_gr24, mk_gr28, mk_gr30, mk_gr31, mk_gi0, mk_gi2, mk_gi3, mk_gi4, mk_gi7, mk_gi10, mk_gi12, mk_gi16, mk_gi19, mk_gi20, mk_gi22, mk_gi25, mk_gi26, mk_gi27, mk_gi29, mk_gi32, mk_pi0, mk_pi2, mk_pi3, mk_pi4, mk_pi7, mk_pi10, mk_pi12, mk_pi16, mk_pi19, mk_pi20, mk_pi22, mk_pi25, mk_pi26, mk_pi27, mk_pi29, mk_pi32, mk_ia1, mk_ia2, mk_ia3, mk_ia4, mk_ia5, mk_ia6, mk_ia7, mk_ia8, mk_ia9, mk_ia10, mk_ia11, mk_ia12, mk_ia13, mk_ia14, mk_ia15, mk_ia16, mk_is1, mk_is2, mk_is3, mk_is4, mk_is5, mk_is6, mk_is7, mk_is8, mk_is9, mk_is10, mk_is11, mk_is12, mk_is13, mk_is14, mk_is15, mk_is16, L0, L1, L2, L3, L4, L5, L6, L7, L8, L9, L10, L12, L20, L22, L24, L26, L27, L28, L32, L40, L60, L73, L95, L97, L222, L240, L441, L442, L622, Lm1, Lmh, L11, L13, L14, L15, L16, L17, L18, L19, L21, L23, L25, L30, L31, L33, L36, L39, L41, L44, L48, L53, L54, L55, L57, L58, L59, L91, L93, L98, L99, L100, L105, L106, L112, L114, L115, L119, L122, L160, L180, L200, L255, L1440, L24880, L63, Lm2, pX10_putsNow_b30, pX10_lineAt, setA_e, setA_setA, f0, Int.add_zero]
    rw [upI_n _ _ (by omega), f1]
    rw [upI_n _ _ (by omega), upI_n _ _ (by omega), f1]
    simp (disch := (first | assumption | (refine sm_of ?_ ?_ <;> omega) | omega)) only [iI_add, iI_sub, iI_mul, iI_neg, iI_lt, iI_le, iI_eq, b1_s, b2_s, ↓reduceIte, mk_v, mk_gl23, mk_pl23, mk_gr1, mk_gr5, mk_gr6, mk_gr8, mk_gr9, mk_gr11, mk_gr13, mk_gr14, mk_gr15, mk_gr17, mk_gr18, mk_gr21, mk_gr24, mk_gr28, mk_gr30, mk_gr31, mk_gi0, mk_gi2, mk_gi3, mk_gi4, mk_gi7, mk_gi10, mk_gi12, mk_gi16, mk_gi19, mk_gi20, mk_gi22, mk_gi25, mk_gi26, mk_gi27, mk_gi29, mk_gi32, mk_pi0, mk_pi2, mk_pi3, mk_pi4, mk_pi7, mk_pi10, mk_pi12, mk_pi16, mk_pi19, mk_pi20, mk_pi22, mk_pi25, mk_pi26, mk_pi27, mk_pi29, mk_pi32, mk_ia1, mk_ia2, mk_ia3, mk_ia4, mk_ia5, mk_ia6, mk_ia7, mk_ia8, mk_ia9, mk_ia10, mk_ia11, mk_ia12, mk_ia13, mk_ia14, mk_ia15, mk_ia16, mk_is1, mk_is2, mk_is3, mk_is4, mk_is5, mk_is6, mk_is7, mk_is8, mk_is9, mk_is10, mk_is11, mk_is12, mk_is13, mk_is14, mk_is15, mk_is16, L0, L1, L2, L3, L4, L5, L6, L7, L8, L9, L10, L12, L20, L22, L24, L26, L27, L28, L32, L40, L60, L73, L95, L97, L222, L240, L441, L442, L622, Lm1, Lmh, L11, L13, L14, L15, L16, L17, L18, L19, L21, L23, L25, L30, L31, L33, L36, L39, L41, L44, L48, L53, L54, L55, L57, L58, L59, L91, L93, L98, L99, L100, L105, L106, L112, L114, L115, L119, L122, L160, L180, L200, L255, L1440, L24880, L63, Lm2, setA_e, setA_setA, e2, okk]
  · rw [g3 1 (by omega), upI_e]
  · rw [gf q (by omega) (by omega) (by omega), r1, if_neg (by omega)]
