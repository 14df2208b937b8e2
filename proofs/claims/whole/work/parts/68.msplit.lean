theorem m_splits {n : Nat} (hn : 60 ≤ n) {M : mm_M} {am : Nat} {m : mS} {ls : List kL} (hN : NwL (m.1 7) ls) (ho : okL ls) {giv : Int} (hg : m.1 7 1 = giv) (hgb : nb giv) {k p : Nat} (hk : k < ls.length) (hc : ls.length < 10) (hp : p < (lnN ls k).2.length) : ∃ nw', pX10_splitsNow n (mk M am m) am (iI k) (iI p) = some (iI giv, mk M am (setA m 7 nw')) ∧ NwL nw' (insL (ls.set k ((lnN ls k).1, (lnN ls k).2.take p)) (k + 1) (giv, (lnN ls k).2.drop p)) ∧ nw' 1 = giv + 1 ∧ ∀ q : Int, 222 ≤ q → nw' q = m.1 7 q := by
  have h0 := hN.1
  unfold nb at hgb
  obtain ⟨a1, a2, a3⟩ := hN.2 k hk
  have ok1 := ho.2 k hk
  have up : ∀ (q o : Nat) (f : Int → Int), k + 1 ≤ o → o ≤ ls.length → o < k + 1 + q → (∀ z : Int, f z = if 2 + 22 * ((o : Int) + 1) ≤ z ∧ z < 2 + 22 * (ls.length + 1) then m.1 7 (z - 22) else m.1 7 z) → ∃ nw', pX10_splitsNow_l14 n q (mk M am (setA m 7 f)) am (iI k) (iI p) (iI (lnN ls k).2.length) (iI o) = pX10_splitsNow_b38 n (mk M am (setA m 7 nw')) am (iI k) (iI p) (iI (lnN ls k).2.length) ∧ ∀ z : Int, nw' z = if 2 + 22 * ((k : Int) + 1 + 1) ≤ z ∧ z < 2 + 22 * (ls.length + 1) then m.1 7 (z - 22) else m.1 7 z := by
    intro q
    induction q with
    | zero => intro o f h1 h2 h3; omega
    | succ q ih =>
      intro o f h1 h2 h3 h4
      show ∃ nw', pX10_splitsNow_l14b n (pX10_splitsNow_l14 n q) (mk M am (setA m 7 f)) am _ _ _ _ = _ ∧ _
      by_cases c : (o : Int) ≤ k + 1
      · refine ⟨f, ?_, fun z => ?_⟩
        · simp (disch := (first | assumption | (refine sm_of ?_ ?_ <;> omega) | omega)) only [iI_add, iI_sub, iI_mul, iI_neg, iI_lt, iI_le, iI_eq, b1_s, b2_s, ↓reduceIte, mk_v, mk_gl23, mk_pl23, mk_gr1, mk_gr5, mk_gr6, mk_gr8, mk_gr9, mk_gr11, mk_gr13, mk_gr14, mk_gr15, mk_gr17, mk_gr18, mk_gr21, mk_gr24, mk_gr28, mk_gr30, mk_gr31, mk_gi0, mk_gi2, mk_gi3, mk_gi4, mk_gi7, mk_gi10, mk_gi12, mk_gi16, mk_gi19, mk_gi20, mk_gi22, mk_gi25, mk_gi26, mk_gi27, mk_gi29, mk_gi32, mk_pi0, mk_pi2, mk_pi3, mk_pi4, mk_pi7, mk_pi10, mk_pi12, mk_pi16, mk_pi19, mk_pi20, mk_pi22, mk_pi25, mk_pi26, mk_pi27, mk_pi29, mk_pi32, mk_ia1, mk_ia2, mk_ia3, mk_ia4, mk_ia5, mk_ia6, mk_ia7, mk_ia8, mk_ia9, mk_ia10, mk_ia11, mk_ia12, mk_ia13, mk_ia14, mk_ia15, mk_ia16, mk_is1, mk_is2, mk_is3, mk_is4, mk_is5, mk_is6, mk_is7, mk_is8, mk_is9, mk_is10, mk_is11, mk_is12, mk_is13, mk_is14, mk_is15, mk_is16, L0, L1, L2, L3, L4, L5, L6, L7, L8, L9, L10, L12, L20, L22, L24, L26, L27, L28, L32, L40, L60, L73, L95, L97, L222, L240, L441, L442, L622, Lm1, Lmh, L11, L13, L14, L15, L16, L17, L18, L19, L21, L23, L25, L30, L31, L33, L36, L39, L41, L44, L48, L53, L54, L55, L57, L58, L59, L91, L93, L98, L99, L100, L105, L106, L112, L114, L115, L119, L122, L160, L180, L200, L255, L1440, L24880, L63, Lm2, pX10_splitsNow_l14b, c]
        · rw [h4 z, show (o : Int) = (k : Int) + 1 by omega]
      · obtain ⟨g, e1, r1⟩ := m_copyL hn (M := M) (am := am) (m := setA m 7 f) (s := o - 1) (t := o) (by omega) (by omega) (by omega)
        rw [setA_setA] at e1
        rw [show ((o - 1 : Nat) : Int) = (o : Int) - 1 by omega] at e1
        obtain ⟨nw, e2, r2⟩ := ih (o - 1) g (by omega) (by omega) (by omega) (fun z => by
          rw [r1 z, setA_e]
          by_cases d : 2 + 22 * (o : Int) ≤ z ∧ z < 2 + 22 * o + 22
          · rw [if_pos d, if_pos (by omega), h4, if_neg (by omega)]; exact congrArg (m.1 7) (by omega)
          · rw [if_neg d, h4 z]
            by_cases d2 : 2 + 22 * ((o : Int) + 1) ≤ z ∧ z < 2 + 22 * (ls.length + 1)
            · rw [if_pos d2, if_pos (by omega)]
            · rw [if_neg d2, if_neg (by omega)])
        refine ⟨nw, ?_, r2⟩
        simp (disch := (first | assumption | (refine sm_of ?_ ?_ <;> omega) | omega)) only [iI_add, iI_sub, iI_mul, iI_neg, iI_lt, iI_le, iI_eq, b1_s, b2_s, ↓reduceIte, mk_v, mk_gl23, mk_pl23, mk_gr1, mk_gr5, mk_gr6, mk_gr8, mk_gr9, mk_gr11, mk_gr13, mk_gr14, mk_gr15, mk_gr17, mk_gr18, mk_gr21, mk_gr24, mk_gr28, mk_gr30, mk_gr31, mk_gi0, mk_gi2, mk_gi3, mk_gi4, mk_gi7, mk_gi10, mk_gi12, mk_gi16, mk_gi19, mk_gi20, mk_gi22, mk_gi25, mk_gi26, mk_gi27, mk_gi29, mk_gi32, mk_pi0, mk_pi2, mk_pi3, mk_pi4, mk_pi7, mk_pi10, mk_pi12, mk_pi16, mk_pi19, mk_pi20, mk_pi22, mk_pi25, mk_pi26, mk_pi27, mk_pi29, mk_pi32, mk_ia1, mk_ia2, mk_ia3, mk_ia4, mk_ia5, mk_ia6, mk_ia7, mk_ia8, mk_ia9, mk_ia10, mk_ia11, mk_ia12, mk_ia13, mk_ia14, mk_ia15, mk_ia16, mk_is1, mk_is2, mk_is3, mk_is4, mk_is5, mk_is6, mk_is7, mk_is8, mk_is9, mk_is10, mk_is11, mk_is12, mk_is13, mk_is14, mk_is15, mk_is16, L0, L1, L2, L3, L4, L5, L6, L7, L8, L9, L10, L12, L20, L22, L24, L26, L27, L28, L32, L40, L60, L73, L95, L97, L222, L240, L441, L442, L622, Lm1, Lmh, L11, L13, L14, L15, L16, L17, L18, L19, L21, L23, L25, L30, L31, L33, L36, L39, L41, L44, L48, L53, L54, L55, L57, L58, L59, L91, L93, L98, L99, L100, L105, L106, L112, L114, L115, L119, L122, L160, L180, L200, L255, L1440, L24880, L63, Lm2, pX10_splitsNow_l14b, c, e1]
        rw [show ((o : Int) + -1) = ((o - 1 : Nat) : Int) by omega]
        exact e2
  obtain ⟨f, e1, r1⟩ := up n ls.length (m.1 7) (by omega) (Nat.le_refl _) (by omega) (fun z => by rw [if_neg (by omega)])
  rw [setA_self] at e1
  have f0 : f 0 = ls.length := by rw [r1, if_neg (by omega)]; exact h0
  have f1 : f 1 = giv := by rw [r1, if_neg (by omega)]; exact hg
  have dl : ((lnN ls k).2.drop p).length = (lnN ls k).2.length - p := by simp
  obtain ⟨g, e2, g1, g2, g3⟩ := m_laysS hn (M := M) (am := am) (m := setA m 7 (upI (upI (upI f 0 (ls.length + 1)) (2 + 22 * (k + 1)) giv) 1 (giv + 1))) (xs := (lnN ls k).2.drop p) (by rw [dl]; omega) (j := 7) (by omega) (by omega) (o := 2 + 22 * k + 2 + p) (by omega) (by rw [dl]; simp only [mz]; omega) (by simp [mz]) (k := k + 1) (by omega) (fun f' hf' => by
    rw [setA_e]
    intro z hz
    rw [dl] at hz
    rw [hf' _ (by omega), setA_e, upI_n _ _ (by omega), upI_n _ _ (by omega), upI_n _ _ (by omega), r1, if_neg (by omega)]
    have := a3 (p + z) (by omega)
    rw [show (2 + 22 * (k : Int) + 2 + ((p + z : Nat) : Int)) = 2 + 22 * (k : Int) + 2 + p + z by omega] at this
    rw [this, List.getD_eq_getElem?_getD, List.getD_eq_getElem?_getD, List.getElem?_drop])
  rw [setA_setA, setA_e] at *
  rw [dl] at e2 g1
  have gf : ∀ q : Int, q ≠ 0 → q ≠ 1 → ¬ (2 + 22 * ((k : Int) + 1) ≤ q ∧ q < 2 + 22 * (k + 1) + 22) → g q = f q := by
    intro q q0 q1 q2
    rw [g3 q (by omega), upI_n _ _ q1, upI_n _ _ (by omega), upI_n _ _ q0]
  have zl : ∀ (q i : Nat) (u : Int → Int), p ≤ i → i ≤ 20 → 20 < i + q → (∀ z : Int, u z = if 2 + 22 * (k : Int) + 2 + p ≤ z ∧ z < 2 + 22 * k + 2 + i then 0 else g z) → ∃ nw', pX10_splitsNow_l102 n q (mk M am (setA m 7 u)) am (iI k) (iI p) (iI i) = pX10_splitsNow_b130 n (mk M am (setA m 7 nw')) am (iI k) (iI p) ∧ ∀ z : Int, nw' z = if 2 + 22 * (k : Int) + 2 + p ≤ z ∧ z < 2 + 22 * k + 22 then 0 else g z := by
    intro q
    induction q with
    | zero => intro i u h1 h2 h3; omega
    | succ q ih =>
      intro i u h1 h2 h3 h4
      show ∃ nw', pX10_splitsNow_l102b n (pX10_splitsNow_l102 n q) (mk M am (setA m 7 u)) am _ _ _ = _ ∧ _
      by_cases c : (20 : Int) ≤ i
      · refine ⟨u, ?_, fun z => ?_⟩
        · simp (disch := (first | assumption | (refine sm_of ?_ ?_ <;> omega) | omega)) only [iI_add, iI_sub, iI_mul, iI_neg, iI_lt, iI_le, iI_eq, b1_s, b2_s, ↓reduceIte, mk_v, mk_gl23, mk_pl23, mk_gr1, mk_gr5, mk_gr6, mk_gr8, mk_gr9, mk_gr11, mk_gr13, mk_gr14, mk_gr15, mk_gr17, mk_gr18, mk_gr21, mk_gr24, mk_gr28, mk_gr30, mk_gr31, mk_gi0, mk_gi2, mk_gi3, mk_gi4, mk_gi7, mk_gi10, mk_gi12, mk_gi16, mk_gi19, mk_gi20, mk_gi22, mk_gi25, mk_gi26, mk_gi27, mk_gi29, mk_gi32, mk_pi0, mk_pi2, mk_pi3, mk_pi4, mk_pi7, mk_pi10, mk_pi12, mk_pi16, mk_pi19, mk_pi20, mk_pi22, mk_pi25, mk_pi26, mk_pi27, mk_pi29, mk_pi32, mk_ia1, mk_ia2, mk_ia3, mk_ia4, mk_ia5, mk_ia6, mk_ia7, mk_ia8, mk_ia9, mk_ia10, mk_ia11, mk_ia12, mk_ia13, mk_ia14, mk_ia15, mk_ia16, mk_is1, mk_is2, mk_is3, mk_is4, mk_is5, mk_is6, mk_is7, mk_is8, mk_is9, mk_is10, mk_is11, mk_is12, mk_is13, mk_is14, mk_is15, mk_is16, L0, L1, L2, L3, L4, L5, L6, L7, L8, L9, L10, L12, L20, L22, L24, L26, L27, L28, L32, L40, L60, L73, L95, L97, L222, L240, L441, L442, L622, Lm1, Lmh, L11, L13, L14, L15, L16, L17, L18, L19, L21, L23, L25, L30, L31, L33, L36, L39, L41, L44, L48, L53, L54, L55, L57, L58, L59, L91, L93, L98, L99, L100, L105, L106, L112, L114, L115, L119, L122, L160, L180, L200, L255, L1440, L24880, L63, Lm2, pX10_splitsNow_l102b, c]
        · rw [h4 z]
          by_cases d : 2 + 22 * (k : Int) + 2 + p ≤ z ∧ z < 2 + 22 * k + 2 + i
          · rw [if_pos d, if_pos (by omega)]
          · rw [if_neg d, if_neg (by omega)]
      · obtain ⟨nw, e3, r3⟩ := ih (i + 1) (upI u (2 + 22 * k + 2 + i) 0) (by omega) (by omega) (by omega) (fun z => by
          by_cases e : z = 2 + 22 * k + 2 + i
          · rw [e, upI_e, if_pos (by omega)]
          · rw [upI_n _ _ e, h4 z]
            by_cases d : 2 + 22 * (k : Int) + 2 + p ≤ z ∧ z < 2 + 22 * k + 2 + i
            · rw [if_pos d, if_pos (by omega)]
            · rw [if_neg d, if_neg (by omega)])
        refine ⟨nw, ?_, r3⟩
        simp (disch := (first | assumption | (refine sm_of ?_ ?_ <;> omega) | omega)) only [iI_add, iI_sub, iI_mul, iI_neg, iI_lt, iI_le, iI_eq, b1_s, b2_s, ↓reduceIte, mk_v, mk_gl23, mk_pl23, mk_gr1, mk_gr5, mk_gr6, mk_gr8, mk_gr9, mk_gr11, mk_gr13, mk_gr14, mk_gr15, mk_gr17, mk_gr18, mk_gr21, mk_gr24, mk_gr28, mk_gr30, mk_gr31, mk_gi0, mk_gi2, mk_gi3, mk_gi4, mk_gi7, mk_gi10, mk_gi12, mk_gi16, mk_gi19, mk_gi20, mk_gi22, mk_gi25, mk_gi26, mk_gi27, mk_gi29, mk_gi32, mk_pi0, mk_pi2, mk_pi3, mk_pi4, mk_pi7, mk_pi10, mk_pi12, mk_pi16, mk_pi19, mk_pi20, mk_pi22, mk_pi25, mk_pi26, mk_pi27, mk_pi29, mk_pi32, mk_ia1, mk_ia2, mk_ia3, mk_ia4, mk_ia5, mk_ia6, mk_ia7, mk_ia8, mk_ia9, mk_ia10, mk_ia11, mk_ia12, mk_ia13, mk_ia14, mk_ia15, mk_ia16, mk_is1, mk_is2, mk_is3, mk_is4, mk_is5, mk_is6, mk_is7, mk_is8, mk_is9, mk_is10, mk_is11, mk_is12, mk_is13, mk_is14, mk_is15, mk_is16, L0, L1, L2, L3, L4, L5, L6, L7, L8, L9, L10, L12, L20, L22, L24, L26, L27, L28, L32, L40, L60, L73, L95, L97, L222, L240, L441, L442, L622, Lm1, Lmh, L11, L13, L14, L15, L16, L17, L18, L19, L21, L23, L25, L30, L31, L33, L36, L39, L41, L44, L48, L53, L54, L55, L57, L58, L59, L91, L93, L98, L99, L100, L105, L106, L112, L114, L115, L119, L122, L160, L180, L200, L255, L1440, L24880, L63, Lm2, pX10_splitsNow_l102b, pX10_lineAt, c, setA_e, setA_setA]
        rw [show ((i : Int) + 1) = ((i + 1 : Nat) : Int) by omega]
        exact e3
  obtain ⟨u, e3, r3⟩ := zl n p g (Nat.le_refl _) (by omega) (by omega) (fun z => by rw [if_neg (by omega)])
  have u1 : u (2 + 22 * ((k : Int) + 1)) = giv := by rw [r3, if_neg (by omega), g3 _ (by omega), upI_n _ _ (by omega), upI_e]
  have uf : ∀ q : Int, q ≠ 0 → q ≠ 1 → ¬ (2 + 22 * (k : Int) + 2 + p ≤ q ∧ q < 2 + 22 * (k + 1) + 22) → u q = f q := by
    intro q q0 q1 q2
    rw [r3, if_neg (by omega), gf q q0 q1 (by omega)]
  have hl' : (ls.set k ((lnN ls k).1, (lnN ls k).2.take p)).length = ls.length := by simp
  refine ⟨upI u (2 + 22 * k + 1) p, ?_, ⟨?_, fun i hi => ?_⟩, ?_, fun q hq => ?_⟩
  · simp (disch := (first | assumption | (refine sm_of ?_ ?_ <;> omega) | omega)) only [iI_add, iI_sub, iI_mul, iI_neg, iI_lt, iI_le, iI_eq, b1_s, b2_s, ↓reduceIte, mk_v, mk_gl23, mk_pl23, mk_gr1, mk_gr5, mk_gr6, mk_gr8, mk_gr9, mk_gr11, mk_gr13, mk_gr14, mk_gr15, mk_gr17, mk_gr18, mk_gr21, mk_gr24, mk_gr28, mk_gr30, mk_gr31, mk_gi0, mk_gi2, mk_gi3, mk_gi4, mk_gi7, mk_gi10, mk_gi12, mk_gi16, mk_gi19, mk_gi20, mk_gi22, mk_gi25, mk_gi26, mk_gi27, mk_gi29, mk_gi32, mk_pi0, mk_pi2, mk_pi3, mk_pi4, mk_pi7, mk_pi10, mk_pi12, mk_pi16, mk_pi19, mk_pi20, mk_pi22, mk_pi25, mk_pi26, mk_pi27, mk_pi29, mk_pi32, mk_ia1, mk_ia2, mk_ia3, mk_ia4, mk_ia5, mk_ia6, mk_ia7, mk_ia8, mk_ia9, mk_ia10, mk_ia11, mk_ia12, mk_ia13, mk_ia14, mk_ia15, mk_ia16, mk_is1, mk_is2, mk_is3, mk_is4, mk_is5, mk_is6, mk_is7, mk_is8, mk_is9, mk_is10, mk_is11, mk_is12, mk_is13, mk_is14, mk_is15, mk_is16, L0, L1, L2, L3, L4, L5, L6, L7, L8, L9, L10, L12, L20, L22, L24, L26, L27, L28, L32, L40, L60, L73, L95, L97, L222, L240, L441, L442, L622, Lm1, Lmh, L11, L13, L14, L15, L16, L17, L18, L19, L21, L23, L25, L30, L31, L33, L36, L39, L41, L44, L48, L53, L54, L55, L57, L58, L59, L91, L93, L98, L99, L100, L105, L106, L112, L114, L115, L119, L122, L160, L180, L200, L255, L1440, L24880, L63, Lm2, pX10_splitsNow, m_long hN ho hk, h0]
    rw [e1]
    simp (disch := (first | assumption | (refine sm_of ?_ ?_ <;> omega) | omega)) only [iI_add, iI_sub, iI_mul, iI_neg, iI_lt, iI_le, iI_eq, b1_s, b2_s, ↓reduceIte, mk_v, mk_gl23, mk_pl23, mk_gr1, mk_gr5, mk_gr6, mk_gr8, mk_gr9, mk_gr11, mk_gr13, mk_gr14, mk_gr15, mk_gr17, mk_gr18, mk_gr21, mk_gr24, mk_gr28, mk_gr30, mk_gr31, mk_gi0, mk_gi2, mk_gi3, mk_gi4, mk_gi7, mk_gi10, mk_gi12, mk_gi16, mk_gi19, mk_gi20, mk_gi22, mk_gi25, mk_gi26, mk_gi27, mk_gi29, mk_gi32, mk_pi0, mk_pi2, mk_pi3, mk_pi4, mk_pi7, mk_pi10, mk_pi12, mk_pi16, mk_pi19, mk_pi20, mk_pi22, mk_pi25, mk_pi26, mk_pi27, mk_pi29, mk_pi32, mk_ia1, mk_ia2, mk_ia3, mk_ia4, mk_ia5, mk_ia6, mk_ia7, mk_ia8, mk_ia9, mk_ia10, mk_ia11, mk_ia12, mk_ia13, mk_ia14, mk_ia15, mk_ia16, mk_is1, mk_is2, mk_is3, mk_is4, mk_is5, mk_is6, mk_is7, mk_is8, mk_is9, mk_is10, mk_is11, mk_is12, mk_is13, mk_is14, mk_is15, mk_is16, L0, L1, L2, L3, L4, L5, L6, L7, L8, L9, L10, L12, L20, L22, L24, L26, L27, L28, L32, L40, L60, L73, L95, L97, L222, L240, L441, L442, L622, Lm1, Lmh, L11, L13, L14, L15, L16, L17, L18, L19, L21, L23, L25, L30, L31, L33, L36, L39, L41, L44, L48, L53, L54, L55, L57, L58, L59, L91, L93, L98, L99, L100, L105, L106, L112, L114, L115, L119, L122, L160, L180, L200, L255, L1440, L24880, L63, Lm2, pX10_splitsNow_b38, pX10_lineAt, setA_e, setA_setA, f0, Int.add_zero]
    rw [upI_n _ _ (by omega), f1, upI_n _ _ (by omega), upI_n _ _ (by omega), f1]
    rw [show (((lnN ls k).2.length : Int) - p) = (((lnN ls k).2.length - p : Nat) : Int) by omega, show ((k : Int) + 1) = ((k + 1 : Nat) : Int) by omega]
    rw [show ((k : Int) + 1) = ((k + 1 : Nat) : Int) by omega] at e2
    rw [e2]
    simp (disch := (first | assumption | (refine sm_of ?_ ?_ <;> omega) | omega)) only [iI_add, iI_sub, iI_mul, iI_neg, iI_lt, iI_le, iI_eq, b1_s, b2_s, ↓reduceIte, mk_v, mk_gl23, mk_pl23, mk_gr1, mk_gr5, mk_gr6, mk_gr8, mk_gr9, mk_gr11, mk_gr13, mk_gr14, mk_gr15, mk_gr17, mk_gr18, mk_gr21, mk_gr24, mk_gr28, mk_gr30, mk_gr31, mk_gi0, mk_gi2, mk_gi3, mk_gi4, mk_gi7, mk_gi10, mk_gi12, mk_gi16, mk_gi19, mk_gi20, mk_gi22, mk_gi25, mk_gi26, mk_gi27, mk_gi29, mk_gi32, mk_pi0, mk_pi2, mk_pi3, mk_pi4, mk_pi7, mk_pi10, mk_pi12, mk_pi16, mk_pi19, mk_pi20, mk_pi22, mk_pi25, mk_pi26, mk_pi27, mk_pi29, mk_pi32, mk_ia1, mk_ia2, mk_ia3, mk_ia4, mk_ia5, mk_ia6, mk_ia7, mk_ia8, mk_ia9, mk_ia10, mk_ia11, mk_ia12, mk_ia13, mk_ia14, mk_ia15, mk_ia16, mk_is1, mk_is2, mk_is3, mk_is4, mk_is5, mk_is6, mk_is7, mk_is8, mk_is9, mk_is10, mk_is11, mk_is12, mk_is13, mk_is14, mk_is15, mk_is16, L0, L1, L2, L3, L4, L5, L6, L7, L8, L9, L10, L12, L20, L22, L24, L26, L27, L28, L32, L40, L60, L73, L95, L97, L222, L240, L441, L442, L622, Lm1, Lmh, L11, L13, L14, L15, L16, L17, L18, L19, L21, L23, L25, L30, L31, L33, L36, L39, L41, L44, L48, L53, L54, L55, L57, L58, L59, L91, L93, L98, L99, L100, L105, L106, L112, L114, L115, L119, L122, L160, L180, L200, L255, L1440, L24880, L63, Lm2, e3, pX10_splitsNow_b130, pX10_lineAt, pX10_numberOf, setA_e, setA_setA, Int.add_zero]
    rw [upI_n _ _ (by omega), u1]
  · rw [upI_n _ _ (by omega), r3, if_neg (by omega), g3 0 (by omega), upI_n _ _ (by omega), upI_n _ _ (by omega), upI_e, ins_len (by omega), hl']; simp
  · rw [ins_len (by omega), hl'] at hi
    rw [lnN_ins (by omega)]
    by_cases c1 : i < k + 1
    · rw [if_pos c1, lnN_set hk]
      by_cases c2 : i = k
      · rw [if_pos c2, c2]
        refine ⟨?_, ?_, fun z hz => ?_⟩
        · rw [upI_n _ _ (by omega), uf _ (by omega) (by omega) (by omega), r1, if_neg (by omega)]; exact a1
        · rw [upI_e]; simp; omega
        · have hz' : z < p := by simp at hz; omega
          rw [upI_n _ _ (by omega), uf _ (by omega) (by omega) (by omega), r1, if_neg (by omega), a3 z (by omega), List.getD_eq_getElem?_getD, List.getD_eq_getElem?_getD, List.getElem?_take, if_pos hz']
      · rw [if_neg c2]
        obtain ⟨c3, c4, c5⟩ := hN.2 i (by omega)
        have l20 := (ho.2 i (by omega)).2.1
        refine ⟨?_, ?_, rowA_cg c5 (fun z hz' => ?_)⟩
        · rw [upI_n _ _ (by omega), uf _ (by omega) (by omega) (by omega), r1, if_neg (by omega)]; exact c3
        · rw [upI_n _ _ (by omega), uf _ (by omega) (by omega) (by omega), r1, if_neg (by omega)]; exact c4
        · rw [upI_n _ _ (by omega), uf _ (by omega) (by omega) (by omega), r1, if_neg (by omega)]
    · rw [if_neg c1]
      by_cases c2 : i = k + 1
      · rw [if_pos c2, c2]
        refine ⟨?_, ?_, fun z hz => ?_⟩
        · rw [upI_n _ _ (by omega), show ((k + 1 : Nat) : Int) = (k : Int) + 1 by omega]; exact u1
        · rw [upI_n _ _ (by omega), r3, if_neg (by omega)]
          show g _ = (((lnN ls k).2.drop p).length : Int)
          rw [dl]; exact g1
        · have hz : z < ((lnN ls k).2.drop p).length := hz
          have hz' := hz
          rw [dl] at hz'
          rw [upI_n _ _ (by omega), r3, if_neg (by omega)]
          exact g2 z hz
      · rw [if_neg c2, lnN_set hk, if_neg (by omega)]
        obtain ⟨c3, c4, c5⟩ := hN.2 (i - 1) (by omega)
        have l20 := (ho.2 (i - 1) (by omega)).2.1
        refine ⟨?_, ?_, rowA_cg c5 (fun z hz' => ?_)⟩
        · rw [upI_n _ _ (by omega), uf _ (by omega) (by omega) (by omega), r1, if_pos (by omega), ← c3]; exact congrArg (m.1 7) (by omega)
        · rw [upI_n _ _ (by omega), uf _ (by omega) (by omega) (by omega), r1, if_pos (by omega), ← c4]; exact congrArg (m.1 7) (by omega)
        · rw [upI_n _ _ (by omega), uf _ (by omega) (by omega) (by omega), r1, if_pos (by omega)]; exact congrArg (m.1 7) (by omega)
  · rw [upI_n _ _ (by omega), r3, if_neg (by omega), g3 1 (by omega), upI_e]
  · rw [upI_n _ _ (by omega), uf _ (by omega) (by omega) (by omega), r1, if_neg (by omega)]
