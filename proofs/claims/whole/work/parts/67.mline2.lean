theorem m_takes {n : Nat} (hn : 60 ≤ n) {M : mm_M} {am : Nat} {m : mS} {ls : List kL} (hN : NwL (m.1 7) ls) (ho : okL ls) {k : Nat} (hk : k < ls.length) : ∃ nw', pX10_takesNow n (mk M am m) am (iI k) = some (iI (lnN ls k).2.length, mk M am (setA m 7 nw')) ∧ NwL nw' (delL ls k) ∧ nw' 1 = m.1 7 1 ∧ ∀ q : Int, 222 ≤ q → nw' q = m.1 7 q := by
  have h0 := hN.1
  have c10 := ho.1
  have loop : ∀ (x : Int32) (q o : Nat) (f : Int → Int), k < o → o ≤ ls.length → ls.length < o + q → (∀ z : Int, f z = if 2 + 22 * (k : Int) ≤ z ∧ z < 2 + 22 * ((o : Int) - 1) then m.1 7 (z + 22) else m.1 7 z) → ∃ nw', pX10_takesNow_l10 n q (mk M am (setA m 7 f)) am x (iI o) = pX10_takesNow_b34 n (mk M am (setA m 7 nw')) am x ∧ ∀ z : Int, nw' z = if 2 + 22 * (k : Int) ≤ z ∧ z < 2 + 22 * ((ls.length : Int) - 1) then m.1 7 (z + 22) else m.1 7 z := by
    intro x q
    induction q with
    | zero => intro o f h1 h2 h3; omega
    | succ q ih =>
      intro o f h1 h2 h3 h4
      show ∃ nw', pX10_takesNow_l10b n (pX10_takesNow_l10 n q) (mk M am (setA m 7 f)) am _ _ = _ ∧ _
      have f0 : f 0 = ls.length := by rw [h4, if_neg (by omega)]; exact h0
      by_cases c : (ls.length : Int) ≤ o
      · refine ⟨f, ?_, fun z => ?_⟩
        · simp (disch := (first | assumption | (refine sm_of ?_ ?_ <;> omega) | omega)) only [iI_add, iI_sub, iI_mul, iI_neg, iI_lt, iI_le, iI_eq, b1_s, b2_s, ↓reduceIte, mk_v, mk_gl23, mk_pl23, mk_gr1, mk_gr5, mk_gr6, mk_gr8, mk_gr9, mk_gr11, mk_gr13, mk_gr14, mk_gr15, mk_gr17, mk_gr18, mk_gr21, mk_gr24, mk_gr28, mk_gr30, mk_gr31, mk_gi0, mk_gi2, mk_gi3, mk_gi4, mk_gi7, mk_gi10, mk_gi12, mk_gi16, mk_gi19, mk_gi20, mk_gi22, mk_gi25, mk_gi26, mk_gi27, mk_gi29, mk_gi32, mk_pi0, mk_pi2, mk_pi3, mk_pi4, mk_pi7, mk_pi10, mk_pi12, mk_pi16, mk_pi19, mk_pi20, mk_pi22, mk_pi25, mk_pi26, mk_pi27, mk_pi29, mk_pi32, mk_ia1, mk_ia2, mk_ia3, mk_ia4, mk_ia5, mk_ia6, mk_ia7, mk_ia8, mk_ia9, mk_ia10, mk_ia11, mk_ia12, mk_ia13, mk_ia14, mk_ia15, mk_ia16, mk_is1, mk_is2, mk_is3, mk_is4, mk_is5, mk_is6, mk_is7, mk_is8, mk_is9, mk_is10, mk_is11, mk_is12, mk_is13, mk_is14, mk_is15, mk_is16, L0, L1, L2, L3, L4, L5, L6, L7, L8, L9, L10, L12, L20, L22, L24, L26, L27, L28, L32, L40, L60, L73, L95, L97, L222, L240, L441, L442, L622, Lm1, Lmh, L11, L13, L14, L15, L16, L17, L18, L19, L21, L23, L25, L30, L31, L33, L36, L39, L41, L44, L48, L53, L54, L55, L57, L58, L59, L91, L93, L98, L99, L100, L105, L106, L112, L114, L115, L119, L122, L160, L180, L200, L255, L1440, L24880, L63, Lm2, pX10_takesNow_l10b, setA_e, f0, c]
        · rw [h4 z, show o = ls.length by omega]
      · obtain ⟨g, e1, r1⟩ := m_copyL hn (M := M) (am := am) (m := setA m 7 f) (s := o) (t := o - 1) (by omega) (by omega) (by omega)
        rw [setA_setA] at e1
        rw [show ((o - 1 : Nat) : Int) = (o : Int) - 1 by omega] at e1
        obtain ⟨nw, e2, r2⟩ := ih (o + 1) g (by omega) (by omega) (by omega) (fun z => by
          rw [r1 z, setA_e]
          by_cases d : 2 + 22 * ((o - 1 : Nat) : Int) ≤ z ∧ z < 2 + 22 * ((o - 1 : Nat) : Int) + 22
          · rw [if_pos d, if_pos (by omega), h4, if_neg (by omega)]; exact congrArg (m.1 7) (by omega)
          · rw [if_neg d, h4 z]
            by_cases d2 : 2 + 22 * (k : Int) ≤ z ∧ z < 2 + 22 * ((o : Int) - 1)
            · rw [if_pos d2, if_pos (by omega)]
            · rw [if_neg d2, if_neg (by omega)])
        refine ⟨nw, ?_, r2⟩
        simp (disch := (first | assumption | (refine sm_of ?_ ?_ <;> omega) | omega)) only [iI_add, iI_sub, iI_mul, iI_neg, iI_lt, iI_le, iI_eq, b1_s, b2_s, ↓reduceIte, mk_v, mk_gl23, mk_pl23, mk_gr1, mk_gr5, mk_gr6, mk_gr8, mk_gr9, mk_gr11, mk_gr13, mk_gr14, mk_gr15, mk_gr17, mk_gr18, mk_gr21, mk_gr24, mk_gr28, mk_gr30, mk_gr31, mk_gi0, mk_gi2, mk_gi3, mk_gi4, mk_gi7, mk_gi10, mk_gi12, mk_gi16, mk_gi19, mk_gi20, mk_gi22, mk_gi25, mk_gi26, mk_gi27, mk_gi29, mk_gi32, mk_pi0, mk_pi2, mk_pi3, mk_pi4, mk_pi7, mk_pi10, mk_pi12, mk_pi16, mk_pi19, mk_pi20, mk_pi22, mk_pi25, mk_pi26, mk_pi27, mk_pi29, mk_pi32, mk_ia1, mk_ia2, mk_ia3, mk_ia4, mk_ia5, mk_ia6, mk_ia7, mk_ia8, mk_ia9, mk_ia10, mk_ia11, mk_ia12, mk_ia13, mk_ia14, mk_ia15, mk_ia16, mk_is1, mk_is2, mk_is3, mk_is4, mk_is5, mk_is6, mk_is7, mk_is8, mk_is9, mk_is10, mk_is11, mk_is12, mk_is13, mk_is14, mk_is15, mk_is16, L0, L1, L2, L3, L4, L5, L6, L7, L8, L9, L10, L12, L20, L22, L24, L26, L27, L28, L32, L40, L60, L73, L95, L97, L222, L240, L441, L442, L622, Lm1, Lmh, L11, L13, L14, L15, L16, L17, L18, L19, L21, L23, L25, L30, L31, L33, L36, L39, L41, L44, L48, L53, L54, L55, L57, L58, L59, L91, L93, L98, L99, L100, L105, L106, L112, L114, L115, L119, L122, L160, L180, L200, L255, L1440, L24880, L63, Lm2, pX10_takesNow_l10b, setA_e, f0, c, e1]
        rw [show ((o : Int) + 1) = ((o + 1 : Nat) : Int) by omega]
        exact e2
  obtain ⟨f, e1, r1⟩ := loop (iI (lnN ls k).2.length) n (k + 1) (m.1 7) (by omega) (by omega) (by omega) (fun z => by rw [if_neg (by omega)])
  rw [setA_self] at e1
  have f0 : f 0 = ls.length := by rw [r1, if_neg (by omega)]; exact h0
  refine ⟨upI f 0 ((ls.length : Int) - 1), ?_, ⟨?_, fun i hi => ?_⟩, ?_, fun q hq => ?_⟩
  · simp (disch := (first | assumption | (refine sm_of ?_ ?_ <;> omega) | omega)) only [iI_add, iI_sub, iI_mul, iI_neg, iI_lt, iI_le, iI_eq, b1_s, b2_s, ↓reduceIte, mk_v, mk_gl23, mk_pl23, mk_gr1, mk_gr5, mk_gr6, mk_gr8, mk_gr9, mk_gr11, mk_gr13, mk_gr14, mk_gr15, mk_gr17, mk_gr18, mk_gr21, mk_gr24, mk_gr28, mk_gr30, mk_gr31, mk_gi0, mk_gi2, mk_gi3, mk_gi4, mk_gi7, mk_gi10, mk_gi12, mk_gi16, mk_gi19, mk_gi20, mk_gi22, mk_gi25, mk_gi26, mk_gi27, mk_gi29, mk_gi32, mk_pi0, mk_pi2, mk_pi3, mk_pi4, mk_pi7, mk_pi10, mk_pi12, mk_pi16, mk_pi19, mk_pi20, mk_pi22, mk_pi25, mk_pi26, mk_pi27, mk_pi29, mk_pi32, mk_ia1, mk_ia2, mk_ia3, mk_ia4, mk_ia5, mk_ia6, mk_ia7, mk_ia8, mk_ia9, mk_ia10, mk_ia11, mk_ia12, mk_ia13, mk_ia14, mk_ia15, mk_ia16, mk_is1, mk_is2, mk_is3, mk_is4, mk_is5, mk_is6, mk_is7, mk_is8, mk_is9, mk_is10, mk_is11, mk_is12, mk_is13, mk_is14, mk_is15, mk_is16, L0, L1, L2, L3, L4, L5, L6, L7, L8, L9, L10, L12, L20, L22, L24, L26, L27, L28, L32, L40, L60, L73, L95, L97, L222, L240, L441, L442, L622, Lm1, Lmh, L11, L13, L14, L15, L16, L17, L18, L19, L21, L23, L25, L30, L31, L33, L36, L39, L41, L44, L48, L53, L54, L55, L57, L58, L59, L91, L93, L98, L99, L100, L105, L106, L112, L114, L115, L119, L122, L160, L180, L200, L255, L1440, L24880, L63, Lm2, pX10_takesNow, m_long hN ho hk]
    rw [show ((k : Int) + 1) = ((k + 1 : Nat) : Int) by omega, e1]
    simp (disch := (first | assumption | (refine sm_of ?_ ?_ <;> omega) | omega)) only [iI_add, iI_sub, iI_mul, iI_neg, iI_lt, iI_le, iI_eq, b1_s, b2_s, ↓reduceIte, mk_v, mk_gl23, mk_pl23, mk_gr1, mk_gr5, mk_gr6, mk_gr8, mk_gr9, mk_gr11, mk_gr13, mk_gr14, mk_gr15, mk_gr17, mk_gr18, mk_gr21, mk_gr24, mk_gr28, mk_gr30, mk_gr31, mk_gi0, mk_gi2, mk_gi3, mk_gi4, mk_gi7, mk_gi10, mk_gi12, mk_gi16, mk_gi19, mk_gi20, mk_gi22, mk_gi25, mk_gi26, mk_gi27, mk_gi29, mk_gi32, mk_pi0, mk_pi2, mk_pi3, mk_pi4, mk_pi7, mk_pi10, mk_pi12, mk_pi16, mk_pi19, mk_pi20, mk_pi22, mk_pi25, mk_pi26, mk_pi27, mk_pi29, mk_pi32, mk_ia1, mk_ia2, mk_ia3, mk_ia4, mk_ia5, mk_ia6, mk_ia7, mk_ia8, mk_ia9, mk_ia10, mk_ia11, mk_ia12, mk_ia13, mk_ia14, mk_ia15, mk_ia16, mk_is1, mk_is2, mk_is3, mk_is4, mk_is5, mk_is6, mk_is7, mk_is8, mk_is9, mk_is10, mk_is11, mk_is12, mk_is13, mk_is14, mk_is15, mk_is16, L0, L1, L2, L3, L4, L5, L6, L7, L8, L9, L10, L12, L20, L22, L24, L26, L27, L28, L32, L40, L60, L73, L95, L97, L222, L240, L441, L442, L622, Lm1, Lmh, L11, L13, L14, L15, L16, L17, L18, L19, L21, L23, L25, L30, L31, L33, L36, L39, L41, L44, L48, L53, L54, L55, L57, L58, L59, L91, L93, L98, L99, L100, L105, L106, L112, L114, L115, L119, L122, L160, L180, L200, L255, L1440, L24880, L63, Lm2, pX10_takesNow_b34, setA_e, setA_setA, f0]
  · rw [upI_e, del_len hk]; omega
  · rw [del_len hk] at hi
    rw [lnN_del hk]
    by_cases c1 : i < k
    · rw [if_pos c1]
      obtain ⟨a1, a2, a3⟩ := hN.2 i (by omega)
      have l20 := (ho.2 i (by omega)).2.1
      refine ⟨?_, ?_, rowA_cg a3 (fun z hz' => ?_)⟩
      · rw [upI_n _ _ (by omega), r1, if_neg (by omega)]; exact a1
      · rw [upI_n _ _ (by omega), r1, if_neg (by omega)]; exact a2
      · rw [upI_n _ _ (by omega), r1, if_neg (by omega)]
    · rw [if_neg c1]
      obtain ⟨a1, a2, a3⟩ := hN.2 (i + 1) (by omega)
      have l20 := (ho.2 (i + 1) (by omega)).2.1
      refine ⟨?_, ?_, rowA_cg a3 (fun z hz' => ?_)⟩
      · rw [upI_n _ _ (by omega), r1, if_pos (by omega), show 2 + 22 * (i : Int) + 22 = 2 + 22 * ((i + 1 : Nat) : Int) by omega]; exact a1
      · rw [upI_n _ _ (by omega), r1, if_pos (by omega), show 2 + 22 * (i : Int) + 1 + 22 = 2 + 22 * ((i + 1 : Nat) : Int) + 1 by omega]; exact a2
      · rw [upI_n _ _ (by omega), r1, if_pos (by omega)]; exact congrArg (m.1 7) (by omega)
  · rw [upI_n _ _ (by omega), r1, if_neg (by omega)]
  · rw [upI_n _ _ (by omega), r1, if_neg (by omega)]
theorem m_swaps {n : Nat} (hn : 60 ≤ n) {M : mm_M} {am : Nat} {m : mS} {ls : List kL} (hN : NwL (m.1 7) ls) (ho : okL ls) {k o : Nat} (hk : k < ls.length) (hk' : o < ls.length) (hne : k ≠ o) : ∃ nw', pX10_swapsNow n (mk M am m) am (iI k) (iI o) = some (iI (lnN ls o).1, mk M am (setA m 7 nw')) ∧ NwL nw' ((ls.set k (lnN ls o)).set o (lnN ls k)) ∧ nw' 1 = m.1 7 1 ∧ ∀ q : Int, 222 ≤ q → nw' q = m.1 7 q := by
  have h0 := hN.1
  have c10 := ho.1
  have loop : ∀ (q i : Nat) (f : Int → Int), i ≤ 22 → 22 < i + q → (∀ z : Int, f z = if 2 + 22 * (k : Int) ≤ z ∧ z < 2 + 22 * k + i then m.1 7 (z + 22 * ((o : Int) - k)) else if 2 + 22 * (o : Int) ≤ z ∧ z < 2 + 22 * o + i then m.1 7 (z + 22 * ((k : Int) - o)) else m.1 7 z) → ∃ nw', pX10_swapsNow_l2 n q (mk M am (setA m 7 f)) am (iI k) (iI o) (iI i) = some (iI (nw' (2 + 22 * k)), mk M am (setA m 7 nw')) ∧ ∀ z : Int, nw' z = if 2 + 22 * (k : Int) ≤ z ∧ z < 2 + 22 * k + 22 then m.1 7 (z + 22 * ((o : Int) - k)) else if 2 + 22 * (o : Int) ≤ z ∧ z < 2 + 22 * o + 22 then m.1 7 (z + 22 * ((k : Int) - o)) else m.1 7 z := by
    intro q
    induction q with
    | zero => intro i f h1 h2; omega
    | succ q ih =>
      intro i f h1 h2 h3
      show ∃ nw', pX10_swapsNow_l2b n (pX10_swapsNow_l2 n q) (mk M am (setA m 7 f)) am _ _ _ = _ ∧ _
      by_cases c : (22 : Int) ≤ i
      · refine ⟨f, ?_, fun z => ?_⟩
        · simp (disch := (first | assumption | (refine sm_of ?_ ?_ <;> omega) | omega)) only [iI_add, iI_sub, iI_mul, iI_neg, iI_lt, iI_le, iI_eq, b1_s, b2_s, ↓reduceIte, mk_v, mk_gl23, mk_pl23, mk_gr1, mk_gr5, mk_gr6, mk_gr8, mk_gr9, mk_gr11, mk_gr13, mk_gr14, mk_gr15, mk_gr17, mk_gr18, mk_gr21, mk_gr24, mk_gr28, mk_gr30, mk_gr31, mk_gi0, mk_gi2, mk_gi3, mk_gi4, mk_gi7, mk_gi10, mk_gi12, mk_gi16, mk_gi19, mk_gi20, mk_gi22, mk_gi25, mk_gi26, mk_gi27, mk_gi29, mk_gi32, mk_pi0, mk_pi2, mk_pi3, mk_pi4, mk_pi7, mk_pi10, mk_pi12, mk_pi16, mk_pi19, mk_pi20, mk_pi22, mk_pi25, mk_pi26, mk_pi27, mk_pi29, mk_pi32, mk_ia1, mk_ia2, mk_ia3, mk_ia4, mk_ia5, mk_ia6, mk_ia7, mk_ia8, mk_ia9, mk_ia10, mk_ia11, mk_ia12, mk_ia13, mk_ia14, mk_ia15, mk_ia16, mk_is1, mk_is2, mk_is3, mk_is4, mk_is5, mk_is6, mk_is7, mk_is8, mk_is9, mk_is10, mk_is11, mk_is12, mk_is13, mk_is14, mk_is15, mk_is16, L0, L1, L2, L3, L4, L5, L6, L7, L8, L9, L10, L12, L20, L22, L24, L26, L27, L28, L32, L40, L60, L73, L95, L97, L222, L240, L441, L442, L622, Lm1, Lmh, L11, L13, L14, L15, L16, L17, L18, L19, L21, L23, L25, L30, L31, L33, L36, L39, L41, L44, L48, L53, L54, L55, L57, L58, L59, L91, L93, L98, L99, L100, L105, L106, L112, L114, L115, L119, L122, L160, L180, L200, L255, L1440, L24880, L63, Lm2, pX10_swapsNow_l2b, c, pX10_numberOf, pX10_lineAt, setA_e, Int.add_zero]
        · rw [h3 z, show i = 22 by omega]; rfl
      · obtain ⟨nw, e1, r1⟩ := ih (i + 1) (upI (upI f (2 + 22 * k + i) (f (2 + 22 * o + i))) (2 + 22 * o + i) (f (2 + 22 * k + i))) (by omega) (by omega) (fun z => by
          by_cases e : z = 2 + 22 * o + i
          · rw [e, upI_e, if_neg (by omega), if_pos (by omega), h3, if_neg (by omega), if_neg (by omega)]; exact congrArg (m.1 7) (by omega)
          · rw [upI_n _ _ e]
            by_cases e2 : z = 2 + 22 * k + i
            · rw [e2, upI_e, if_pos (by omega), h3, if_neg (by omega), if_neg (by omega)]; exact congrArg (m.1 7) (by omega)
            · rw [upI_n _ _ e2, h3 z]
              by_cases g : 2 + 22 * (k : Int) ≤ z ∧ z < 2 + 22 * k + i
              · rw [if_pos g, if_pos (by omega)]
              · by_cases g2 : 2 + 22 * (o : Int) ≤ z ∧ z < 2 + 22 * o + i
                · rw [if_neg g, if_pos g2, if_neg (by omega), if_pos (by omega)]
                · rw [if_neg g, if_neg g2, if_neg (by omega), if_neg (by omega)])
        refine ⟨nw, ?_, r1⟩
        simp (disch := (first | assumption | (refine sm_of ?_ ?_ <;> omega) | omega)) only [iI_add, iI_sub, iI_mul, iI_neg, iI_lt, iI_le, iI_eq, b1_s, b2_s, ↓reduceIte, mk_v, mk_gl23, mk_pl23, mk_gr1, mk_gr5, mk_gr6, mk_gr8, mk_gr9, mk_gr11, mk_gr13, mk_gr14, mk_gr15, mk_gr17, mk_gr18, mk_gr21, mk_gr24, mk_gr28, mk_gr30, mk_gr31, mk_gi0, mk_gi2, mk_gi3, mk_gi4, mk_gi7, mk_gi10, mk_gi12, mk_gi16, mk_gi19, mk_gi20, mk_gi22, mk_gi25, mk_gi26, mk_gi27, mk_gi29, mk_gi32, mk_pi0, mk_pi2, mk_pi3, mk_pi4, mk_pi7, mk_pi10, mk_pi12, mk_pi16, mk_pi19, mk_pi20, mk_pi22, mk_pi25, mk_pi26, mk_pi27, mk_pi29, mk_pi32, mk_ia1, mk_ia2, mk_ia3, mk_ia4, mk_ia5, mk_ia6, mk_ia7, mk_ia8, mk_ia9, mk_ia10, mk_ia11, mk_ia12, mk_ia13, mk_ia14, mk_ia15, mk_ia16, mk_is1, mk_is2, mk_is3, mk_is4, mk_is5, mk_is6, mk_is7, mk_is8, mk_is9, mk_is10, mk_is11, mk_is12, mk_is13, mk_is14, mk_is15, mk_is16, L0, L1, L2, L3, L4, L5, L6, L7, L8, L9, L10, L12, L20, L22, L24, L26, L27, L28, L32, L40, L60, L73, L95, L97, L222, L240, L441, L442, L622, Lm1, Lmh, L11, L13, L14, L15, L16, L17, L18, L19, L21, L23, L25, L30, L31, L33, L36, L39, L41, L44, L48, L53, L54, L55, L57, L58, L59, L91, L93, L98, L99, L100, L105, L106, L112, L114, L115, L119, L122, L160, L180, L200, L255, L1440, L24880, L63, Lm2, pX10_swapsNow_l2b, pX10_lineAt, c, setA_e, setA_setA]
        rw [show ((i : Int) + 1) = ((i + 1 : Nat) : Int) by omega]
        exact e1
  obtain ⟨f, e1, r1⟩ := loop n 0 (m.1 7) (by omega) (by omega) (fun z => by rw [if_neg (by omega), if_neg (by omega)])
  rw [setA_self] at e1
  have hl : ((ls.set k (lnN ls o)).set o (lnN ls k)).length = ls.length := by simp
  refine ⟨f, ?_, ⟨?_, fun i hi => ?_⟩, ?_, fun q hq => ?_⟩
  · have e0 : f (2 + 22 * k) = (lnN ls o).1 := by
      rw [r1, if_pos (by omega), ← (hN.2 o hk').1]; exact congrArg (m.1 7) (by omega)
    rw [e0] at e1
    simp only [pX10_swapsNow, mk_v]
    exact e1
  · rw [r1, if_neg (by omega), if_neg (by omega), hl]; exact h0
  · rw [hl] at hi
    rw [lnN_set (by simp; exact hk'), lnN_set hk]
    by_cases c1 : i = o
    · rw [if_pos c1, c1]
      obtain ⟨a1, a2, a3⟩ := hN.2 k hk
      have l20 := (ho.2 k hk).2.1
      refine ⟨?_, ?_, rowA_cg a3 (fun z hz' => ?_)⟩
      · rw [r1, if_neg (by omega), if_pos (by omega), ← a1]; exact congrArg (m.1 7) (by omega)
      · rw [r1, if_neg (by omega), if_pos (by omega), ← a2]; exact congrArg (m.1 7) (by omega)
      · rw [r1, if_neg (by omega), if_pos (by omega)]; exact congrArg (m.1 7) (by omega)
    · rw [if_neg c1]
      by_cases c2 : i = k
      · rw [if_pos c2, c2]
        obtain ⟨a1, a2, a3⟩ := hN.2 o hk'
        have l20 := (ho.2 o hk').2.1
        refine ⟨?_, ?_, rowA_cg a3 (fun z hz' => ?_)⟩
        · rw [r1, if_pos (by omega), ← a1]; exact congrArg (m.1 7) (by omega)
        · rw [r1, if_pos (by omega), ← a2]; exact congrArg (m.1 7) (by omega)
        · rw [r1, if_pos (by omega)]; exact congrArg (m.1 7) (by omega)
      · rw [if_neg c2]
        obtain ⟨a1, a2, a3⟩ := hN.2 i hi
        have l20 := (ho.2 i hi).2.1
        refine ⟨?_, ?_, rowA_cg a3 (fun z hz' => ?_)⟩
        · rw [r1, if_neg (by omega), if_neg (by omega)]; exact a1
        · rw [r1, if_neg (by omega), if_neg (by omega)]; exact a2
        · rw [r1, if_neg (by omega), if_neg (by omega)]
  · rw [r1, if_neg (by omega), if_neg (by omega)]
  · rw [r1, if_neg (by omega), if_neg (by omega)]
theorem m_joins {n : Nat} (hn : 60 ≤ n) {M : mm_M} {am : Nat} {m : mS} {ls : List kL} (hN : NwL (m.1 7) ls) (ho : okL ls) {k : Nat} (hk : k + 1 < ls.length) (hl : (lnN ls k).2.length + (lnN ls (k + 1)).2.length ≤ 20) : ∃ nw', pX10_joinsNow n (mk M am m) am (iI k) = some (iI ((lnN ls k).2.length + (lnN ls (k + 1)).2.length : Nat), mk M am (setA m 7 nw')) ∧ NwL nw' (delL (ls.set k ((lnN ls k).1, (lnN ls k).2 ++ (lnN ls (k + 1)).2)) (k + 1)) ∧ nw' 1 = m.1 7 1 ∧ ∀ q : Int, 222 ≤ q → nw' q = m.1 7 q := by
  have h0 := hN.1
  have c10 := ho.1
  obtain ⟨a1, a2, a3⟩ := hN.2 k (by omega)
  obtain ⟨b1, b2, b3⟩ := hN.2 (k + 1) hk
  have ok1 := ho.2 k (by omega)
  have ok2 := ho.2 (k + 1) hk
  have loop : ∀ (q i : Nat) (f : Int → Int), i ≤ (lnN ls (k + 1)).2.length → (lnN ls (k + 1)).2.length < i + q → (∀ z : Int, f z = if 2 + 22 * (k : Int) + 2 + (lnN ls k).2.length ≤ z ∧ z < 2 + 22 * k + 2 + (lnN ls k).2.length + i then m.1 7 (z + 22 - (lnN ls k).2.length) else m.1 7 z) → ∃ nw', pX10_joinsNow_l8 n q (mk M am (setA m 7 f)) am (iI k) (iI (lnN ls k).2.length) (iI i) = pX10_joinsNow_b48 n (mk M am (setA m 7 nw')) am (iI k) ∧ ∀ z : Int, nw' z = if 2 + 22 * (k : Int) + 2 + (lnN ls k).2.length ≤ z ∧ z < 2 + 22 * k + 2 + (lnN ls k).2.length + (lnN ls (k + 1)).2.length then m.1 7 (z + 22 - (lnN ls k).2.length) else m.1 7 z := by
    intro q
    induction q with
    | zero => intro i f h1 h2; omega
    | succ q ih =>
      intro i f h1 h2 h3
      show ∃ nw', pX10_joinsNow_l8b n (pX10_joinsNow_l8 n q) (mk M am (setA m 7 f)) am _ _ _ = _ ∧ _
      have e0 : f (2 + 22 * ((k : Int) + 1) + 1) = (lnN ls (k + 1)).2.length := by
        rw [h3, if_neg (by omega), ← b2]; exact congrArg (m.1 7) (by omega)
      by_cases c : ((lnN ls (k + 1)).2.length : Int) ≤ i
      · refine ⟨f, ?_, fun z => ?_⟩
        · simp (disch := (first | assumption | (refine sm_of ?_ ?_ <;> omega) | omega)) only [iI_add, iI_sub, iI_mul, iI_neg, iI_lt, iI_le, iI_eq, b1_s, b2_s, ↓reduceIte, mk_v, mk_gl23, mk_pl23, mk_gr1, mk_gr5, mk_gr6, mk_gr8, mk_gr9, mk_gr11, mk_gr13, mk_gr14, mk_gr15, mk_gr17, mk_gr18, mk_gr21, mk_gr24, mk_gr28, mk_gr30, mk_gr31, mk_gi0, mk_gi2, mk_gi3, mk_gi4, mk_gi7, mk_gi10, mk_gi12, mk_gi16, mk_gi19, mk_gi20, mk_gi22, mk_gi25, mk_gi26, mk_gi27, mk_gi29, mk_gi32, mk_pi0, mk_pi2, mk_pi3, mk_pi4, mk_pi7, mk_pi10, mk_pi12, mk_pi16, mk_pi19, mk_pi20, mk_pi22, mk_pi25, mk_pi26, mk_pi27, mk_pi29, mk_pi32, mk_ia1, mk_ia2, mk_ia3, mk_ia4, mk_ia5, mk_ia6, mk_ia7, mk_ia8, mk_ia9, mk_ia10, mk_ia11, mk_ia12, mk_ia13, mk_ia14, mk_ia15, mk_ia16, mk_is1, mk_is2, mk_is3, mk_is4, mk_is5, mk_is6, mk_is7, mk_is8, mk_is9, mk_is10, mk_is11, mk_is12, mk_is13, mk_is14, mk_is15, mk_is16, L0, L1, L2, L3, L4, L5, L6, L7, L8, L9, L10, L12, L20, L22, L24, L26, L27, L28, L32, L40, L60, L73, L95, L97, L222, L240, L441, L442, L622, Lm1, Lmh, L11, L13, L14, L15, L16, L17, L18, L19, L21, L23, L25, L30, L31, L33, L36, L39, L41, L44, L48, L53, L54, L55, L57, L58, L59, L91, L93, L98, L99, L100, L105, L106, L112, L114, L115, L119, L122, L160, L180, L200, L255, L1440, L24880, L63, Lm2, pX10_joinsNow_l8b, pX10_longOf, pX10_lineAt, setA_e, e0, c]
        · rw [h3 z, show i = (lnN ls (k + 1)).2.length by omega]
      · have e2 : f (2 + 22 * ((k : Int) + 1) + 2 + i) = m.1 7 (2 + 22 * ((k : Int) + 1) + 2 + i) := by rw [h3, if_neg (by omega)]
        obtain ⟨nw, e1, r1⟩ := ih (i + 1) (upI f (2 + 22 * k + 2 + (lnN ls k).2.length + i) (m.1 7 (2 + 22 * ((k : Int) + 1) + 2 + i))) (by omega) (by omega) (fun z => by
          by_cases e : z = 2 + 22 * k + 2 + (lnN ls k).2.length + i
          · rw [e, upI_e, if_pos (by omega)]; exact congrArg (m.1 7) (by omega)
          · rw [upI_n _ _ e, h3 z]
            by_cases g : 2 + 22 * (k : Int) + 2 + (lnN ls k).2.length ≤ z ∧ z < 2 + 22 * k + 2 + (lnN ls k).2.length + i
            · rw [if_pos g, if_pos (by omega)]
            · rw [if_neg g, if_neg (by omega)])
        refine ⟨nw, ?_, r1⟩
        simp (disch := (first | assumption | (refine sm_of ?_ ?_ <;> omega) | omega)) only [iI_add, iI_sub, iI_mul, iI_neg, iI_lt, iI_le, iI_eq, b1_s, b2_s, ↓reduceIte, mk_v, mk_gl23, mk_pl23, mk_gr1, mk_gr5, mk_gr6, mk_gr8, mk_gr9, mk_gr11, mk_gr13, mk_gr14, mk_gr15, mk_gr17, mk_gr18, mk_gr21, mk_gr24, mk_gr28, mk_gr30, mk_gr31, mk_gi0, mk_gi2, mk_gi3, mk_gi4, mk_gi7, mk_gi10, mk_gi12, mk_gi16, mk_gi19, mk_gi20, mk_gi22, mk_gi25, mk_gi26, mk_gi27, mk_gi29, mk_gi32, mk_pi0, mk_pi2, mk_pi3, mk_pi4, mk_pi7, mk_pi10, mk_pi12, mk_pi16, mk_pi19, mk_pi20, mk_pi22, mk_pi25, mk_pi26, mk_pi27, mk_pi29, mk_pi32, mk_ia1, mk_ia2, mk_ia3, mk_ia4, mk_ia5, mk_ia6, mk_ia7, mk_ia8, mk_ia9, mk_ia10, mk_ia11, mk_ia12, mk_ia13, mk_ia14, mk_ia15, mk_ia16, mk_is1, mk_is2, mk_is3, mk_is4, mk_is5, mk_is6, mk_is7, mk_is8, mk_is9, mk_is10, mk_is11, mk_is12, mk_is13, mk_is14, mk_is15, mk_is16, L0, L1, L2, L3, L4, L5, L6, L7, L8, L9, L10, L12, L20, L22, L24, L26, L27, L28, L32, L40, L60, L73, L95, L97, L222, L240, L441, L442, L622, Lm1, Lmh, L11, L13, L14, L15, L16, L17, L18, L19, L21, L23, L25, L30, L31, L33, L36, L39, L41, L44, L48, L53, L54, L55, L57, L58, L59, L91, L93, L98, L99, L100, L105, L106, L112, L114, L115, L119, L122, L160, L180, L200, L255, L1440, L24880, L63, Lm2, pX10_joinsNow_l8b, pX10_longOf, pX10_signAt, pX10_lineAt, setA_e, e0, c, e2, setA_setA]
        rw [show ((i : Int) + 1) = ((i + 1 : Nat) : Int) by omega]
        exact e1
  obtain ⟨f, e1, r1⟩ := loop n 0 (m.1 7) (by omega) (by omega) (fun z => by rw [if_neg (by omega)])
  rw [setA_self] at e1
  generalize hls : ls.set k ((lnN ls k).1, (lnN ls k).2 ++ (lnN ls (k + 1)).2) = ls'
  have hl' : ls'.length = ls.length := by rw [← hls]; simp
  have hg : ∀ i, lnN ls' i = if i = k then ((lnN ls k).1, (lnN ls k).2 ++ (lnN ls (k + 1)).2) else lnN ls i := by intro i; rw [← hls]; exact lnN_set (by omega) _ i
  have ho' : okL ls' := by
    refine ⟨by omega, fun i hi => ?_⟩
    rw [hg]
    by_cases c : i = k
    · rw [if_pos c]
      refine ⟨by simp; omega, by simp; omega, fun x hx => ?_, ok1.2.2.2⟩
      rcases List.mem_append.mp hx with h | h
      · exact ok1.2.2.1 x h
      · exact ok2.2.2.1 x h
    · rw [if_neg c]; exact ho.2 i (by omega)
  have hN' : NwL ((setA m 7 (upI f (2 + 22 * k + 1) ((lnN ls k).2.length + (lnN ls (k + 1)).2.length))).1 7) ls' := by
    rw [setA_e]
    refine ⟨by rw [upI_n _ _ (by omega), r1, if_neg (by omega), hl']; exact h0, fun i hi => ?_⟩
    rw [hg]
    by_cases c : i = k
    · rw [if_pos c, c]
      refine ⟨?_, ?_, fun z hz => ?_⟩
      · rw [upI_n _ _ (by omega), r1, if_neg (by omega)]; exact a1
      · rw [upI_e]; simp
      · have hz' : z < (lnN ls k).2.length + (lnN ls (k + 1)).2.length := by simpa using hz
        rw [upI_n _ _ (by omega), r1]
        by_cases d : z < (lnN ls k).2.length
        · rw [if_neg (by omega), a3 z d, List.getD_eq_getElem?_getD, List.getD_eq_getElem?_getD, List.getElem?_append_left d]
        · rw [if_pos (by omega), List.getD_eq_getElem?_getD, List.getElem?_append_right (by omega), ← List.getD_eq_getElem?_getD, ← b3 (z - (lnN ls k).2.length) (by omega)]
          exact congrArg (m.1 7) (by omega)
    · rw [if_neg c]
      obtain ⟨c1, c2, c3⟩ := hN.2 i (by omega)
      have l20 := (ho.2 i (by omega)).2.1
      refine ⟨?_, ?_, rowA_cg c3 (fun z hz' => ?_)⟩
      · rw [upI_n _ _ (by omega), r1, if_neg (by omega)]; exact c1
      · rw [upI_n _ _ (by omega), r1, if_neg (by omega)]; exact c2
      · rw [upI_n _ _ (by omega), r1, if_neg (by omega)]
  obtain ⟨g, e2, n2, g1, g2⟩ := m_takes hn (M := M) (am := am) hN' ho' (k := k + 1) (by omega)
  rw [setA_setA, setA_e] at *
  have f1 : f (2 + 22 * k + 1) = (lnN ls k).2.length := by rw [r1, if_neg (by omega)]; exact a2
  have f2 : f (2 + 22 * ((k : Int) + 1) + 1) = (lnN ls (k + 1)).2.length := by rw [r1, if_neg (by omega), ← b2]; exact congrArg (m.1 7) (by omega)
  have gk : g (2 + 22 * k + 1) = ((lnN ls k).2.length + (lnN ls (k + 1)).2.length : Nat) := by
    have := (n2.2 k (by rw [del_len (by omega)]; omega)).2.1
    rw [lnN_del (by omega), if_pos (by omega), hg, if_pos rfl] at this
    rw [this]; simp
  refine ⟨g, ?_, n2, ?_, fun q hq => ?_⟩
  · simp (disch := (first | assumption | (refine sm_of ?_ ?_ <;> omega) | omega)) only [iI_add, iI_sub, iI_mul, iI_neg, iI_lt, iI_le, iI_eq, b1_s, b2_s, ↓reduceIte, mk_v, mk_gl23, mk_pl23, mk_gr1, mk_gr5, mk_gr6, mk_gr8, mk_gr9, mk_gr11, mk_gr13, mk_gr14, mk_gr15, mk_gr17, mk_gr18, mk_gr21, mk_gr24, mk_gr28, mk_gr30, mk_gr31, mk_gi0, mk_gi2, mk_gi3, mk_gi4, mk_gi7, mk_gi10, mk_gi12, mk_gi16, mk_gi19, mk_gi20, mk_gi22, mk_gi25, mk_gi26, mk_gi27, mk_gi29, mk_gi32, mk_pi0, mk_pi2, mk_pi3, mk_pi4, mk_pi7, mk_pi10, mk_pi12, mk_pi16, mk_pi19, mk_pi20, mk_pi22, mk_pi25, mk_pi26, mk_pi27, mk_pi29, mk_pi32, mk_ia1, mk_ia2, mk_ia3, mk_ia4, mk_ia5, mk_ia6, mk_ia7, mk_ia8, mk_ia9, mk_ia10, mk_ia11, mk_ia12, mk_ia13, mk_ia14, mk_ia15, mk_ia16, mk_is1, mk_is2, mk_is3, mk_is4, mk_is5, mk_is6, mk_is7, mk_is8, mk_is9, mk_is10, mk_is11, mk_is12, mk_is13, mk_is14, mk_is15, mk_is16, L0, L1, L2, L3, L4, L5, L6, L7, L8, L9, L10, L12, L20, L22, L24, L26, L27, L28, L32, L40, L60, L73, L95, L97, L222, L240, L441, L442, L622, Lm1, Lmh, L11, L13, L14, L15, L16, L17, L18, L19, L21, L23, L25, L30, L31, L33, L36, L39, L41, L44, L48, L53, L54, L55, L57, L58, L59, L91, L93, L98, L99, L100, L105, L106, L112, L114, L115, L119, L122, L160, L180, L200, L255, L1440, L24880, L63, Lm2, pX10_joinsNow, m_long hN ho (show k < ls.length by omega)]
    rw [show (0 : Int) = ((0 : Nat) : Int) from rfl, e1]
    simp (disch := (first | assumption | (refine sm_of ?_ ?_ <;> omega) | omega)) only [iI_add, iI_sub, iI_mul, iI_neg, iI_lt, iI_le, iI_eq, b1_s, b2_s, ↓reduceIte, mk_v, mk_gl23, mk_pl23, mk_gr1, mk_gr5, mk_gr6, mk_gr8, mk_gr9, mk_gr11, mk_gr13, mk_gr14, mk_gr15, mk_gr17, mk_gr18, mk_gr21, mk_gr24, mk_gr28, mk_gr30, mk_gr31, mk_gi0, mk_gi2, mk_gi3, mk_gi4, mk_gi7, mk_gi10, mk_gi12, mk_gi16, mk_gi19, mk_gi20, mk_gi22, mk_gi25, mk_gi26, mk_gi27, mk_gi29, mk_gi32, mk_pi0, mk_pi2, mk_pi3, mk_pi4, mk_pi7, mk_pi10, mk_pi12, mk_pi16, mk_pi19, mk_pi20, mk_pi22, mk_pi25, mk_pi26, mk_pi27, mk_pi29, mk_pi32, mk_ia1, mk_ia2, mk_ia3, mk_ia4, mk_ia5, mk_ia6, mk_ia7, mk_ia8, mk_ia9, mk_ia10, mk_ia11, mk_ia12, mk_ia13, mk_ia14, mk_ia15, mk_ia16, mk_is1, mk_is2, mk_is3, mk_is4, mk_is5, mk_is6, mk_is7, mk_is8, mk_is9, mk_is10, mk_is11, mk_is12, mk_is13, mk_is14, mk_is15, mk_is16, L0, L1, L2, L3, L4, L5, L6, L7, L8, L9, L10, L12, L20, L22, L24, L26, L27, L28, L32, L40, L60, L73, L95, L97, L222, L240, L441, L442, L622, Lm1, Lmh, L11, L13, L14, L15, L16, L17, L18, L19, L21, L23, L25, L30, L31, L33, L36, L39, L41, L44, L48, L53, L54, L55, L57, L58, L59, L91, L93, L98, L99, L100, L105, L106, L112, L114, L115, L119, L122, L160, L180, L200, L255, L1440, L24880, L63, Lm2, pX10_joinsNow_b48, pX10_lineAt, pX10_longOf, setA_e, f1, f2, setA_setA]
    rw [show ((k : Int) + 1) = ((k + 1 : Nat) : Int) by omega, e2]
    simp (disch := (first | assumption | (refine sm_of ?_ ?_ <;> omega) | omega)) only [iI_add, iI_sub, iI_mul, iI_neg, iI_lt, iI_le, iI_eq, b1_s, b2_s, ↓reduceIte, mk_v, mk_gl23, mk_pl23, mk_gr1, mk_gr5, mk_gr6, mk_gr8, mk_gr9, mk_gr11, mk_gr13, mk_gr14, mk_gr15, mk_gr17, mk_gr18, mk_gr21, mk_gr24, mk_gr28, mk_gr30, mk_gr31, mk_gi0, mk_gi2, mk_gi3, mk_gi4, mk_gi7, mk_gi10, mk_gi12, mk_gi16, mk_gi19, mk_gi20, mk_gi22, mk_gi25, mk_gi26, mk_gi27, mk_gi29, mk_gi32, mk_pi0, mk_pi2, mk_pi3, mk_pi4, mk_pi7, mk_pi10, mk_pi12, mk_pi16, mk_pi19, mk_pi20, mk_pi22, mk_pi25, mk_pi26, mk_pi27, mk_pi29, mk_pi32, mk_ia1, mk_ia2, mk_ia3, mk_ia4, mk_ia5, mk_ia6, mk_ia7, mk_ia8, mk_ia9, mk_ia10, mk_ia11, mk_ia12, mk_ia13, mk_ia14, mk_ia15, mk_ia16, mk_is1, mk_is2, mk_is3, mk_is4, mk_is5, mk_is6, mk_is7, mk_is8, mk_is9, mk_is10, mk_is11, mk_is12, mk_is13, mk_is14, mk_is15, mk_is16, L0, L1, L2, L3, L4, L5, L6, L7, L8, L9, L10, L12, L20, L22, L24, L26, L27, L28, L32, L40, L60, L73, L95, L97, L222, L240, L441, L442, L622, Lm1, Lmh, L11, L13, L14, L15, L16, L17, L18, L19, L21, L23, L25, L30, L31, L33, L36, L39, L41, L44, L48, L53, L54, L55, L57, L58, L59, L91, L93, L98, L99, L100, L105, L106, L112, L114, L115, L119, L122, L160, L180, L200, L255, L1440, L24880, L63, Lm2, setA_e, gk]
  · rw [g1, upI_n _ _ (by omega), r1, if_neg (by omega)]
  · rw [g2 q hq, upI_n _ _ (by omega), r1, if_neg (by omega)]
