def fbP (ls : List kL) (w : List Int) (i : Nat) (L : List kH) (p : Nat) : List kH := (List.range p).foldl (fun L q => if hasAt (lnN ls i).2 w q = true then insB (ltH ls w.length) (i, q) L else L) L
def fbL (ls : List kL) (w : List Int) (k : Nat) : List kH := (List.range k).foldl (fun L i => fbP ls w i L (lnN ls i).2.length) []
theorem fbP_succ (ls : List kL) (w : List Int) (i : Nat) (L : List kH) (p : Nat) : fbP ls w i L (p + 1) = if hasAt (lnN ls i).2 w p = true then insB (ltH ls w.length) (i, p) (fbP ls w i L p) else fbP ls w i L p := by
  unfold fbP; rw [List.range_succ, List.foldl_append]; rfl
theorem fbL_succ (ls : List kL) (w : List Int) (k : Nat) : fbL ls w (k + 1) = fbP ls w k (fbL ls w k) (lnN ls k).2.length := by
  unfold fbL; rw [List.range_succ, List.foldl_append]; rfl
theorem okH_insB {ls : List kL} {L : List kH} (h : okH ls L) {lt : kH → kH → Bool} {x : kH} (hx : x.1 < ls.length ∧ x.2 < (lnN ls x.1).2.length) : okH ls (insB lt x L) := by
  intro y hy
  unfold insB at hy
  rcases List.mem_append.mp hy with q | q
  · exact h y (List.mem_of_mem_take q)
  · rcases List.mem_cons.mp q with q | q
    · rw [q]; exact hx
    · exact h y (List.mem_of_mem_drop q)
theorem m_lays {n : Nat} (hn : 300 ≤ n) {M : mm_M} {am : Nat} {m : mS} {ls : List kL} (hN : NwL (m.1 7) ls) (ho : okL ls) {w : List Int} (hw : okS w) (hwl : w.length ≤ 20) {j : Nat} (hj0 : 0 < j) (hj : j < 17) (hj1 : j ≠ 10) (hj2 : j ≠ 11) {o : Int} (ho0 : 0 ≤ o) (ho1 : o + w.length ≤ mz j) (hz : mz j ≤ 100000) (hr : rowA (m.1 j) o w) : ∃ m', pX10_laysHits n (mk M am m) am (am + j) (iI o) (iI w.length) = some (mk M am m') ∧ Hl m' (fbL ls w ls.length) ∧ okH ls (fbL ls w ls.length) ∧ sx m m' ∧ m'.1 0 20 = w.length := by
  have c10 := ho.1
  have places : ∀ (K : mm_M → Nat → Nat → Int32 → Int32 → Int32 → Option mm_M) (i : Nat) (Z : List kH), i < ls.length → ∀ (q p : Nat) (m : mS), NwL (m.1 7) ls → rowA (m.1 j) o w → m.1 0 20 = w.length → Hl m (fbP ls w i Z p) → okH ls (fbP ls w i Z p) → (fbP ls w i Z p).length ≤ 20 * i + p → p ≤ (lnN ls i).2.length → (lnN ls i).2.length < p + q → ∃ m', pX10_laysHits_l27 n K q (mk M am m) am (am + j) (iI o) (iI w.length) (iI i) (iI p) = K (mk M am m') am (am + j) (iI o) (iI w.length) (iI ((i + 1 : Nat) : Int)) ∧ Hl m' (fbP ls w i Z (lnN ls i).2.length) ∧ okH ls (fbP ls w i Z (lnN ls i).2.length) ∧ (fbP ls w i Z (lnN ls i).2.length).length ≤ 20 * (i + 1) ∧ sx m m' ∧ m'.1 0 20 = w.length := by
    intro K i Z hi q
    induction q with
    | zero => intro p m _ _ _ _ _ _ h1 h2; omega
    | succ q ih =>
      intro p m hN hr hw20 hH hok hlen h1 h2
      show ∃ m', pX10_laysHits_l27b n K (pX10_laysHits_l27 n K q) (mk M am m) am _ _ _ _ _ = _ ∧ _
      have l20 := (ho.2 i hi).2.1
      by_cases d : ((lnN ls i).2.length : Int) ≤ p
      · have ep : p = (lnN ls i).2.length := by omega
        refine ⟨m, ?_, by rw [← ep]; exact hH, by rw [← ep]; exact hok, by rw [← ep]; omega, sx.rfl, hw20⟩
        simp (disch := (first | assumption | (refine sm_of ?_ ?_ <;> omega) | omega)) only [iI_add, iI_sub, iI_mul, iI_neg, iI_lt, iI_le, iI_eq, b1_s, b2_s, ↓reduceIte, mk_v, mk_gl23, mk_pl23, mk_gr1, mk_gr5, mk_gr6, mk_gr8, mk_gr9, mk_gr11, mk_gr13, mk_gr14, mk_gr15, mk_gr17, mk_gr18, mk_gr21, mk_gr24, mk_gr28, mk_gr30, mk_gr31, mk_gi0, mk_gi2, mk_gi3, mk_gi4, mk_gi7, mk_gi10, mk_gi12, mk_gi16, mk_gi19, mk_gi20, mk_gi22, mk_gi25, mk_gi26, mk_gi27, mk_gi29, mk_gi32, mk_pi0, mk_pi2, mk_pi3, mk_pi4, mk_pi7, mk_pi10, mk_pi12, mk_pi16, mk_pi19, mk_pi20, mk_pi22, mk_pi25, mk_pi26, mk_pi27, mk_pi29, mk_pi32, mk_ia1, mk_ia2, mk_ia3, mk_ia4, mk_ia5, mk_ia6, mk_ia7, mk_ia8, mk_ia9, mk_ia10, mk_ia11, mk_ia12, mk_ia13, mk_ia14, mk_ia15, mk_ia16, mk_is1, mk_is2, mk_is3, mk_is4, mk_is5, mk_is6, mk_is7, mk_is8, mk_is9, mk_is10, mk_is11, mk_is12, mk_is13, mk_is14, mk_is15, mk_is16, L0, L1, L2, L3, L4, L5, L6, L7, L8, L9, L10, L12, L20, L22, L24, L26, L27, L28, L32, L40, L60, L73, L95, L97, L222, L240, L441, L442, L622, Lm1, Lmh, L11, L13, L14, L15, L16, L17, L18, L19, L21, L23, L25, L30, L31, L33, L36, L39, L41, L44, L48, L53, L54, L55, L57, L58, L59, L91, L93, L98, L99, L100, L105, L106, L112, L114, L115, L119, L122, L160, L180, L200, L255, L1440, L24880, L63, Lm2, pX10_laysHits_l27b, m_long hN ho hi, d]
        rw [show ((i : Int) + 1) = ((i + 1 : Nat) : Int) by omega]
      · have st := m_stands (show 60 ≤ n by omega) (M := M) (am := am) hN ho hw hwl hj0 hj ho0 ho1 hz hr hi (show p ≤ _ by omega)
        have ss := fbP_succ ls w i Z p
        cases e : hasAt (lnN ls i).2 w p
        · rw [e] at ss st
          rw [if_neg (by decide)] at ss
          rw [← ss] at hH hok hlen
          obtain ⟨m1, e1, r1⟩ := ih (p + 1) m hN hr hw20 hH hok (by omega) (by omega) (by omega)
          refine ⟨m1, ?_, r1⟩
          simp (disch := (first | assumption | (refine sm_of ?_ ?_ <;> omega) | omega)) only [iI_add, iI_sub, iI_mul, iI_neg, iI_lt, iI_le, iI_eq, b1_s, b2_s, ↓reduceIte, mk_v, mk_gl23, mk_pl23, mk_gr1, mk_gr5, mk_gr6, mk_gr8, mk_gr9, mk_gr11, mk_gr13, mk_gr14, mk_gr15, mk_gr17, mk_gr18, mk_gr21, mk_gr24, mk_gr28, mk_gr30, mk_gr31, mk_gi0, mk_gi2, mk_gi3, mk_gi4, mk_gi7, mk_gi10, mk_gi12, mk_gi16, mk_gi19, mk_gi20, mk_gi22, mk_gi25, mk_gi26, mk_gi27, mk_gi29, mk_gi32, mk_pi0, mk_pi2, mk_pi3, mk_pi4, mk_pi7, mk_pi10, mk_pi12, mk_pi16, mk_pi19, mk_pi20, mk_pi22, mk_pi25, mk_pi26, mk_pi27, mk_pi29, mk_pi32, mk_ia1, mk_ia2, mk_ia3, mk_ia4, mk_ia5, mk_ia6, mk_ia7, mk_ia8, mk_ia9, mk_ia10, mk_ia11, mk_ia12, mk_ia13, mk_ia14, mk_ia15, mk_ia16, mk_is1, mk_is2, mk_is3, mk_is4, mk_is5, mk_is6, mk_is7, mk_is8, mk_is9, mk_is10, mk_is11, mk_is12, mk_is13, mk_is14, mk_is15, mk_is16, L0, L1, L2, L3, L4, L5, L6, L7, L8, L9, L10, L12, L20, L22, L24, L26, L27, L28, L32, L40, L60, L73, L95, L97, L222, L240, L441, L442, L622, Lm1, Lmh, L11, L13, L14, L15, L16, L17, L18, L19, L21, L23, L25, L30, L31, L33, L36, L39, L41, L44, L48, L53, L54, L55, L57, L58, L59, L91, L93, L98, L99, L100, L105, L106, L112, L114, L115, L119, L122, L160, L180, L200, L255, L1440, L24880, L63, Lm2, pX10_laysHits_l27b, m_long hN ho hi, d, st, bI_0]
          rw [show ((p : Int) + 1) = ((p + 1 : Nat) : Int) by omega, e1]
        · rw [e] at ss st
          rw [if_pos rfl] at ss
          obtain ⟨m1, e1, s1, x1, w1⟩ := m_take hn (M := M) (am := am) hN ho hw20 hwl hH hok (by omega) hi (show p < _ by omega)
          rw [← ss] at s1
          have ok2 : okH ls (fbP ls w i Z (p + 1)) := by rw [ss]; exact okH_insB hok ⟨hi, by simp; omega⟩
          have ln2 : (fbP ls w i Z (p + 1)).length ≤ 20 * i + (p + 1) := by rw [ss, insB_len]; omega
          obtain ⟨m2, e2, a1, a2, a3, a4, a5⟩ := ih (p + 1) m1 (by rw [x1.2.1 7 (by decide) (by decide) (by decide)]; exact hN) (by rw [x1.2.1 j (by omega) hj1 hj2]; exact hr) w1 s1 ok2 ln2 (by omega) (by omega)
          refine ⟨m2, ?_, a1, a2, a3, x1.trans a4, a5⟩
          simp (disch := (first | assumption | (refine sm_of ?_ ?_ <;> omega) | omega)) only [iI_add, iI_sub, iI_mul, iI_neg, iI_lt, iI_le, iI_eq, b1_s, b2_s, ↓reduceIte, mk_v, mk_gl23, mk_pl23, mk_gr1, mk_gr5, mk_gr6, mk_gr8, mk_gr9, mk_gr11, mk_gr13, mk_gr14, mk_gr15, mk_gr17, mk_gr18, mk_gr21, mk_gr24, mk_gr28, mk_gr30, mk_gr31, mk_gi0, mk_gi2, mk_gi3, mk_gi4, mk_gi7, mk_gi10, mk_gi12, mk_gi16, mk_gi19, mk_gi20, mk_gi22, mk_gi25, mk_gi26, mk_gi27, mk_gi29, mk_gi32, mk_pi0, mk_pi2, mk_pi3, mk_pi4, mk_pi7, mk_pi10, mk_pi12, mk_pi16, mk_pi19, mk_pi20, mk_pi22, mk_pi25, mk_pi26, mk_pi27, mk_pi29, mk_pi32, mk_ia1, mk_ia2, mk_ia3, mk_ia4, mk_ia5, mk_ia6, mk_ia7, mk_ia8, mk_ia9, mk_ia10, mk_ia11, mk_ia12, mk_ia13, mk_ia14, mk_ia15, mk_ia16, mk_is1, mk_is2, mk_is3, mk_is4, mk_is5, mk_is6, mk_is7, mk_is8, mk_is9, mk_is10, mk_is11, mk_is12, mk_is13, mk_is14, mk_is15, mk_is16, L0, L1, L2, L3, L4, L5, L6, L7, L8, L9, L10, L12, L20, L22, L24, L26, L27, L28, L32, L40, L60, L73, L95, L97, L222, L240, L441, L442, L622, Lm1, Lmh, L11, L13, L14, L15, L16, L17, L18, L19, L21, L23, L25, L30, L31, L33, L36, L39, L41, L44, L48, L53, L54, L55, L57, L58, L59, L91, L93, L98, L99, L100, L105, L106, L112, L114, L115, L119, L122, L160, L180, L200, L255, L1440, L24880, L63, Lm2, pX10_laysHits_l27b, m_long hN ho hi, d, st, bI_0, Bool.true_eq_false, e1]
          rw [show ((p : Int) + 1) = ((p + 1 : Nat) : Int) by omega, e2]
  have lines : ∀ (q i : Nat) (m : mS), NwL (m.1 7) ls → rowA (m.1 j) o w → m.1 0 20 = w.length → Hl m (fbL ls w i) → okH ls (fbL ls w i) → (fbL ls w i).length ≤ 20 * i → i ≤ ls.length → ls.length < i + q → ∃ m', pX10_laysHits_l13 n q (mk M am m) am (am + j) (iI o) (iI w.length) (iI i) = some (mk M am m') ∧ Hl m' (fbL ls w ls.length) ∧ okH ls (fbL ls w ls.length) ∧ sx m m' ∧ m'.1 0 20 = w.length := by
    intro q
    induction q with
    | zero => intro i m _ _ _ _ _ _ h1 h2; omega
    | succ q ih =>
      intro i m hN hr hw20 hH hok hlen h1 h2
      show ∃ m', pX10_laysHits_l13b n (pX10_laysHits_l13 n q) (mk M am m) am _ _ _ _ = _ ∧ _
      have h0 := hN.1
      by_cases d : (ls.length : Int) ≤ i
      · have ep : i = ls.length := by omega
        refine ⟨m, ?_, by rw [← ep]; exact hH, by rw [← ep]; exact hok, sx.rfl, hw20⟩
        simp (disch := (first | assumption | (refine sm_of ?_ ?_ <;> omega) | omega)) only [iI_add, iI_sub, iI_mul, iI_neg, iI_lt, iI_le, iI_eq, b1_s, b2_s, ↓reduceIte, mk_v, mk_gl23, mk_pl23, mk_gr1, mk_gr5, mk_gr6, mk_gr8, mk_gr9, mk_gr11, mk_gr13, mk_gr14, mk_gr15, mk_gr17, mk_gr18, mk_gr21, mk_gr24, mk_gr28, mk_gr30, mk_gr31, mk_gi0, mk_gi2, mk_gi3, mk_gi4, mk_gi7, mk_gi10, mk_gi12, mk_gi16, mk_gi19, mk_gi20, mk_gi22, mk_gi25, mk_gi26, mk_gi27, mk_gi29, mk_gi32, mk_pi0, mk_pi2, mk_pi3, mk_pi4, mk_pi7, mk_pi10, mk_pi12, mk_pi16, mk_pi19, mk_pi20, mk_pi22, mk_pi25, mk_pi26, mk_pi27, mk_pi29, mk_pi32, mk_ia1, mk_ia2, mk_ia3, mk_ia4, mk_ia5, mk_ia6, mk_ia7, mk_ia8, mk_ia9, mk_ia10, mk_ia11, mk_ia12, mk_ia13, mk_ia14, mk_ia15, mk_ia16, mk_is1, mk_is2, mk_is3, mk_is4, mk_is5, mk_is6, mk_is7, mk_is8, mk_is9, mk_is10, mk_is11, mk_is12, mk_is13, mk_is14, mk_is15, mk_is16, L0, L1, L2, L3, L4, L5, L6, L7, L8, L9, L10, L12, L20, L22, L24, L26, L27, L28, L32, L40, L60, L73, L95, L97, L222, L240, L441, L442, L622, Lm1, Lmh, L11, L13, L14, L15, L16, L17, L18, L19, L21, L23, L25, L30, L31, L33, L36, L39, L41, L44, L48, L53, L54, L55, L57, L58, L59, L91, L93, L98, L99, L100, L105, L106, L112, L114, L115, L119, L122, L160, L180, L200, L255, L1440, L24880, L63, Lm2, pX10_laysHits_l13b, h0, d]
      · have hi : i < ls.length := by omega
        have l20 := (ho.2 i hi).2.1
        obtain ⟨m1, e1, a1, a2, a3, a4, a5⟩ := places (pX10_laysHits_l13 n q) i (fbL ls w i) hi n 0 m hN hr hw20 (by simpa [fbP] using hH) (by simpa [fbP] using hok) (by simpa [fbP] using hlen) (by omega) (by omega)
        rw [← fbL_succ] at a1 a2 a3
        obtain ⟨m2, e2, b1, b2, b3, b4⟩ := ih (i + 1) m1 (by rw [a4.2.1 7 (by decide) (by decide) (by decide)]; exact hN) (by rw [a4.2.1 j (by omega) hj1 hj2]; exact hr) a5 a1 a2 a3 (by omega) (by omega)
        refine ⟨m2, ?_, b1, b2, a4.trans b3, b4⟩
        simp (disch := (first | assumption | (refine sm_of ?_ ?_ <;> omega) | omega)) only [iI_add, iI_sub, iI_mul, iI_neg, iI_lt, iI_le, iI_eq, b1_s, b2_s, ↓reduceIte, mk_v, mk_gl23, mk_pl23, mk_gr1, mk_gr5, mk_gr6, mk_gr8, mk_gr9, mk_gr11, mk_gr13, mk_gr14, mk_gr15, mk_gr17, mk_gr18, mk_gr21, mk_gr24, mk_gr28, mk_gr30, mk_gr31, mk_gi0, mk_gi2, mk_gi3, mk_gi4, mk_gi7, mk_gi10, mk_gi12, mk_gi16, mk_gi19, mk_gi20, mk_gi22, mk_gi25, mk_gi26, mk_gi27, mk_gi29, mk_gi32, mk_pi0, mk_pi2, mk_pi3, mk_pi4, mk_pi7, mk_pi10, mk_pi12, mk_pi16, mk_pi19, mk_pi20, mk_pi22, mk_pi25, mk_pi26, mk_pi27, mk_pi29, mk_pi32, mk_ia1, mk_ia2, mk_ia3, mk_ia4, mk_ia5, mk_ia6, mk_ia7, mk_ia8, mk_ia9, mk_ia10, mk_ia11, mk_ia12, mk_ia13, mk_ia14, mk_ia15, mk_ia16, mk_is1, mk_is2, mk_is3, mk_is4, mk_is5, mk_is6, mk_is7, mk_is8, mk_is9, mk_is10, mk_is11, mk_is12, mk_is13, mk_is14, mk_is15, mk_is16, L0, L1, L2, L3, L4, L5, L6, L7, L8, L9, L10, L12, L20, L22, L24, L26, L27, L28, L32, L40, L60, L73, L95, L97, L222, L240, L441, L442, L622, Lm1, Lmh, L11, L13, L14, L15, L16, L17, L18, L19, L21, L23, L25, L30, L31, L33, L36, L39, L41, L44, L48, L53, L54, L55, L57, L58, L59, L91, L93, L98, L99, L100, L105, L106, L112, L114, L115, L119, L122, L160, L180, L200, L255, L1440, L24880, L63, Lm2, pX10_laysHits_l13b, h0, d]
        rw [show (0 : Int) = ((0 : Nat) : Int) from rfl, e1, e2]
  obtain ⟨m1, e1, a1, a2, a3, a4⟩ := lines n 0 (setA m 0 (upI (upI (m.1 0) 19 0) 20 w.length)) (by rw [setA_n _ _ (by decide)]; exact hN) (by rw [setA_n _ _ (by omega)]; exact hr) (by rw [setA_e, upI_e]) ⟨by simp [fbL], by rw [setA_e, upI_n _ _ (by decide), upI_e]; simp [fbL], fun i hi => by simp [fbL] at hi⟩ (fun x hx => by simp [fbL] at hx) (by simp [fbL]) (by omega) (by omega)
  refine ⟨m1, ?_, a1, a2, ?_, a4⟩
  · simp (disch := (first | assumption | (refine sm_of ?_ ?_ <;> omega) | omega)) only [iI_add, iI_sub, iI_mul, iI_neg, iI_lt, iI_le, iI_eq, b1_s, b2_s, ↓reduceIte, mk_v, mk_gl23, mk_pl23, mk_gr1, mk_gr5, mk_gr6, mk_gr8, mk_gr9, mk_gr11, mk_gr13, mk_gr14, mk_gr15, mk_gr17, mk_gr18, mk_gr21, mk_gr24, mk_gr28, mk_gr30, mk_gr31, mk_gi0, mk_gi2, mk_gi3, mk_gi4, mk_gi7, mk_gi10, mk_gi12, mk_gi16, mk_gi19, mk_gi20, mk_gi22, mk_gi25, mk_gi26, mk_gi27, mk_gi29, mk_gi32, mk_pi0, mk_pi2, mk_pi3, mk_pi4, mk_pi7, mk_pi10, mk_pi12, mk_pi16, mk_pi19, mk_pi20, mk_pi22, mk_pi25, mk_pi26, mk_pi27, mk_pi29, mk_pi32, mk_ia1, mk_ia2, mk_ia3, mk_ia4, mk_ia5, mk_ia6, mk_ia7, mk_ia8, mk_ia9, mk_ia10, mk_ia11, mk_ia12, mk_ia13, mk_ia14, mk_ia15, mk_ia16, mk_is1, mk_is2, mk_is3, mk_is4, mk_is5, mk_is6, mk_is7, mk_is8, mk_is9, mk_is10, mk_is11, mk_is12, mk_is13, mk_is14, mk_is15, mk_is16, L0, L1, L2, L3, L4, L5, L6, L7, L8, L9, L10, L12, L20, L22, L24, L26, L27, L28, L32, L40, L60, L73, L95, L97, L222, L240, L441, L442, L622, Lm1, Lmh, L11, L13, L14, L15, L16, L17, L18, L19, L21, L23, L25, L30, L31, L33, L36, L39, L41, L44, L48, L53, L54, L55, L57, L58, L59, L91, L93, L98, L99, L100, L105, L106, L112, L114, L115, L119, L122, L160, L180, L200, L255, L1440, L24880, L63, Lm2, pX10_laysHits, setA_e, setA_setA]
    exact e1
  · refine ⟨a3.1, fun q q0 q1 q2 => ?_, fun x x1 x2 => ?_⟩
    · rw [a3.2.1 q q0 q1 q2, setA_n _ _ q0]
    · rw [a3.2.2 x x1 x2, setA_e, upI_n _ _ x2, upI_n _ _ x1]
theorem hitsL_take {ls : List kL} {w : List Int} {i : Nat} (h : i < ls.length) : hitsL (ls.take (i + 1)) w = hitsL (ls.take i) w + cnt (lnN ls i).2 w (lnN ls i).2.length := by
  rw [List.take_succ_eq_append_getElem h, hitsL_app]
  have : lnN ls i = ls[i] := by unfold lnN; rw [List.getD_eq_getElem?_getD, List.getElem?_eq_getElem h]; rfl
  rw [this]; simp [hitsL]
theorem okL.all {ls : List kL} (h : okL ls) : ∀ l ∈ ls, l.2.length ≤ 20 := by
  intro l hl
  obtain ⟨i, hi, rfl⟩ := List.mem_iff_getElem.mp hl
  have := (h.2 i hi).2.1
  have e : lnN ls i = ls[i] := by unfold lnN; rw [List.getD_eq_getElem?_getD, List.getElem?_eq_getElem hi]; rfl
  rw [e] at this; exact this
theorem m_count {n : Nat} (hn : 300 ≤ n) {M : mm_M} {am : Nat} {m : mS} {ls : List kL} (hN : NwL (m.1 7) ls) (ho : okL ls) {w : List Int} (hw : okS w) (hwl : w.length ≤ 20) {j : Nat} (hj0 : 0 < j) (hj : j < 17) {o : Int} (ho0 : 0 ≤ o) (ho1 : o + w.length ≤ mz j) (hz : mz j ≤ 100000) (hr : rowA (m.1 j) o w) : pX10_countOf n (mk M am m) am (am + j) (iI o) (iI w.length) = some (iI (hitsL ls w), mk M am m) := by
  have c10 := ho.1
  have h0 := hN.1
  have places : ∀ (K : mm_M → Nat → Nat → Int32 → Int32 → Int32 → Int32 → Option (Int32 × mm_M)) (i z : Nat), i < ls.length → z ≤ 1000 → ∀ (q p : Nat), p ≤ (lnN ls i).2.length → (lnN ls i).2.length < p + q → pX10_countOf_l20 n K q (mk M am m) am (am + j) (iI o) (iI w.length) (iI ((z + cnt (lnN ls i).2 w p : Nat) : Int)) (iI i) (iI p) = K (mk M am m) am (am + j) (iI o) (iI w.length) (iI ((z + cnt (lnN ls i).2 w (lnN ls i).2.length : Nat) : Int)) (iI ((i + 1 : Nat) : Int)) := by
    intro K i z hi hz' q
    induction q with
    | zero => intro p h1 h2; omega
    | succ q ih =>
      intro p h1 h2
      show pX10_countOf_l20b n K (pX10_countOf_l20 n K q) (mk M am m) am _ _ _ _ _ _ = _
      have l20 := (ho.2 i hi).2.1
      by_cases d : ((lnN ls i).2.length : Int) ≤ p
      · simp (disch := (first | assumption | (refine sm_of ?_ ?_ <;> omega) | omega)) only [iI_add, iI_sub, iI_mul, iI_neg, iI_lt, iI_le, iI_eq, b1_s, b2_s, ↓reduceIte, mk_v, mk_gl23, mk_pl23, mk_gr1, mk_gr5, mk_gr6, mk_gr8, mk_gr9, mk_gr11, mk_gr13, mk_gr14, mk_gr15, mk_gr17, mk_gr18, mk_gr21, mk_gr24, mk_gr28, mk_gr30, mk_gr31, mk_gi0, mk_gi2, mk_gi3, mk_gi4, mk_gi7, mk_gi10, mk_gi12, mk_gi16, mk_gi19, mk_gi20, mk_gi22, mk_gi25, mk_gi26, mk_gi27, mk_gi29, mk_gi32, mk_pi0, mk_pi2, mk_pi3, mk_pi4, mk_pi7, mk_pi10, mk_pi12, mk_pi16, mk_pi19, mk_pi20, mk_pi22, mk_pi25, mk_pi26, mk_pi27, mk_pi29, mk_pi32, mk_ia1, mk_ia2, mk_ia3, mk_ia4, mk_ia5, mk_ia6, mk_ia7, mk_ia8, mk_ia9, mk_ia10, mk_ia11, mk_ia12, mk_ia13, mk_ia14, mk_ia15, mk_ia16, mk_is1, mk_is2, mk_is3, mk_is4, mk_is5, mk_is6, mk_is7, mk_is8, mk_is9, mk_is10, mk_is11, mk_is12, mk_is13, mk_is14, mk_is15, mk_is16, L0, L1, L2, L3, L4, L5, L6, L7, L8, L9, L10, L12, L20, L22, L24, L26, L27, L28, L32, L40, L60, L73, L95, L97, L222, L240, L441, L442, L622, Lm1, Lmh, L11, L13, L14, L15, L16, L17, L18, L19, L21, L23, L25, L30, L31, L33, L36, L39, L41, L44, L48, L53, L54, L55, L57, L58, L59, L91, L93, L98, L99, L100, L105, L106, L112, L114, L115, L119, L122, L160, L180, L200, L255, L1440, L24880, L63, Lm2, pX10_countOf_l20b, m_long hN ho hi, d]
        rw [show p = (lnN ls i).2.length by omega, show ((i : Int) + 1) = ((i + 1 : Nat) : Int) by omega]
      · have st := m_stands (show 60 ≤ n by omega) (M := M) (am := am) hN ho hw hwl hj0 hj ho0 ho1 hz hr hi (show p ≤ _ by omega)
        have cs := cnt_succ (lnN ls i).2 w p
        simp (disch := (first | assumption | (refine sm_of ?_ ?_ <;> omega) | omega)) only [iI_add, iI_sub, iI_mul, iI_neg, iI_lt, iI_le, iI_eq, b1_s, b2_s, ↓reduceIte, mk_v, mk_gl23, mk_pl23, mk_gr1, mk_gr5, mk_gr6, mk_gr8, mk_gr9, mk_gr11, mk_gr13, mk_gr14, mk_gr15, mk_gr17, mk_gr18, mk_gr21, mk_gr24, mk_gr28, mk_gr30, mk_gr31, mk_gi0, mk_gi2, mk_gi3, mk_gi4, mk_gi7, mk_gi10, mk_gi12, mk_gi16, mk_gi19, mk_gi20, mk_gi22, mk_gi25, mk_gi26, mk_gi27, mk_gi29, mk_gi32, mk_pi0, mk_pi2, mk_pi3, mk_pi4, mk_pi7, mk_pi10, mk_pi12, mk_pi16, mk_pi19, mk_pi20, mk_pi22, mk_pi25, mk_pi26, mk_pi27, mk_pi29, mk_pi32, mk_ia1, mk_ia2, mk_ia3, mk_ia4, mk_ia5, mk_ia6, mk_ia7, mk_ia8, mk_ia9, mk_ia10, mk_ia11, mk_ia12, mk_ia13, mk_ia14, mk_ia15, mk_ia16, mk_is1, mk_is2, mk_is3, mk_is4, mk_is5, mk_is6, mk_is7, mk_is8, mk_is9, mk_is10, mk_is11, mk_is12, mk_is13, mk_is14, mk_is15, mk_is16, L0, L1, L2, L3, L4, L5, L6, L7, L8, L9, L10, L12, L20, L22, L24, L26, L27, L28, L32, L40, L60, L73, L95, L97, L222, L240, L441, L442, L622, Lm1, Lmh, L11, L13, L14, L15, L16, L17, L18, L19, L21, L23, L25, L30, L31, L33, L36, L39, L41, L44, L48, L53, L54, L55, L57, L58, L59, L91, L93, L98, L99, L100, L105, L106, L112, L114, L115, L119, L122, L160, L180, L200, L255, L1440, L24880, L63, Lm2, pX10_countOf_l20b, m_long hN ho hi, d, st, bI_0, Int.add_zero]
        rw [show ((p : Int) + 1) = ((p + 1 : Nat) : Int) by omega]
        cases e : hasAt (lnN ls i).2 w p
        · rw [if_pos rfl]
          rw [e] at cs
          simp at cs
          rw [← cs]
          exact ih (p + 1) (by omega) (by omega)
        · rw [if_neg (by decide)]
          rw [e] at cs
          simp at cs
          rw [show (((z + cnt (lnN ls i).2 w p : Nat) : Int) + 1) = ((z + cnt (lnN ls i).2 w (p + 1) : Nat) : Int) by omega]
          exact ih (p + 1) (by omega) (by omega)
  have lines : ∀ (q i : Nat), i ≤ ls.length → ls.length < i + q → pX10_countOf_l6 n q (mk M am m) am (am + j) (iI o) (iI w.length) (iI (hitsL (ls.take i) w)) (iI i) = some (iI (hitsL ls w), mk M am m) := by
    intro q
    induction q with
    | zero => intro i h1 h2; omega
    | succ q ih =>
      intro i h1 h2
      show pX10_countOf_l6b n (pX10_countOf_l6 n q) (mk M am m) am _ _ _ _ _ = _
      by_cases d : (ls.length : Int) ≤ i
      · simp (disch := (first | assumption | (refine sm_of ?_ ?_ <;> omega) | omega)) only [iI_add, iI_sub, iI_mul, iI_neg, iI_lt, iI_le, iI_eq, b1_s, b2_s, ↓reduceIte, mk_v, mk_gl23, mk_pl23, mk_gr1, mk_gr5, mk_gr6, mk_gr8, mk_gr9, mk_gr11, mk_gr13, mk_gr14, mk_gr15, mk_gr17, mk_gr18, mk_gr21, mk_gr24, mk_gr28, mk_gr30, mk_gr31, mk_gi0, mk_gi2, mk_gi3, mk_gi4, mk_gi7, mk_gi10, mk_gi12, mk_gi16, mk_gi19, mk_gi20, mk_gi22, mk_gi25, mk_gi26, mk_gi27, mk_gi29, mk_gi32, mk_pi0, mk_pi2, mk_pi3, mk_pi4, mk_pi7, mk_pi10, mk_pi12, mk_pi16, mk_pi19, mk_pi20, mk_pi22, mk_pi25, mk_pi26, mk_pi27, mk_pi29, mk_pi32, mk_ia1, mk_ia2, mk_ia3, mk_ia4, mk_ia5, mk_ia6, mk_ia7, mk_ia8, mk_ia9, mk_ia10, mk_ia11, mk_ia12, mk_ia13, mk_ia14, mk_ia15, mk_ia16, mk_is1, mk_is2, mk_is3, mk_is4, mk_is5, mk_is6, mk_is7, mk_is8, mk_is9, mk_is10, mk_is11, mk_is12, mk_is13, mk_is14, mk_is15, mk_is16, L0, L1, L2, L3, L4, L5, L6, L7, L8, L9, L10, L12, L20, L22, L24, L26, L27, L28, L32, L40, L60, L73, L95, L97, L222, L240, L441, L442, L622, Lm1, Lmh, L11, L13, L14, L15, L16, L17, L18, L19, L21, L23, L25, L30, L31, L33, L36, L39, L41, L44, L48, L53, L54, L55, L57, L58, L59, L91, L93, L98, L99, L100, L105, L106, L112, L114, L115, L119, L122, L160, L180, L200, L255, L1440, L24880, L63, Lm2, pX10_countOf_l6b, h0, d]
        rw [List.take_of_length_le (by omega)]
      · have hi : i < ls.length := by omega
        have l20 := (ho.2 i hi).2.1
        have b1 := hitsL_le (ls.take i) w
        have b2 := allS_le (ls := ls.take i) (fun l hl => ho.all l (List.mem_of_mem_take hl))
        rw [List.length_take] at b2
        have pl := places (pX10_countOf_l6 n q) i (hitsL (ls.take i) w) hi (by omega) n 0 (by omega) (by omega)
        simp only [cnt, List.range_zero, List.filter_nil, List.length_nil, Nat.add_zero] at pl
        simp (disch := (first | assumption | (refine sm_of ?_ ?_ <;> omega) | omega)) only [iI_add, iI_sub, iI_mul, iI_neg, iI_lt, iI_le, iI_eq, b1_s, b2_s, ↓reduceIte, mk_v, mk_gl23, mk_pl23, mk_gr1, mk_gr5, mk_gr6, mk_gr8, mk_gr9, mk_gr11, mk_gr13, mk_gr14, mk_gr15, mk_gr17, mk_gr18, mk_gr21, mk_gr24, mk_gr28, mk_gr30, mk_gr31, mk_gi0, mk_gi2, mk_gi3, mk_gi4, mk_gi7, mk_gi10, mk_gi12, mk_gi16, mk_gi19, mk_gi20, mk_gi22, mk_gi25, mk_gi26, mk_gi27, mk_gi29, mk_gi32, mk_pi0, mk_pi2, mk_pi3, mk_pi4, mk_pi7, mk_pi10, mk_pi12, mk_pi16, mk_pi19, mk_pi20, mk_pi22, mk_pi25, mk_pi26, mk_pi27, mk_pi29, mk_pi32, mk_ia1, mk_ia2, mk_ia3, mk_ia4, mk_ia5, mk_ia6, mk_ia7, mk_ia8, mk_ia9, mk_ia10, mk_ia11, mk_ia12, mk_ia13, mk_ia14, mk_ia15, mk_ia16, mk_is1, mk_is2, mk_is3, mk_is4, mk_is5, mk_is6, mk_is7, mk_is8, mk_is9, mk_is10, mk_is11, mk_is12, mk_is13, mk_is14, mk_is15, mk_is16, L0, L1, L2, L3, L4, L5, L6, L7, L8, L9, L10, L12, L20, L22, L24, L26, L27, L28, L32, L40, L60, L73, L95, L97, L222, L240, L441, L442, L622, Lm1, Lmh, L11, L13, L14, L15, L16, L17, L18, L19, L21, L23, L25, L30, L31, L33, L36, L39, L41, L44, L48, L53, L54, L55, L57, L58, L59, L91, L93, L98, L99, L100, L105, L106, L112, L114, L115, L119, L122, L160, L180, L200, L255, L1440, L24880, L63, Lm2, pX10_countOf_l6b, h0, d]
        refine Eq.trans pl ?_
        have := hitsL_take (w := w) hi
        rw [show hitsL (ls.take i) w + ((List.range (lnN ls i).2.length).filter (fun q => hasAt (lnN ls i).2 w q)).length = hitsL (ls.take (i + 1)) w from this.symm]
        exact ih (i + 1) (by omega) (by omega)
  simp only [pX10_countOf, mk_v]
  exact lines n 0 (by omega) (by omega)
