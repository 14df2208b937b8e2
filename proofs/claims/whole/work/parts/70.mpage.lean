theorem NwL_cg {nw nw' : Int → Int} {ls : List kL} (hN : NwL nw ls) (ho : okL ls) (h : ∀ q, q < 222 → nw' q = nw q) : NwL nw' ls := by
  have := ho.1
  refine ⟨by rw [h _ (by omega)]; exact hN.1, fun k hk => ?_⟩
  obtain ⟨a1, a2, a3⟩ := hN.2 k hk
  have := (ho.2 k hk).2.1
  exact ⟨by rw [h _ (by omega)]; exact a1, by rw [h _ (by omega)]; exact a2, rowA_cg a3 (fun i hi => h _ (by omega))⟩
theorem max_i {b : Int} (hb : sm b) : mm_max (iI 0) (iI b) = iI (max 0 b) := by
  unfold mm_max
  by_cases c : 0 < b
  · rw [if_pos (by rw [iI_lt (sm_of (by omega) (by omega)) hb]; exact c)]; congr 1; omega
  · rw [if_neg (by rw [iI_lt (sm_of (by omega) (by omega)) hb]; exact c)]; congr 1; omega
theorem min_i {a b : Int} (ha : sm a) (hb : sm b) : mm_min (iI a) (iI b) = iI (min a b) := by
  unfold mm_min
  by_cases c : b < a
  · rw [if_pos (by rw [iI_lt hb ha]; exact c)]; congr 1; omega
  · rw [if_neg (by rw [iI_lt hb ha]; exact c)]; congr 1; omega
theorem m_marks {n : Nat} (hn : 60 ≤ n) {M : mm_M} {am : Nat} {m : mS} {ls : List kL} (hN : NwL (m.1 7) ls) (ho : okL ls) {c : Nat} (hc : c < 3) {wl : Nat} (hw : m.1 0 20 = wl) {k p : Nat} (hk : k < ls.length) (hp : p + wl ≤ (lnN ls k).2.length) : ∃ nw', pX10_marks n (mk M am m) am (iI c) (iI k) (iI p) = some (mk M am (setA m 7 nw')) ∧ nw' (222 + 73 * c + 8) = 1 ∧ nw' (222 + 73 * c + 9) = (lnN ls k).1 ∧ nw' (222 + 73 * c + 10) = p ∧ nw' (222 + 73 * c + 11) = ((lnN ls k).2.drop (p + wl)).length ∧ rowA nw' (222 + 73 * c + 12) ((lnN ls k).2.drop (p + wl)) ∧ nw' (222 + 73 * c + 32) = p ∧ rowA nw' (222 + 73 * c + 33) ((lnN ls k).2.take p).reverse ∧ ∀ q : Int, (q < 222 + 73 * c + 8 ∨ 222 + 73 * c + 53 ≤ q) → nw' q = m.1 7 q := by
  obtain ⟨a1, a2, a3, a4⟩ := ho.2 k hk
  have c10 := ho.1
  generalize hA : (lnN ls k).2.drop (p + wl) = A
  generalize hC : ((lnN ls k).2.take p).reverse = C
  have oA : okS A := by rw [← hA]; exact a3.drop _
  have oC : okS C := by rw [← hC]; exact (a3.take _).rev
  have lA : A.length = (lnN ls k).2.length - (p + wl) := by rw [← hA]; simp
  have lC : C.length = p := by rw [← hC]; simp; omega
  have loop : ∀ (q i : Nat) (f : Int → Int), i ≤ 20 → 20 < i + q → NwL f ls → (∀ z : Nat, z < i → z < A.length → f (222 + 73 * c + 12 + z) = dec (A.getD z 0)) → (∀ z : Nat, z < i → z < C.length → f (222 + 73 * c + 33 + z) = dec (C.getD z 0)) → ∃ nw', pX10_marks_l79 n q (mk M am (setA m 7 f)) am (iI k) (iI p) (iI (222 + 73 * c)) (iI i) = some (mk M am (setA m 7 nw')) ∧ rowA nw' (222 + 73 * c + 12) A ∧ rowA nw' (222 + 73 * c + 33) C ∧ ∀ z : Int, ¬ ((222 + 73 * (c : Int) + 12 ≤ z ∧ z < 222 + 73 * c + 32) ∨ (222 + 73 * (c : Int) + 33 ≤ z ∧ z < 222 + 73 * c + 53)) → nw' z = f z := by
    intro q
    induction q with
    | zero => intro i f h1 h2; omega
    | succ q ih =>
      intro i f h1 h2 hf h3 h4
      show ∃ nw', pX10_marks_l79b n (pX10_marks_l79 n q) (mk M am (setA m 7 f)) am _ _ _ _ = _ ∧ _
      by_cases d : (20 : Int) ≤ i
      · refine ⟨f, ?_, fun z hz => h3 z (by omega) hz, fun z hz => h4 z (by omega) hz, fun _ _ => rfl⟩
        simp (disch := (first | assumption | (refine sm_of ?_ ?_ <;> omega) | omega)) only [iI_add, iI_sub, iI_mul, iI_neg, iI_lt, iI_le, iI_eq, b1_s, b2_s, ↓reduceIte, mk_v, mk_gl23, mk_pl23, mk_gr1, mk_gr5, mk_gr6, mk_gr8, mk_gr9, mk_gr11, mk_gr13, mk_gr14, mk_gr15, mk_gr17, mk_gr18, mk_gr21, mk_gr24, mk_gr28, mk_gr30, mk_gr31, mk_gi0, mk_gi2, mk_gi3, mk_gi4, mk_gi7, mk_gi10, mk_gi12, mk_gi16, mk_gi19, mk_gi20, mk_gi22, mk_gi25, mk_gi26, mk_gi27, mk_gi29, mk_gi32, mk_pi0, mk_pi2, mk_pi3, mk_pi4, mk_pi7, mk_pi10, mk_pi12, mk_pi16, mk_pi19, mk_pi20, mk_pi22, mk_pi25, mk_pi26, mk_pi27, mk_pi29, mk_pi32, mk_ia1, mk_ia2, mk_ia3, mk_ia4, mk_ia5, mk_ia6, mk_ia7, mk_ia8, mk_ia9, mk_ia10, mk_ia11, mk_ia12, mk_ia13, mk_ia14, mk_ia15, mk_ia16, mk_is1, mk_is2, mk_is3, mk_is4, mk_is5, mk_is6, mk_is7, mk_is8, mk_is9, mk_is10, mk_is11, mk_is12, mk_is13, mk_is14, mk_is15, mk_is16, L0, L1, L2, L3, L4, L5, L6, L7, L8, L9, L10, L12, L20, L22, L24, L26, L27, L28, L32, L40, L60, L73, L95, L97, L222, L240, L441, L442, L622, Lm1, Lmh, L11, L13, L14, L15, L16, L17, L18, L19, L21, L23, L25, L30, L31, L33, L36, L39, L41, L44, L48, L53, L54, L55, L57, L58, L59, L91, L93, L98, L99, L100, L105, L106, L112, L114, L115, L119, L122, L160, L180, L200, L255, L1440, L24880, L63, Lm2, pX10_marks_l79b, d]
      · have e1 := m_fol (n := n) (M := M) (am := am) (m := setA m 7 f) (by rw [setA_e]; exact hf) ho (by rw [setA_n _ _ (by decide)]; exact hw) (by omega) hk (show p ≤ 20 by omega) (show i ≤ 20 by omega)
        rw [hA] at e1
        have b1 := atD_bd oA i
        have b2 := atD_bd oC i
        have hf1 : NwL (upI f (222 + 73 * c + 12 + i) (max 0 (atD A i))) ls := NwL_cg hf ho (fun q hq => upI_n _ _ (by omega))
        have e2 := m_bef (n := n) (M := M) (am := am) (m := setA m 7 (upI f (222 + 73 * c + 12 + i) (max 0 (atD A i)))) (by rw [setA_e]; exact hf1) ho hk (show p ≤ (lnN ls k).2.length by omega) (show i ≤ 20 by omega)
        rw [hC] at e2
        obtain ⟨nw, e3, r1, r2, r3⟩ := ih (i + 1) (upI (upI f (222 + 73 * c + 12 + i) (max 0 (atD A i))) (222 + 73 * c + 33 + i) (max 0 (atD C i))) (by omega) (by omega) (NwL_cg hf1 ho (fun q hq => upI_n _ _ (by omega))) (fun z z1 z2 => by
          rw [upI_n _ _ (by omega)]
          by_cases e : z = i
          · rw [e, upI_e]
            have : atD A i = dec (A.getD i 0) := by unfold atD; rw [List.getElem?_eq_getElem (by omega), getD_of (by omega)]
            have := dec_bd (oA.get (i := i) (by omega))
            omega
          · rw [upI_n _ _ (by omega)]; exact h3 z (by omega) z2) (fun z z1 z2 => by
          by_cases e : z = i
          · rw [e, upI_e]
            have : atD C i = dec (C.getD i 0) := by unfold atD; rw [List.getElem?_eq_getElem (by omega), getD_of (by omega)]
            have := dec_bd (oC.get (i := i) (by omega))
            omega
          · rw [upI_n _ _ (by omega), upI_n _ _ (by omega)]; exact h4 z (by omega) z2)
        refine ⟨nw, ?_, r1, r2, fun z hz => by rw [r3 z hz, upI_n _ _ (by omega), upI_n _ _ (by omega)]⟩
        simp (disch := (first | assumption | (refine sm_of ?_ ?_ <;> omega) | omega)) only [iI_add, iI_sub, iI_mul, iI_neg, iI_lt, iI_le, iI_eq, b1_s, b2_s, ↓reduceIte, mk_v, mk_gl23, mk_pl23, mk_gr1, mk_gr5, mk_gr6, mk_gr8, mk_gr9, mk_gr11, mk_gr13, mk_gr14, mk_gr15, mk_gr17, mk_gr18, mk_gr21, mk_gr24, mk_gr28, mk_gr30, mk_gr31, mk_gi0, mk_gi2, mk_gi3, mk_gi4, mk_gi7, mk_gi10, mk_gi12, mk_gi16, mk_gi19, mk_gi20, mk_gi22, mk_gi25, mk_gi26, mk_gi27, mk_gi29, mk_gi32, mk_pi0, mk_pi2, mk_pi3, mk_pi4, mk_pi7, mk_pi10, mk_pi12, mk_pi16, mk_pi19, mk_pi20, mk_pi22, mk_pi25, mk_pi26, mk_pi27, mk_pi29, mk_pi32, mk_ia1, mk_ia2, mk_ia3, mk_ia4, mk_ia5, mk_ia6, mk_ia7, mk_ia8, mk_ia9, mk_ia10, mk_ia11, mk_ia12, mk_ia13, mk_ia14, mk_ia15, mk_ia16, mk_is1, mk_is2, mk_is3, mk_is4, mk_is5, mk_is6, mk_is7, mk_is8, mk_is9, mk_is10, mk_is11, mk_is12, mk_is13, mk_is14, mk_is15, mk_is16, L0, L1, L2, L3, L4, L5, L6, L7, L8, L9, L10, L12, L20, L22, L24, L26, L27, L28, L32, L40, L60, L73, L95, L97, L222, L240, L441, L442, L622, Lm1, Lmh, L11, L13, L14, L15, L16, L17, L18, L19, L21, L23, L25, L30, L31, L33, L36, L39, L41, L44, L48, L53, L54, L55, L57, L58, L59, L91, L93, L98, L99, L100, L105, L106, L112, L114, L115, L119, L122, L160, L180, L200, L255, L1440, L24880, L63, Lm2, pX10_marks_l79b, d, e1, max_i, setA_e, setA_setA, e2]
        rw [show ((i : Int) + 1) = ((i + 1 : Nat) : Int) by omega]
        exact e3
  have g1 : NwL (upI (m.1 7) (222 + 73 * c + 8) 1) ls := NwL_cg hN ho (fun q hq => upI_n _ _ (by omega))
  have g2 : NwL (upI (upI (m.1 7) (222 + 73 * c + 8) 1) (222 + 73 * c + 9) (lnN ls k).1) ls := NwL_cg g1 ho (fun q hq => upI_n _ _ (by omega))
  have g3 : NwL (upI (upI (upI (m.1 7) (222 + 73 * c + 8) 1) (222 + 73 * c + 9) (lnN ls k).1) (222 + 73 * c + 10) p) ls := NwL_cg g2 ho (fun q hq => upI_n _ _ (by omega))
  have n1 := m_num (n := n) (M := M) (am := am) (m := setA m 7 (upI (m.1 7) (222 + 73 * c + 8) 1)) (by rw [setA_e]; exact g1) ho hk
  have n2 := m_long (n := n) (M := M) (am := am) (m := setA m 7 (upI (upI (upI (m.1 7) (222 + 73 * c + 8) 1) (222 + 73 * c + 9) (lnN ls k).1) (222 + 73 * c + 10) p)) (by rw [setA_e]; exact g3) ho hk
  obtain ⟨nw, e1, r1, r2, r3⟩ := loop n 0 (upI (upI (upI (upI (upI (m.1 7) (222 + 73 * c + 8) 1) (222 + 73 * c + 9) (lnN ls k).1) (222 + 73 * c + 10) p) (222 + 73 * c + 11) ((lnN ls k).2.length - p - wl)) (222 + 73 * c + 32) p) (by omega) (by omega) (NwL_cg g3 ho (fun q hq => by rw [upI_n _ _ (by omega), upI_n _ _ (by omega)])) (fun z h => by omega) (fun z h => by omega)
  refine ⟨nw, ?_, ?_, ?_, ?_, ?_, r1, ?_, r2, fun q hq => ?_⟩
  · simp (disch := (first | assumption | (refine sm_of ?_ ?_ <;> omega) | omega)) only [iI_add, iI_sub, iI_mul, iI_neg, iI_lt, iI_le, iI_eq, b1_s, b2_s, ↓reduceIte, mk_v, mk_gl23, mk_pl23, mk_gr1, mk_gr5, mk_gr6, mk_gr8, mk_gr9, mk_gr11, mk_gr13, mk_gr14, mk_gr15, mk_gr17, mk_gr18, mk_gr21, mk_gr24, mk_gr28, mk_gr30, mk_gr31, mk_gi0, mk_gi2, mk_gi3, mk_gi4, mk_gi7, mk_gi10, mk_gi12, mk_gi16, mk_gi19, mk_gi20, mk_gi22, mk_gi25, mk_gi26, mk_gi27, mk_gi29, mk_gi32, mk_pi0, mk_pi2, mk_pi3, mk_pi4, mk_pi7, mk_pi10, mk_pi12, mk_pi16, mk_pi19, mk_pi20, mk_pi22, mk_pi25, mk_pi26, mk_pi27, mk_pi29, mk_pi32, mk_ia1, mk_ia2, mk_ia3, mk_ia4, mk_ia5, mk_ia6, mk_ia7, mk_ia8, mk_ia9, mk_ia10, mk_ia11, mk_ia12, mk_ia13, mk_ia14, mk_ia15, mk_ia16, mk_is1, mk_is2, mk_is3, mk_is4, mk_is5, mk_is6, mk_is7, mk_is8, mk_is9, mk_is10, mk_is11, mk_is12, mk_is13, mk_is14, mk_is15, mk_is16, L0, L1, L2, L3, L4, L5, L6, L7, L8, L9, L10, L12, L20, L22, L24, L26, L27, L28, L32, L40, L60, L73, L95, L97, L222, L240, L441, L442, L622, Lm1, Lmh, L11, L13, L14, L15, L16, L17, L18, L19, L21, L23, L25, L30, L31, L33, L36, L39, L41, L44, L48, L53, L54, L55, L57, L58, L59, L91, L93, L98, L99, L100, L105, L106, L112, L114, L115, L119, L122, L160, L180, L200, L255, L1440, L24880, L63, Lm2, pX10_marks, pX10_cursorAt, setA_e, setA_setA, n1, n2]
    rw [setA_n _ _ (by decide), hw]
    exact e1
  · rw [r3 _ (by omega), upI_n _ _ (by omega), upI_n _ _ (by omega), upI_n _ _ (by omega), upI_n _ _ (by omega), upI_e]
  · rw [r3 _ (by omega), upI_n _ _ (by omega), upI_n _ _ (by omega), upI_n _ _ (by omega), upI_e]
  · rw [r3 _ (by omega), upI_n _ _ (by omega), upI_n _ _ (by omega), upI_e]
  · rw [r3 _ (by omega), upI_n _ _ (by omega), upI_e]; omega
  · rw [r3 _ (by omega), upI_e]
  · rw [r3 _ (by omega), upI_n _ _ (by omega), upI_n _ _ (by omega), upI_n _ _ (by omega), upI_n _ _ (by omega), upI_n _ _ (by omega)]
/-- a page told, all at once -/
theorem tell_all (ls : List kL) : ∀ (hs : List kH) (u : kU), hs ≠ [] → hs.foldl (tellK ls) u = (u.1, u.2.1, true, (lnN ls (hs.getD (hs.length - 1) (0, 0)).1).1, (lnN ls (hs.getD (hs.length - 1) (0, 0)).1).2, (hs.getD (hs.length - 1) (0, 0)).2, u.2.2.2.2.2.2.1 ++ hs.map (fun h => ((lnN ls h.1).1, (h.2 : Int))), u.2.2.2.2.2.2.2 + hs.length) := by
  intro hs
  induction hs with
  | nil => intro u h; exact absurd rfl h
  | cons x hs ih =>
    intro u _
    rw [List.foldl_cons]
    by_cases c : hs = []
    · subst c; simp [tellK]
    · rw [ih (tellK ls u x) c]
      have hl : 0 < hs.length := List.length_pos_iff.mpr c
      have e : (x :: hs).getD ((x :: hs).length - 1) (0, 0) = hs.getD (hs.length - 1) (0, 0) := by
        rw [show (x :: hs).length - 1 = (hs.length - 1) + 1 by simp; omega, List.getD_cons_succ]
      rw [e]
      simp [tellK, List.append_assoc]
      omega
