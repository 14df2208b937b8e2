/-! the reference: acts, and what brings states back -/
/-- the state behind an act, its log too -/
def actK (T : kT) (sort x y : Int) (w : List Int) : kT := ((aft T sort x y w).1, (aft T sort x y w).2.1, (aft T sort x y w).2.2.1, (((sort, subK T.1 T.2.1 sort x, (allS (aft T sort x y w).1 : Int)) :: T.2.2.2).take 60))
theorem aft_lg (T : kT) (sort x y : Int) (w : List Int) : (aft T sort x y w).2.2.2 = T.2.2.2 := rfl
theorem okT_act {T : kT} {sort x y : Int} {w : List Int} (h : okT (aft T sort x y w)) : okT (actK T sort x y w) := ⟨h.1, h.2.1, h.2.2.1, h.2.2.2.1, h.2.2.2.2.1, by simp [actK]; omega, h.2.2.2.2.2.2⟩
theorem m_sub {T : kT} {sort x y : Int} {w : List Int} (hs : 0 ≤ sort ∧ sort ≤ 8) (hy : whyK T.1 T.2.2.1 sort x y w = -1) (h1 : sort ≠ 1) (h2 : sort < 4 ∨ 6 < sort) : 0 ≤ x ∧ x < T.1.length ∧ subK T.1 T.2.1 sort x = (ln T.1 x).1 := by
  have key : 0 ≤ x ∧ x < T.1.length := by
    rcases (show sort = 0 ∨ sort = 2 ∨ sort = 3 ∨ sort = 7 ∨ sort = 8 by omega) with rfl | rfl | rfl | rfl | rfl
    · have := why0 hy; omega
    · have := why2 hy; omega
    · have := why3 hy; omega
    · have := why7 hy; omega
    · have := why8 hy; omega
  refine ⟨key.1, key.2, ?_⟩
  unfold subK
  rw [if_neg h1, if_neg (by omega), if_pos (by unfold isLn; exact decide_eq_true key)]
theorem m_act {n : Nat} (hn : 25000 ≤ n) {M : mm_M} {am : Nat} {m : mS} {T : kT} {ps : List kT} (hT : NwT (m.1 7) T) (ho : okT T) (hK : Kp m ps) {w : List Int} (hw : okS w) (hwl : w.length ≤ 20) {j : Nat} (hj0 : 0 < j) (hj : j < 17) (hj7 : j ≠ 7) (hj10 : j ≠ 10) (hj11 : j ≠ 11) (hj12 : j ≠ 12) {o : Int} (ho0 : 0 ≤ o) (ho1 : o + w.length ≤ mz j) (hz : mz j ≤ 100000) (hr : rowA (m.1 j) o w) {sort x y : Int} (hs : 0 ≤ sort ∧ sort ≤ 8) (h4 : sort = 4 → w.length ≤ 6) (hy : whyK T.1 T.2.2.1 sort x y w = -1) (hok : okT (aft T sort x y w)) : ∃ m', pX10_act n (mk M am m) am (iI sort) (iI x) (iI y) (am + j) (iI o) (iI w.length) = some (iI (doK T sort x y w).1, mk M am m') ∧ NwT (m'.1 7) (actK T sort x y w) ∧ Kp m' ((T :: ps).take 40) ∧ sxa m m' := by
  obtain ⟨m1, e1, p1, q1, s1⟩ := m_keep hn (M := M) (am := am) hT ho hK
  have hT1 : NwT (m1.1 7) T := by rw [q1]; exact hT
  have hr1 : rowA (m1.1 j) o w := by rw [s1.2.1 j (by omega) hj7 hj10 hj11 hj12]; exact hr
  obtain ⟨m2, e2, t2, s2⟩ := m_do (show 300 ≤ n by omega) (M := M) (am := am) hT1 ho hw hwl hj0 hj hj7 ho0 ho1 hz hr1 hs h4 hy
  obtain ⟨nw, e3, t3⟩ := m_note (show 300 ≤ n by omega) (M := M) (am := am) t2 hok sort (subK T.1 T.2.1 sort x)
  have k12 : m2.1 12 = m1.1 12 := s2.2.1 12 (by decide) (by decide) (by decide) (by decide)
  have k22 : m2.1 0 22 = m1.1 0 22 := s2.2.2 22 (by decide) (by decide)
  refine ⟨setA m2 7 nw, ?_, ?_, ⟨p1.1, ?_, fun i hi => ?_⟩, (s1.trans s2.a).trans (sx7_set m2 nw).a⟩
  · have b38 : pX10_act_b38 n (mk M am m1) am (iI sort) (iI x) (iI y) (am + j) (iI o) (iI w.length) (iI (subK T.1 T.2.1 sort x)) = some (iI (doK T sort x y w).1, mk M am (setA m2 7 nw)) := by
      simp (disch := (first | assumption | (refine sm_of ?_ ?_ <;> omega) | omega)) only [iI_add, iI_sub, iI_mul, iI_neg, iI_lt, iI_le, iI_eq, b1_s, b2_s, ↓reduceIte, mk_v, mk_gl23, mk_pl23, mk_gr1, mk_gr5, mk_gr6, mk_gr8, mk_gr9, mk_gr11, mk_gr13, mk_gr14, mk_gr15, mk_gr17, mk_gr18, mk_gr21, mk_gr24, mk_gr28, mk_gr30, mk_gr31, mk_gi0, mk_gi2, mk_gi3, mk_gi4, mk_gi7, mk_gi10, mk_gi12, mk_gi16, mk_gi19, mk_gi20, mk_gi22, mk_gi25, mk_gi26, mk_gi27, mk_gi29, mk_gi32, mk_pi0, mk_pi2, mk_pi3, mk_pi4, mk_pi7, mk_pi10, mk_pi12, mk_pi16, mk_pi19, mk_pi20, mk_pi22, mk_pi25, mk_pi26, mk_pi27, mk_pi29, mk_pi32, mk_ia1, mk_ia2, mk_ia3, mk_ia4, mk_ia5, mk_ia6, mk_ia7, mk_ia8, mk_ia9, mk_ia10, mk_ia11, mk_ia12, mk_ia13, mk_ia14, mk_ia15, mk_ia16, mk_is1, mk_is2, mk_is3, mk_is4, mk_is5, mk_is6, mk_is7, mk_is8, mk_is9, mk_is10, mk_is11, mk_is12, mk_is13, mk_is14, mk_is15, mk_is16, L0, L1, L2, L3, L4, L5, L6, L7, L8, L9, L10, L12, L20, L22, L24, L26, L27, L28, L32, L40, L60, L73, L95, L97, L222, L240, L441, L442, L622, Lm1, Lmh, L11, L13, L14, L15, L16, L17, L18, L19, L21, L23, L25, L30, L31, L33, L36, L39, L41, L44, L48, L53, L54, L55, L57, L58, L59, L91, L93, L98, L99, L100, L105, L106, L112, L114, L115, L119, L122, L160, L180, L200, L255, L1440, L24880, L63, Lm2, pX10_act_b38, e2, e3]
    by_cases c1 : sort = 1
    · have g1 := hT1.2.1
      have e : subK T.1 T.2.1 sort x = T.2.1 := by unfold subK; rw [if_pos c1]
      rw [e] at b38
      simp (disch := (first | assumption | (refine sm_of ?_ ?_ <;> omega) | omega)) only [iI_add, iI_sub, iI_mul, iI_neg, iI_lt, iI_le, iI_eq, b1_s, b2_s, ↓reduceIte, mk_v, mk_gl23, mk_pl23, mk_gr1, mk_gr5, mk_gr6, mk_gr8, mk_gr9, mk_gr11, mk_gr13, mk_gr14, mk_gr15, mk_gr17, mk_gr18, mk_gr21, mk_gr24, mk_gr28, mk_gr30, mk_gr31, mk_gi0, mk_gi2, mk_gi3, mk_gi4, mk_gi7, mk_gi10, mk_gi12, mk_gi16, mk_gi19, mk_gi20, mk_gi22, mk_gi25, mk_gi26, mk_gi27, mk_gi29, mk_gi32, mk_pi0, mk_pi2, mk_pi3, mk_pi4, mk_pi7, mk_pi10, mk_pi12, mk_pi16, mk_pi19, mk_pi20, mk_pi22, mk_pi25, mk_pi26, mk_pi27, mk_pi29, mk_pi32, mk_ia1, mk_ia2, mk_ia3, mk_ia4, mk_ia5, mk_ia6, mk_ia7, mk_ia8, mk_ia9, mk_ia10, mk_ia11, mk_ia12, mk_ia13, mk_ia14, mk_ia15, mk_ia16, mk_is1, mk_is2, mk_is3, mk_is4, mk_is5, mk_is6, mk_is7, mk_is8, mk_is9, mk_is10, mk_is11, mk_is12, mk_is13, mk_is14, mk_is15, mk_is16, L0, L1, L2, L3, L4, L5, L6, L7, L8, L9, L10, L12, L20, L22, L24, L26, L27, L28, L32, L40, L60, L73, L95, L97, L222, L240, L441, L442, L622, Lm1, Lmh, L11, L13, L14, L15, L16, L17, L18, L19, L21, L23, L25, L30, L31, L33, L36, L39, L41, L44, L48, L53, L54, L55, L57, L58, L59, L91, L93, L98, L99, L100, L105, L106, L112, L114, L115, L119, L122, L160, L180, L200, L255, L1440, L24880, L63, Lm2, pX10_act, e1, c1, g1]
      rw [← c1]; exact b38
    · by_cases c2 : sort < 4
      · obtain ⟨x0, x1, x2⟩ := m_sub hs hy c1 (Or.inl c2)
        obtain ⟨k, rfl⟩ := Int.eq_ofNat_of_zero_le x0
        have qn := m_num (n := n) (M := M) (am := am) hT1.1 ho.1 (k := k) (by omega)
        rw [x2, ln_k] at b38
        simp (disch := (first | assumption | (refine sm_of ?_ ?_ <;> omega) | omega)) only [iI_add, iI_sub, iI_mul, iI_neg, iI_lt, iI_le, iI_eq, b1_s, b2_s, ↓reduceIte, mk_v, mk_gl23, mk_pl23, mk_gr1, mk_gr5, mk_gr6, mk_gr8, mk_gr9, mk_gr11, mk_gr13, mk_gr14, mk_gr15, mk_gr17, mk_gr18, mk_gr21, mk_gr24, mk_gr28, mk_gr30, mk_gr31, mk_gi0, mk_gi2, mk_gi3, mk_gi4, mk_gi7, mk_gi10, mk_gi12, mk_gi16, mk_gi19, mk_gi20, mk_gi22, mk_gi25, mk_gi26, mk_gi27, mk_gi29, mk_gi32, mk_pi0, mk_pi2, mk_pi3, mk_pi4, mk_pi7, mk_pi10, mk_pi12, mk_pi16, mk_pi19, mk_pi20, mk_pi22, mk_pi25, mk_pi26, mk_pi27, mk_pi29, mk_pi32, mk_ia1, mk_ia2, mk_ia3, mk_ia4, mk_ia5, mk_ia6, mk_ia7, mk_ia8, mk_ia9, mk_ia10, mk_ia11, mk_ia12, mk_ia13, mk_ia14, mk_ia15, mk_ia16, mk_is1, mk_is2, mk_is3, mk_is4, mk_is5, mk_is6, mk_is7, mk_is8, mk_is9, mk_is10, mk_is11, mk_is12, mk_is13, mk_is14, mk_is15, mk_is16, L0, L1, L2, L3, L4, L5, L6, L7, L8, L9, L10, L12, L20, L22, L24, L26, L27, L28, L32, L40, L60, L73, L95, L97, L222, L240, L441, L442, L622, Lm1, Lmh, L11, L13, L14, L15, L16, L17, L18, L19, L21, L23, L25, L30, L31, L33, L36, L39, L41, L44, L48, L53, L54, L55, L57, L58, L59, L91, L93, L98, L99, L100, L105, L106, L112, L114, L115, L119, L122, L160, L180, L200, L255, L1440, L24880, L63, Lm2, pX10_act, e1, c1, c2, qn]
        exact b38
      · by_cases c3 : sort ≤ 6
        · have e : subK T.1 T.2.1 sort x = x := by unfold subK; rw [if_neg c1, if_pos (by omega)]
          rw [e] at b38
          simp (disch := (first | assumption | (refine sm_of ?_ ?_ <;> omega) | omega)) only [iI_add, iI_sub, iI_mul, iI_neg, iI_lt, iI_le, iI_eq, b1_s, b2_s, ↓reduceIte, mk_v, mk_gl23, mk_pl23, mk_gr1, mk_gr5, mk_gr6, mk_gr8, mk_gr9, mk_gr11, mk_gr13, mk_gr14, mk_gr15, mk_gr17, mk_gr18, mk_gr21, mk_gr24, mk_gr28, mk_gr30, mk_gr31, mk_gi0, mk_gi2, mk_gi3, mk_gi4, mk_gi7, mk_gi10, mk_gi12, mk_gi16, mk_gi19, mk_gi20, mk_gi22, mk_gi25, mk_gi26, mk_gi27, mk_gi29, mk_gi32, mk_pi0, mk_pi2, mk_pi3, mk_pi4, mk_pi7, mk_pi10, mk_pi12, mk_pi16, mk_pi19, mk_pi20, mk_pi22, mk_pi25, mk_pi26, mk_pi27, mk_pi29, mk_pi32, mk_ia1, mk_ia2, mk_ia3, mk_ia4, mk_ia5, mk_ia6, mk_ia7, mk_ia8, mk_ia9, mk_ia10, mk_ia11, mk_ia12, mk_ia13, mk_ia14, mk_ia15, mk_ia16, mk_is1, mk_is2, mk_is3, mk_is4, mk_is5, mk_is6, mk_is7, mk_is8, mk_is9, mk_is10, mk_is11, mk_is12, mk_is13, mk_is14, mk_is15, mk_is16, L0, L1, L2, L3, L4, L5, L6, L7, L8, L9, L10, L12, L20, L22, L24, L26, L27, L28, L32, L40, L60, L73, L95, L97, L222, L240, L441, L442, L622, Lm1, Lmh, L11, L13, L14, L15, L16, L17, L18, L19, L21, L23, L25, L30, L31, L33, L36, L39, L41, L44, L48, L53, L54, L55, L57, L58, L59, L91, L93, L98, L99, L100, L105, L106, L112, L114, L115, L119, L122, L160, L180, L200, L255, L1440, L24880, L63, Lm2, pX10_act, e1, c1, c2, c3]
          exact b38
        · obtain ⟨x0, x1, x2⟩ := m_sub hs hy c1 (Or.inr (by omega))
          obtain ⟨k, rfl⟩ := Int.eq_ofNat_of_zero_le x0
          have qn := m_num (n := n) (M := M) (am := am) hT1.1 ho.1 (k := k) (by omega)
          rw [x2, ln_k] at b38
          simp (disch := (first | assumption | (refine sm_of ?_ ?_ <;> omega) | omega)) only [iI_add, iI_sub, iI_mul, iI_neg, iI_lt, iI_le, iI_eq, b1_s, b2_s, ↓reduceIte, mk_v, mk_gl23, mk_pl23, mk_gr1, mk_gr5, mk_gr6, mk_gr8, mk_gr9, mk_gr11, mk_gr13, mk_gr14, mk_gr15, mk_gr17, mk_gr18, mk_gr21, mk_gr24, mk_gr28, mk_gr30, mk_gr31, mk_gi0, mk_gi2, mk_gi3, mk_gi4, mk_gi7, mk_gi10, mk_gi12, mk_gi16, mk_gi19, mk_gi20, mk_gi22, mk_gi25, mk_gi26, mk_gi27, mk_gi29, mk_gi32, mk_pi0, mk_pi2, mk_pi3, mk_pi4, mk_pi7, mk_pi10, mk_pi12, mk_pi16, mk_pi19, mk_pi20, mk_pi22, mk_pi25, mk_pi26, mk_pi27, mk_pi29, mk_pi32, mk_ia1, mk_ia2, mk_ia3, mk_ia4, mk_ia5, mk_ia6, mk_ia7, mk_ia8, mk_ia9, mk_ia10, mk_ia11, mk_ia12, mk_ia13, mk_ia14, mk_ia15, mk_ia16, mk_is1, mk_is2, mk_is3, mk_is4, mk_is5, mk_is6, mk_is7, mk_is8, mk_is9, mk_is10, mk_is11, mk_is12, mk_is13, mk_is14, mk_is15, mk_is16, L0, L1, L2, L3, L4, L5, L6, L7, L8, L9, L10, L12, L20, L22, L24, L26, L27, L28, L32, L40, L60, L73, L95, L97, L222, L240, L441, L442, L622, Lm1, Lmh, L11, L13, L14, L15, L16, L17, L18, L19, L21, L23, L25, L30, L31, L33, L36, L39, L41, L44, L48, L53, L54, L55, L57, L58, L59, L91, L93, L98, L99, L100, L105, L106, L112, L114, L115, L119, L122, L160, L180, L200, L255, L1440, L24880, L63, Lm2, pX10_act, e1, c1, c2, c3, qn]
          exact b38
  · rw [setA_e]; exact t3
  · rw [setA_n _ _ (by decide), k22]; exact p1.2.1
  · rw [setA_n _ _ (by decide), k12]; exact p1.2.2 i hi
theorem undo21 {n : Nat} {M : mm_M} {am : Nat} {m : mS} {c : Nat} (hc : c < 40) (h22 : m.1 0 22 = c) : ∀ (q i : Nat) (f : Int → Int), i ≤ 622 → 622 < i + q → ∃ g, pX10_undo_l21 n q (mk M am (setA m 7 f)) am (iI i) = some (iI c, mk M am (setA m 7 g)) ∧ ∀ z : Int, g z = if (i : Int) ≤ z ∧ z < 622 then m.1 12 (622 * c + z) else f z := by
  intro q
  induction q with
  | zero => intro i f h1 h2; omega
  | succ q ih =>
    intro i f h1 h2
    show ∃ g, pX10_undo_l21b n (pX10_undo_l21 n q) (mk M am (setA m 7 f)) am _ = _ ∧ _
    by_cases d : (622 : Int) ≤ i
    · refine ⟨f, ?_, fun z => by rw [if_neg (by omega)]⟩
      simp (disch := (first | assumption | (refine sm_of ?_ ?_ <;> omega) | omega)) only [iI_add, iI_sub, iI_mul, iI_neg, iI_lt, iI_le, iI_eq, b1_s, b2_s, ↓reduceIte, mk_v, mk_gl23, mk_pl23, mk_gr1, mk_gr5, mk_gr6, mk_gr8, mk_gr9, mk_gr11, mk_gr13, mk_gr14, mk_gr15, mk_gr17, mk_gr18, mk_gr21, mk_gr24, mk_gr28, mk_gr30, mk_gr31, mk_gi0, mk_gi2, mk_gi3, mk_gi4, mk_gi7, mk_gi10, mk_gi12, mk_gi16, mk_gi19, mk_gi20, mk_gi22, mk_gi25, mk_gi26, mk_gi27, mk_gi29, mk_gi32, mk_pi0, mk_pi2, mk_pi3, mk_pi4, mk_pi7, mk_pi10, mk_pi12, mk_pi16, mk_pi19, mk_pi20, mk_pi22, mk_pi25, mk_pi26, mk_pi27, mk_pi29, mk_pi32, mk_ia1, mk_ia2, mk_ia3, mk_ia4, mk_ia5, mk_ia6, mk_ia7, mk_ia8, mk_ia9, mk_ia10, mk_ia11, mk_ia12, mk_ia13, mk_ia14, mk_ia15, mk_ia16, mk_is1, mk_is2, mk_is3, mk_is4, mk_is5, mk_is6, mk_is7, mk_is8, mk_is9, mk_is10, mk_is11, mk_is12, mk_is13, mk_is14, mk_is15, mk_is16, L0, L1, L2, L3, L4, L5, L6, L7, L8, L9, L10, L12, L20, L22, L24, L26, L27, L28, L32, L40, L60, L73, L95, L97, L222, L240, L441, L442, L622, Lm1, Lmh, L11, L13, L14, L15, L16, L17, L18, L19, L21, L23, L25, L30, L31, L33, L36, L39, L41, L44, L48, L53, L54, L55, L57, L58, L59, L91, L93, L98, L99, L100, L105, L106, L112, L114, L115, L119, L122, L160, L180, L200, L255, L1440, L24880, L63, Lm2, pX10_undo_l21b, d, setA_n, h22]
    · obtain ⟨g, e1, r1⟩ := ih (i + 1) (upI f i (m.1 12 (622 * c + i))) (by omega) (by omega)
      refine ⟨g, ?_, fun z => ?_⟩
      · simp (disch := (first | assumption | (refine sm_of ?_ ?_ <;> omega) | omega)) only [iI_add, iI_sub, iI_mul, iI_neg, iI_lt, iI_le, iI_eq, b1_s, b2_s, ↓reduceIte, mk_v, mk_gl23, mk_pl23, mk_gr1, mk_gr5, mk_gr6, mk_gr8, mk_gr9, mk_gr11, mk_gr13, mk_gr14, mk_gr15, mk_gr17, mk_gr18, mk_gr21, mk_gr24, mk_gr28, mk_gr30, mk_gr31, mk_gi0, mk_gi2, mk_gi3, mk_gi4, mk_gi7, mk_gi10, mk_gi12, mk_gi16, mk_gi19, mk_gi20, mk_gi22, mk_gi25, mk_gi26, mk_gi27, mk_gi29, mk_gi32, mk_pi0, mk_pi2, mk_pi3, mk_pi4, mk_pi7, mk_pi10, mk_pi12, mk_pi16, mk_pi19, mk_pi20, mk_pi22, mk_pi25, mk_pi26, mk_pi27, mk_pi29, mk_pi32, mk_ia1, mk_ia2, mk_ia3, mk_ia4, mk_ia5, mk_ia6, mk_ia7, mk_ia8, mk_ia9, mk_ia10, mk_ia11, mk_ia12, mk_ia13, mk_ia14, mk_ia15, mk_ia16, mk_is1, mk_is2, mk_is3, mk_is4, mk_is5, mk_is6, mk_is7, mk_is8, mk_is9, mk_is10, mk_is11, mk_is12, mk_is13, mk_is14, mk_is15, mk_is16, L0, L1, L2, L3, L4, L5, L6, L7, L8, L9, L10, L12, L20, L22, L24, L26, L27, L28, L32, L40, L60, L73, L95, L97, L222, L240, L441, L442, L622, Lm1, Lmh, L11, L13, L14, L15, L16, L17, L18, L19, L21, L23, L25, L30, L31, L33, L36, L39, L41, L44, L48, L53, L54, L55, L57, L58, L59, L91, L93, L98, L99, L100, L105, L106, L112, L114, L115, L119, L122, L160, L180, L200, L255, L1440, L24880, L63, Lm2, pX10_undo_l21b, d, setA_e, setA_setA, setA_n, h22]
        rw [show ((i : Int) + 1) = ((i + 1 : Nat) : Int) by omega]
        exact e1
      · rw [r1 z]
        by_cases e : z = i
        · rw [if_neg (by omega), e, upI_e, if_pos (by omega)]
        · rw [upI_n _ _ e]
          by_cases g : (i : Int) ≤ z ∧ z < 622
          · rw [if_pos g, if_pos (by omega)]
          · rw [if_neg g, if_neg (by omega)]
theorem m_undo {n : Nat} (hn : 25000 ≤ n) {M : mm_M} {am : Nat} {m : mS} {P : kT} {ps : List kT} (hK : Kp m (P :: ps)) : ∃ m', pX10_undo n (mk M am m) am = some (iI ps.length, mk M am m') ∧ NwT (m'.1 7) P ∧ Kp m' ps ∧ sxa m m' := by
  obtain ⟨k1, k2, k3⟩ := hK
  rw [List.length_cons] at k1 k2
  obtain ⟨g, e1, r1⟩ := undo21 (n := n) (M := M) (am := am) (m := setA m 0 (upI (m.1 0) 22 ps.length)) (c := ps.length) (by omega) (by rw [setA_e, upI_e]) n 0 (m.1 7) (by omega) (by omega)
  refine ⟨setA (setA m 0 (upI (m.1 0) 22 ps.length)) 7 g, ?_, ?_, ⟨by omega, ?_, fun i hi => ?_⟩, ?_⟩
  · have c' : ¬ ((ps.length + 1 : Nat) : Int) = 0 := by omega
    simp (disch := (first | assumption | (refine sm_of ?_ ?_ <;> omega) | omega)) only [iI_add, iI_sub, iI_mul, iI_neg, iI_lt, iI_le, iI_eq, b1_s, b2_s, ↓reduceIte, mk_v, mk_gl23, mk_pl23, mk_gr1, mk_gr5, mk_gr6, mk_gr8, mk_gr9, mk_gr11, mk_gr13, mk_gr14, mk_gr15, mk_gr17, mk_gr18, mk_gr21, mk_gr24, mk_gr28, mk_gr30, mk_gr31, mk_gi0, mk_gi2, mk_gi3, mk_gi4, mk_gi7, mk_gi10, mk_gi12, mk_gi16, mk_gi19, mk_gi20, mk_gi22, mk_gi25, mk_gi26, mk_gi27, mk_gi29, mk_gi32, mk_pi0, mk_pi2, mk_pi3, mk_pi4, mk_pi7, mk_pi10, mk_pi12, mk_pi16, mk_pi19, mk_pi20, mk_pi22, mk_pi25, mk_pi26, mk_pi27, mk_pi29, mk_pi32, mk_ia1, mk_ia2, mk_ia3, mk_ia4, mk_ia5, mk_ia6, mk_ia7, mk_ia8, mk_ia9, mk_ia10, mk_ia11, mk_ia12, mk_ia13, mk_ia14, mk_ia15, mk_ia16, mk_is1, mk_is2, mk_is3, mk_is4, mk_is5, mk_is6, mk_is7, mk_is8, mk_is9, mk_is10, mk_is11, mk_is12, mk_is13, mk_is14, mk_is15, mk_is16, L0, L1, L2, L3, L4, L5, L6, L7, L8, L9, L10, L12, L20, L22, L24, L26, L27, L28, L32, L40, L60, L73, L95, L97, L222, L240, L441, L442, L622, Lm1, Lmh, L11, L13, L14, L15, L16, L17, L18, L19, L21, L23, L25, L30, L31, L33, L36, L39, L41, L44, L48, L53, L54, L55, L57, L58, L59, L91, L93, L98, L99, L100, L105, L106, L112, L114, L115, L119, L122, L160, L180, L200, L255, L1440, L24880, L63, Lm2, pX10_undo, k2, c']
    rw [show (((ps.length + 1 : Nat) : Int) - 1) = (ps.length : Int) by omega]
    have : setA (setA m 0 (upI (m.1 0) 22 ps.length)) 7 (m.1 7) = setA m 0 (upI (m.1 0) 22 ps.length) := by
      have := setA_self (setA m 0 (upI (m.1 0) 22 ps.length)) 7
      rw [setA_n _ _ (by decide)] at this; exact this
    rw [this] at e1
    exact e1
  · rw [setA_e]
    obtain ⟨p1, p2⟩ := k3 0 (by simp)
    refine NwT_cg p2 p1 (fun q q0 q1 => ?_)
    rw [r1, if_pos (by omega), setA_n _ _ (by decide)]
    show _ = m.1 12 _
    exact apI (by rw [List.length_cons]; omega)
  · rw [setA_n _ _ (by decide), setA_e, upI_e]
  · obtain ⟨p1, p2⟩ := k3 (i + 1) (by simp; omega)
    rw [List.getD_cons_succ] at p1 p2
    refine ⟨p1, NwT_cg p2 p1 (fun q q0 q1 => ?_)⟩
    show (setA (setA m 0 _) 7 g).1 12 _ = m.1 12 _
    rw [setA_n _ _ (by decide), setA_n _ _ (by decide)]
    exact apI (by rw [List.length_cons]; omega)
  · refine ⟨rfl, fun j a b c d e => ?_, fun x a b c => ?_⟩
    · rw [setA_n _ _ b, setA_n _ _ a]
    · rw [setA_n _ _ (by decide), setA_e, upI_n _ _ c]
theorem m_undo0 {n : Nat} {M : mm_M} {am : Nat} {m : mS} (hK : Kp m []) : pX10_undo n (mk M am m) am = some (iI (-1), mk M am m) := by
  have k2 : m.1 0 22 = 0 := hK.2.1
  simp (disch := (first | assumption | (refine sm_of ?_ ?_ <;> omega) | omega)) only [iI_add, iI_sub, iI_mul, iI_neg, iI_lt, iI_le, iI_eq, b1_s, b2_s, ↓reduceIte, mk_v, mk_gl23, mk_pl23, mk_gr1, mk_gr5, mk_gr6, mk_gr8, mk_gr9, mk_gr11, mk_gr13, mk_gr14, mk_gr15, mk_gr17, mk_gr18, mk_gr21, mk_gr24, mk_gr28, mk_gr30, mk_gr31, mk_gi0, mk_gi2, mk_gi3, mk_gi4, mk_gi7, mk_gi10, mk_gi12, mk_gi16, mk_gi19, mk_gi20, mk_gi22, mk_gi25, mk_gi26, mk_gi27, mk_gi29, mk_gi32, mk_pi0, mk_pi2, mk_pi3, mk_pi4, mk_pi7, mk_pi10, mk_pi12, mk_pi16, mk_pi19, mk_pi20, mk_pi22, mk_pi25, mk_pi26, mk_pi27, mk_pi29, mk_pi32, mk_ia1, mk_ia2, mk_ia3, mk_ia4, mk_ia5, mk_ia6, mk_ia7, mk_ia8, mk_ia9, mk_ia10, mk_ia11, mk_ia12, mk_ia13, mk_ia14, mk_ia15, mk_ia16, mk_is1, mk_is2, mk_is3, mk_is4, mk_is5, mk_is6, mk_is7, mk_is8, mk_is9, mk_is10, mk_is11, mk_is12, mk_is13, mk_is14, mk_is15, mk_is16, L0, L1, L2, L3, L4, L5, L6, L7, L8, L9, L10, L12, L20, L22, L24, L26, L27, L28, L32, L40, L60, L73, L95, L97, L222, L240, L441, L442, L622, Lm1, Lmh, L11, L13, L14, L15, L16, L17, L18, L19, L21, L23, L25, L30, L31, L33, L36, L39, L41, L44, L48, L53, L54, L55, L57, L58, L59, L91, L93, L98, L99, L100, L105, L106, L112, L114, L115, L119, L122, L160, L180, L200, L255, L1440, L24880, L63, Lm2, pX10_undo, k2]
theorem image11 {n : Nat} (hn : 60 ≤ n) {M : mm_M} {am : Nat} {m : mS} {ls : List kL} (hN : NwL (m.1 7) ls) (ho : okL ls) : ∀ (q i : Nat) (f : Int → Int), i ≤ 622 → 622 < i + q → ∃ g, pX10_image_l11 n q (mk M am (setA m 16 f)) am (iI i) = some (iI (allS ls), mk M am (setA (setA m 16 g) 0 (upI (m.1 0) 32 1))) ∧ ∀ z : Int, g z = if (i : Int) ≤ z ∧ z < 622 then m.1 7 z else f z := by
  intro q
  induction q with
  | zero => intro i f h1 h2; omega
  | succ q ih =>
    intro i f h1 h2
    show ∃ g, pX10_image_l11b n (pX10_image_l11 n q) (mk M am (setA m 16 f)) am _ = _ ∧ _
    by_cases d : (622 : Int) ≤ i
    · refine ⟨f, ?_, fun z => by rw [if_neg (by omega)]⟩
      have z := mk_pz32 M am (setA m 16 f) (v := 1) (Or.inr rfl)
      have a := m_all hn (M := M) (am := am) (m := setA (setA m 16 f) 0 (upI ((setA m 16 f).1 0) 32 1)) (ls := ls) (by rw [setA_n _ _ (by decide), setA_n _ _ (by decide)]; exact hN) ho
      rw [setA_n _ _ (show 0 ≠ 16 by decide)] at z a
      simp (disch := (first | assumption | (refine sm_of ?_ ?_ <;> omega) | omega)) only [iI_add, iI_sub, iI_mul, iI_neg, iI_lt, iI_le, iI_eq, b1_s, b2_s, ↓reduceIte, mk_v, mk_gl23, mk_pl23, mk_gr1, mk_gr5, mk_gr6, mk_gr8, mk_gr9, mk_gr11, mk_gr13, mk_gr14, mk_gr15, mk_gr17, mk_gr18, mk_gr21, mk_gr24, mk_gr28, mk_gr30, mk_gr31, mk_gi0, mk_gi2, mk_gi3, mk_gi4, mk_gi7, mk_gi10, mk_gi12, mk_gi16, mk_gi19, mk_gi20, mk_gi22, mk_gi25, mk_gi26, mk_gi27, mk_gi29, mk_gi32, mk_pi0, mk_pi2, mk_pi3, mk_pi4, mk_pi7, mk_pi10, mk_pi12, mk_pi16, mk_pi19, mk_pi20, mk_pi22, mk_pi25, mk_pi26, mk_pi27, mk_pi29, mk_pi32, mk_ia1, mk_ia2, mk_ia3, mk_ia4, mk_ia5, mk_ia6, mk_ia7, mk_ia8, mk_ia9, mk_ia10, mk_ia11, mk_ia12, mk_ia13, mk_ia14, mk_ia15, mk_ia16, mk_is1, mk_is2, mk_is3, mk_is4, mk_is5, mk_is6, mk_is7, mk_is8, mk_is9, mk_is10, mk_is11, mk_is12, mk_is13, mk_is14, mk_is15, mk_is16, L0, L1, L2, L3, L4, L5, L6, L7, L8, L9, L10, L12, L20, L22, L24, L26, L27, L28, L32, L40, L60, L73, L95, L97, L222, L240, L441, L442, L622, Lm1, Lmh, L11, L13, L14, L15, L16, L17, L18, L19, L21, L23, L25, L30, L31, L33, L36, L39, L41, L44, L48, L53, L54, L55, L57, L58, L59, L91, L93, L98, L99, L100, L105, L106, L112, L114, L115, L119, L122, L160, L180, L200, L255, L1440, L24880, L63, Lm2, pX10_image_l11b, d, z, a]
    · obtain ⟨g, e1, r1⟩ := ih (i + 1) (upI f i (m.1 7 i)) (by omega) (by omega)
      refine ⟨g, ?_, fun z => ?_⟩
      · simp (disch := (first | assumption | (refine sm_of ?_ ?_ <;> omega) | omega)) only [iI_add, iI_sub, iI_mul, iI_neg, iI_lt, iI_le, iI_eq, b1_s, b2_s, ↓reduceIte, mk_v, mk_gl23, mk_pl23, mk_gr1, mk_gr5, mk_gr6, mk_gr8, mk_gr9, mk_gr11, mk_gr13, mk_gr14, mk_gr15, mk_gr17, mk_gr18, mk_gr21, mk_gr24, mk_gr28, mk_gr30, mk_gr31, mk_gi0, mk_gi2, mk_gi3, mk_gi4, mk_gi7, mk_gi10, mk_gi12, mk_gi16, mk_gi19, mk_gi20, mk_gi22, mk_gi25, mk_gi26, mk_gi27, mk_gi29, mk_gi32, mk_pi0, mk_pi2, mk_pi3, mk_pi4, mk_pi7, mk_pi10, mk_pi12, mk_pi16, mk_pi19, mk_pi20, mk_pi22, mk_pi25, mk_pi26, mk_pi27, mk_pi29, mk_pi32, mk_ia1, mk_ia2, mk_ia3, mk_ia4, mk_ia5, mk_ia6, mk_ia7, mk_ia8, mk_ia9, mk_ia10, mk_ia11, mk_ia12, mk_ia13, mk_ia14, mk_ia15, mk_ia16, mk_is1, mk_is2, mk_is3, mk_is4, mk_is5, mk_is6, mk_is7, mk_is8, mk_is9, mk_is10, mk_is11, mk_is12, mk_is13, mk_is14, mk_is15, mk_is16, L0, L1, L2, L3, L4, L5, L6, L7, L8, L9, L10, L12, L20, L22, L24, L26, L27, L28, L32, L40, L60, L73, L95, L97, L222, L240, L441, L442, L622, Lm1, Lmh, L11, L13, L14, L15, L16, L17, L18, L19, L21, L23, L25, L30, L31, L33, L36, L39, L41, L44, L48, L53, L54, L55, L57, L58, L59, L91, L93, L98, L99, L100, L105, L106, L112, L114, L115, L119, L122, L160, L180, L200, L255, L1440, L24880, L63, Lm2, pX10_image_l11b, d, setA_e, setA_setA, setA_n]
        rw [show ((i : Int) + 1) = ((i + 1 : Nat) : Int) by omega]
        exact e1
      · rw [r1 z]
        by_cases e : z = i
        · rw [if_neg (by omega), e, upI_e, if_pos (by omega)]
        · rw [upI_n _ _ e]
          by_cases g : (i : Int) ≤ z ∧ z < 622
          · rw [if_pos g, if_pos (by omega)]
          · rw [if_neg g, if_neg (by omega)]
theorem m_image {n : Nat} (hn : 25000 ≤ n) {M : mm_M} {am : Nat} {m : mS} {T : kT} (hT : NwT (m.1 7) T) (ho : okT T) (hs : T.1.length ≠ 0) : ∃ g, pX10_image n (mk M am m) am = some (iI (allS T.1), mk M am (setA (setA m 16 g) 0 (upI (m.1 0) 32 1))) ∧ NwT g T := by
  obtain ⟨g, e1, r1⟩ := image11 (show 60 ≤ n by omega) (M := M) (am := am) hT.1 ho.1 n 0 (m.1 16) (by omega) (by omega)
  rw [setA_self] at e1
  refine ⟨g, ?_, NwT_cg hT ho (fun q q0 q1 => by rw [r1, if_pos (by omega)])⟩
  simp (disch := (first | assumption | (refine sm_of ?_ ?_ <;> omega) | omega)) only [iI_add, iI_sub, iI_mul, iI_neg, iI_lt, iI_le, iI_eq, b1_s, b2_s, ↓reduceIte, mk_v, mk_gl23, mk_pl23, mk_gr1, mk_gr5, mk_gr6, mk_gr8, mk_gr9, mk_gr11, mk_gr13, mk_gr14, mk_gr15, mk_gr17, mk_gr18, mk_gr21, mk_gr24, mk_gr28, mk_gr30, mk_gr31, mk_gi0, mk_gi2, mk_gi3, mk_gi4, mk_gi7, mk_gi10, mk_gi12, mk_gi16, mk_gi19, mk_gi20, mk_gi22, mk_gi25, mk_gi26, mk_gi27, mk_gi29, mk_gi32, mk_pi0, mk_pi2, mk_pi3, mk_pi4, mk_pi7, mk_pi10, mk_pi12, mk_pi16, mk_pi19, mk_pi20, mk_pi22, mk_pi25, mk_pi26, mk_pi27, mk_pi29, mk_pi32, mk_ia1, mk_ia2, mk_ia3, mk_ia4, mk_ia5, mk_ia6, mk_ia7, mk_ia8, mk_ia9, mk_ia10, mk_ia11, mk_ia12, mk_ia13, mk_ia14, mk_ia15, mk_ia16, mk_is1, mk_is2, mk_is3, mk_is4, mk_is5, mk_is6, mk_is7, mk_is8, mk_is9, mk_is10, mk_is11, mk_is12, mk_is13, mk_is14, mk_is15, mk_is16, L0, L1, L2, L3, L4, L5, L6, L7, L8, L9, L10, L12, L20, L22, L24, L26, L27, L28, L32, L40, L60, L73, L95, L97, L222, L240, L441, L442, L622, Lm1, Lmh, L11, L13, L14, L15, L16, L17, L18, L19, L21, L23, L25, L30, L31, L33, L36, L39, L41, L44, L48, L53, L54, L55, L57, L58, L59, L91, L93, L98, L99, L100, L105, L106, L112, L114, L115, L119, L122, L160, L180, L200, L255, L1440, L24880, L63, Lm2, pX10_image, m_store hT.1 ho.1, bI_0]
  rw [decide_eq_true (by omega), if_neg (by decide)]
  exact e1
theorem back11 {n : Nat} (hn : 60 ≤ n) {M : mm_M} {am : Nat} {m : mS} {ls : List kL} (hN : NwL (m.1 16) ls) (ho : okL ls) : ∀ (q i : Nat) (f : Int → Int), i ≤ 622 → 622 < i + q → (∀ z : Int, 0 ≤ z → z < i → f z = m.1 16 z) → ∃ g, pX10_back_l11 n q (mk M am (setA m 7 f)) am (iI i) = some (iI (allS ls), mk M am (setA (setA m 7 g) 0 (upI (m.1 0) 22 0))) ∧ ∀ z : Int, 0 ≤ z → z < 622 → g z = m.1 16 z := by
  intro q
  induction q with
  | zero => intro i f h1 h2; omega
  | succ q ih =>
    intro i f h1 h2 h3
    show ∃ g, pX10_back_l11b n (pX10_back_l11 n q) (mk M am (setA m 7 f)) am _ = _ ∧ _
    by_cases d : (622 : Int) ≤ i
    · refine ⟨f, ?_, fun z z0 z1 => h3 z z0 (by omega)⟩
      have hN' : NwL f ls := by
        have l1 := ho.1
        refine ⟨by rw [h3 _ (by omega) (by omega)]; exact hN.1, fun k hk => ?_⟩
        obtain ⟨a1, a2, a3⟩ := hN.2 k hk
        have l2 := (ho.2 k hk).2.1
        exact ⟨by rw [h3 _ (by omega) (by omega)]; exact a1, by rw [h3 _ (by omega) (by omega)]; exact a2, rowA_cg a3 (fun i hi => h3 _ (by omega) (by omega))⟩
      have a := m_all hn (M := M) (am := am) (m := setA (setA m 7 f) 0 (upI ((setA m 7 f).1 0) 22 0)) (ls := ls) (by rw [setA_n _ _ (by decide), setA_e]; exact hN') ho
      rw [setA_n _ _ (show 0 ≠ 7 by decide)] at a
      simp (disch := (first | assumption | (refine sm_of ?_ ?_ <;> omega) | omega)) only [iI_add, iI_sub, iI_mul, iI_neg, iI_lt, iI_le, iI_eq, b1_s, b2_s, ↓reduceIte, mk_v, mk_gl23, mk_pl23, mk_gr1, mk_gr5, mk_gr6, mk_gr8, mk_gr9, mk_gr11, mk_gr13, mk_gr14, mk_gr15, mk_gr17, mk_gr18, mk_gr21, mk_gr24, mk_gr28, mk_gr30, mk_gr31, mk_gi0, mk_gi2, mk_gi3, mk_gi4, mk_gi7, mk_gi10, mk_gi12, mk_gi16, mk_gi19, mk_gi20, mk_gi22, mk_gi25, mk_gi26, mk_gi27, mk_gi29, mk_gi32, mk_pi0, mk_pi2, mk_pi3, mk_pi4, mk_pi7, mk_pi10, mk_pi12, mk_pi16, mk_pi19, mk_pi20, mk_pi22, mk_pi25, mk_pi26, mk_pi27, mk_pi29, mk_pi32, mk_ia1, mk_ia2, mk_ia3, mk_ia4, mk_ia5, mk_ia6, mk_ia7, mk_ia8, mk_ia9, mk_ia10, mk_ia11, mk_ia12, mk_ia13, mk_ia14, mk_ia15, mk_ia16, mk_is1, mk_is2, mk_is3, mk_is4, mk_is5, mk_is6, mk_is7, mk_is8, mk_is9, mk_is10, mk_is11, mk_is12, mk_is13, mk_is14, mk_is15, mk_is16, L0, L1, L2, L3, L4, L5, L6, L7, L8, L9, L10, L12, L20, L22, L24, L26, L27, L28, L32, L40, L60, L73, L95, L97, L222, L240, L441, L442, L622, Lm1, Lmh, L11, L13, L14, L15, L16, L17, L18, L19, L21, L23, L25, L30, L31, L33, L36, L39, L41, L44, L48, L53, L54, L55, L57, L58, L59, L91, L93, L98, L99, L100, L105, L106, L112, L114, L115, L119, L122, L160, L180, L200, L255, L1440, L24880, L63, Lm2, pX10_back_l11b, d, setA_n, a]
    · obtain ⟨g, e1, r1⟩ := ih (i + 1) (upI f i (m.1 16 i)) (by omega) (by omega) (fun z z0 z1 => by
        by_cases e : z = i
        · rw [e, upI_e]
        · rw [upI_n _ _ e]; exact h3 z z0 (by omega))
      refine ⟨g, ?_, r1⟩
      simp (disch := (first | assumption | (refine sm_of ?_ ?_ <;> omega) | omega)) only [iI_add, iI_sub, iI_mul, iI_neg, iI_lt, iI_le, iI_eq, b1_s, b2_s, ↓reduceIte, mk_v, mk_gl23, mk_pl23, mk_gr1, mk_gr5, mk_gr6, mk_gr8, mk_gr9, mk_gr11, mk_gr13, mk_gr14, mk_gr15, mk_gr17, mk_gr18, mk_gr21, mk_gr24, mk_gr28, mk_gr30, mk_gr31, mk_gi0, mk_gi2, mk_gi3, mk_gi4, mk_gi7, mk_gi10, mk_gi12, mk_gi16, mk_gi19, mk_gi20, mk_gi22, mk_gi25, mk_gi26, mk_gi27, mk_gi29, mk_gi32, mk_pi0, mk_pi2, mk_pi3, mk_pi4, mk_pi7, mk_pi10, mk_pi12, mk_pi16, mk_pi19, mk_pi20, mk_pi22, mk_pi25, mk_pi26, mk_pi27, mk_pi29, mk_pi32, mk_ia1, mk_ia2, mk_ia3, mk_ia4, mk_ia5, mk_ia6, mk_ia7, mk_ia8, mk_ia9, mk_ia10, mk_ia11, mk_ia12, mk_ia13, mk_ia14, mk_ia15, mk_ia16, mk_is1, mk_is2, mk_is3, mk_is4, mk_is5, mk_is6, mk_is7, mk_is8, mk_is9, mk_is10, mk_is11, mk_is12, mk_is13, mk_is14, mk_is15, mk_is16, L0, L1, L2, L3, L4, L5, L6, L7, L8, L9, L10, L12, L20, L22, L24, L26, L27, L28, L32, L40, L60, L73, L95, L97, L222, L240, L441, L442, L622, Lm1, Lmh, L11, L13, L14, L15, L16, L17, L18, L19, L21, L23, L25, L30, L31, L33, L36, L39, L41, L44, L48, L53, L54, L55, L57, L58, L59, L91, L93, L98, L99, L100, L105, L106, L112, L114, L115, L119, L122, L160, L180, L200, L255, L1440, L24880, L63, Lm2, pX10_back_l11b, d, setA_e, setA_setA, setA_n]
      rw [show ((i : Int) + 1) = ((i + 1 : Nat) : Int) by omega]
      exact e1
theorem m_back {n : Nat} (hn : 25000 ≤ n) {M : mm_M} {am : Nat} {m : mS} {T : kT} (h32 : m.1 0 32 = 1) (hT : NwT (m.1 16) T) (ho : okT T) : ∃ g, pX10_back n (mk M am m) am = some (iI (allS T.1), mk M am (setA (setA m 7 g) 0 (upI (m.1 0) 22 0))) ∧ NwT g T := by
  obtain ⟨g, e1, r1⟩ := back11 (show 60 ≤ n by omega) (M := M) (am := am) hT.1 ho.1 n 0 (m.1 7) (by omega) (by omega) (fun z z0 z1 => by omega)
  rw [setA_self] at e1
  refine ⟨g, ?_, NwT_cg hT ho (fun q q0 q1 => r1 q q0 q1)⟩
  simp (disch := (first | assumption | (refine sm_of ?_ ?_ <;> omega) | omega)) only [iI_add, iI_sub, iI_mul, iI_neg, iI_lt, iI_le, iI_eq, b1_s, b2_s, ↓reduceIte, mk_v, mk_gl23, mk_pl23, mk_gr1, mk_gr5, mk_gr6, mk_gr8, mk_gr9, mk_gr11, mk_gr13, mk_gr14, mk_gr15, mk_gr17, mk_gr18, mk_gr21, mk_gr24, mk_gr28, mk_gr30, mk_gr31, mk_gi0, mk_gi2, mk_gi3, mk_gi4, mk_gi7, mk_gi10, mk_gi12, mk_gi16, mk_gi19, mk_gi20, mk_gi22, mk_gi25, mk_gi26, mk_gi27, mk_gi29, mk_gi32, mk_pi0, mk_pi2, mk_pi3, mk_pi4, mk_pi7, mk_pi10, mk_pi12, mk_pi16, mk_pi19, mk_pi20, mk_pi22, mk_pi25, mk_pi26, mk_pi27, mk_pi29, mk_pi32, mk_ia1, mk_ia2, mk_ia3, mk_ia4, mk_ia5, mk_ia6, mk_ia7, mk_ia8, mk_ia9, mk_ia10, mk_ia11, mk_ia12, mk_ia13, mk_ia14, mk_ia15, mk_ia16, mk_is1, mk_is2, mk_is3, mk_is4, mk_is5, mk_is6, mk_is7, mk_is8, mk_is9, mk_is10, mk_is11, mk_is12, mk_is13, mk_is14, mk_is15, mk_is16, L0, L1, L2, L3, L4, L5, L6, L7, L8, L9, L10, L12, L20, L22, L24, L26, L27, L28, L32, L40, L60, L73, L95, L97, L222, L240, L441, L442, L622, Lm1, Lmh, L11, L13, L14, L15, L16, L17, L18, L19, L21, L23, L25, L30, L31, L33, L36, L39, L41, L44, L48, L53, L54, L55, L57, L58, L59, L91, L93, L98, L99, L100, L105, L106, L112, L114, L115, L119, L122, L160, L180, L200, L255, L1440, L24880, L63, Lm2, pX10_back, h32, z10]
  exact e1
theorem aside2 {n : Nat} {M : mm_M} {am : Nat} {m : mS} : ∀ (q i : Nat) (f : Int → Int), i ≤ 441 → 441 < i + q → (∀ z : Int, 0 ≤ z → z < i → f z = m.1 7 z) → ∃ g, pX10_putAside_l2 n q (mk M am (setA m 15 f)) am (iI i) = some (mk M am (setA m 15 g)) ∧ ∀ z : Int, 0 ≤ z → z < 441 → g z = m.1 7 z := by
  intro q
  induction q with
  | zero => intro i f h1 h2; omega
  | succ q ih =>
    intro i f h1 h2 h3
    show ∃ g, pX10_putAside_l2b n (pX10_putAside_l2 n q) (mk M am (setA m 15 f)) am _ = _ ∧ _
    by_cases d : (441 : Int) ≤ i
    · refine ⟨f, ?_, fun z z0 z1 => h3 z z0 (by omega)⟩
      simp (disch := (first | assumption | (refine sm_of ?_ ?_ <;> omega) | omega)) only [iI_add, iI_sub, iI_mul, iI_neg, iI_lt, iI_le, iI_eq, b1_s, b2_s, ↓reduceIte, mk_v, mk_gl23, mk_pl23, mk_gr1, mk_gr5, mk_gr6, mk_gr8, mk_gr9, mk_gr11, mk_gr13, mk_gr14, mk_gr15, mk_gr17, mk_gr18, mk_gr21, mk_gr24, mk_gr28, mk_gr30, mk_gr31, mk_gi0, mk_gi2, mk_gi3, mk_gi4, mk_gi7, mk_gi10, mk_gi12, mk_gi16, mk_gi19, mk_gi20, mk_gi22, mk_gi25, mk_gi26, mk_gi27, mk_gi29, mk_gi32, mk_pi0, mk_pi2, mk_pi3, mk_pi4, mk_pi7, mk_pi10, mk_pi12, mk_pi16, mk_pi19, mk_pi20, mk_pi22, mk_pi25, mk_pi26, mk_pi27, mk_pi29, mk_pi32, mk_ia1, mk_ia2, mk_ia3, mk_ia4, mk_ia5, mk_ia6, mk_ia7, mk_ia8, mk_ia9, mk_ia10, mk_ia11, mk_ia12, mk_ia13, mk_ia14, mk_ia15, mk_ia16, mk_is1, mk_is2, mk_is3, mk_is4, mk_is5, mk_is6, mk_is7, mk_is8, mk_is9, mk_is10, mk_is11, mk_is12, mk_is13, mk_is14, mk_is15, mk_is16, L0, L1, L2, L3, L4, L5, L6, L7, L8, L9, L10, L12, L20, L22, L24, L26, L27, L28, L32, L40, L60, L73, L95, L97, L222, L240, L441, L442, L622, Lm1, Lmh, L11, L13, L14, L15, L16, L17, L18, L19, L21, L23, L25, L30, L31, L33, L36, L39, L41, L44, L48, L53, L54, L55, L57, L58, L59, L91, L93, L98, L99, L100, L105, L106, L112, L114, L115, L119, L122, L160, L180, L200, L255, L1440, L24880, L63, Lm2, pX10_putAside_l2b, d]
    · obtain ⟨g, e1, r1⟩ := ih (i + 1) (upI f i (m.1 7 i)) (by omega) (by omega) (fun z z0 z1 => by
        by_cases e : z = i
        · rw [e, upI_e]
        · rw [upI_n _ _ e]; exact h3 z z0 (by omega))
      refine ⟨g, ?_, r1⟩
      simp (disch := (first | assumption | (refine sm_of ?_ ?_ <;> omega) | omega)) only [iI_add, iI_sub, iI_mul, iI_neg, iI_lt, iI_le, iI_eq, b1_s, b2_s, ↓reduceIte, mk_v, mk_gl23, mk_pl23, mk_gr1, mk_gr5, mk_gr6, mk_gr8, mk_gr9, mk_gr11, mk_gr13, mk_gr14, mk_gr15, mk_gr17, mk_gr18, mk_gr21, mk_gr24, mk_gr28, mk_gr30, mk_gr31, mk_gi0, mk_gi2, mk_gi3, mk_gi4, mk_gi7, mk_gi10, mk_gi12, mk_gi16, mk_gi19, mk_gi20, mk_gi22, mk_gi25, mk_gi26, mk_gi27, mk_gi29, mk_gi32, mk_pi0, mk_pi2, mk_pi3, mk_pi4, mk_pi7, mk_pi10, mk_pi12, mk_pi16, mk_pi19, mk_pi20, mk_pi22, mk_pi25, mk_pi26, mk_pi27, mk_pi29, mk_pi32, mk_ia1, mk_ia2, mk_ia3, mk_ia4, mk_ia5, mk_ia6, mk_ia7, mk_ia8, mk_ia9, mk_ia10, mk_ia11, mk_ia12, mk_ia13, mk_ia14, mk_ia15, mk_ia16, mk_is1, mk_is2, mk_is3, mk_is4, mk_is5, mk_is6, mk_is7, mk_is8, mk_is9, mk_is10, mk_is11, mk_is12, mk_is13, mk_is14, mk_is15, mk_is16, L0, L1, L2, L3, L4, L5, L6, L7, L8, L9, L10, L12, L20, L22, L24, L26, L27, L28, L32, L40, L60, L73, L95, L97, L222, L240, L441, L442, L622, Lm1, Lmh, L11, L13, L14, L15, L16, L17, L18, L19, L21, L23, L25, L30, L31, L33, L36, L39, L41, L44, L48, L53, L54, L55, L57, L58, L59, L91, L93, L98, L99, L100, L105, L106, L112, L114, L115, L119, L122, L160, L180, L200, L255, L1440, L24880, L63, Lm2, pX10_putAside_l2b, d, setA_e, setA_setA, setA_n]
      rw [show ((i : Int) + 1) = ((i + 1 : Nat) : Int) by omega]
      exact e1
theorem m_aside {n : Nat} (hn : 25000 ≤ n) {M : mm_M} {am : Nat} {m : mS} : ∃ g, pX10_putAside n (mk M am m) am = some (mk M am (setA m 15 g)) ∧ ∀ z : Int, 0 ≤ z → z < 441 → g z = m.1 7 z := by
  obtain ⟨g, e1, r1⟩ := aside2 (n := n) (M := M) (am := am) (m := m) n 0 (m.1 15) (by omega) (by omega) (fun z z0 z1 => by omega)
  rw [setA_self] at e1
  refine ⟨g, ?_, r1⟩
  simp (disch := (first | assumption | (refine sm_of ?_ ?_ <;> omega) | omega)) only [iI_add, iI_sub, iI_mul, iI_neg, iI_lt, iI_le, iI_eq, b1_s, b2_s, ↓reduceIte, mk_v, mk_gl23, mk_pl23, mk_gr1, mk_gr5, mk_gr6, mk_gr8, mk_gr9, mk_gr11, mk_gr13, mk_gr14, mk_gr15, mk_gr17, mk_gr18, mk_gr21, mk_gr24, mk_gr28, mk_gr30, mk_gr31, mk_gi0, mk_gi2, mk_gi3, mk_gi4, mk_gi7, mk_gi10, mk_gi12, mk_gi16, mk_gi19, mk_gi20, mk_gi22, mk_gi25, mk_gi26, mk_gi27, mk_gi29, mk_gi32, mk_pi0, mk_pi2, mk_pi3, mk_pi4, mk_pi7, mk_pi10, mk_pi12, mk_pi16, mk_pi19, mk_pi20, mk_pi22, mk_pi25, mk_pi26, mk_pi27, mk_pi29, mk_pi32, mk_ia1, mk_ia2, mk_ia3, mk_ia4, mk_ia5, mk_ia6, mk_ia7, mk_ia8, mk_ia9, mk_ia10, mk_ia11, mk_ia12, mk_ia13, mk_ia14, mk_ia15, mk_ia16, mk_is1, mk_is2, mk_is3, mk_is4, mk_is5, mk_is6, mk_is7, mk_is8, mk_is9, mk_is10, mk_is11, mk_is12, mk_is13, mk_is14, mk_is15, mk_is16, L0, L1, L2, L3, L4, L5, L6, L7, L8, L9, L10, L12, L20, L22, L24, L26, L27, L28, L32, L40, L60, L73, L95, L97, L222, L240, L441, L442, L622, Lm1, Lmh, L11, L13, L14, L15, L16, L17, L18, L19, L21, L23, L25, L30, L31, L33, L36, L39, L41, L44, L48, L53, L54, L55, L57, L58, L59, L91, L93, L98, L99, L100, L105, L106, L112, L114, L115, L119, L122, L160, L180, L200, L255, L1440, L24880, L63, Lm2, pX10_putAside]
  exact e1
theorem bring2 {n : Nat} {M : mm_M} {am : Nat} {m : mS} : ∀ (q i : Nat) (f : Int → Int), i ≤ 441 → 441 < i + q → (∀ z : Int, f z = if 0 ≤ z ∧ z < i then m.1 15 z else m.1 7 z) → ∃ g, pX10_bringBack_l2 n q (mk M am (setA m 7 f)) am (iI i) = some (mk M am (setA m 7 g)) ∧ ∀ z : Int, g z = if 0 ≤ z ∧ z < 441 then m.1 15 z else m.1 7 z := by
  intro q
  induction q with
  | zero => intro i f h1 h2; omega
  | succ q ih =>
    intro i f h1 h2 h3
    show ∃ g, pX10_bringBack_l2b n (pX10_bringBack_l2 n q) (mk M am (setA m 7 f)) am _ = _ ∧ _
    by_cases d : (441 : Int) ≤ i
    · refine ⟨f, ?_, fun z => by rw [h3 z, show i = 441 by omega]; rfl⟩
      simp (disch := (first | assumption | (refine sm_of ?_ ?_ <;> omega) | omega)) only [iI_add, iI_sub, iI_mul, iI_neg, iI_lt, iI_le, iI_eq, b1_s, b2_s, ↓reduceIte, mk_v, mk_gl23, mk_pl23, mk_gr1, mk_gr5, mk_gr6, mk_gr8, mk_gr9, mk_gr11, mk_gr13, mk_gr14, mk_gr15, mk_gr17, mk_gr18, mk_gr21, mk_gr24, mk_gr28, mk_gr30, mk_gr31, mk_gi0, mk_gi2, mk_gi3, mk_gi4, mk_gi7, mk_gi10, mk_gi12, mk_gi16, mk_gi19, mk_gi20, mk_gi22, mk_gi25, mk_gi26, mk_gi27, mk_gi29, mk_gi32, mk_pi0, mk_pi2, mk_pi3, mk_pi4, mk_pi7, mk_pi10, mk_pi12, mk_pi16, mk_pi19, mk_pi20, mk_pi22, mk_pi25, mk_pi26, mk_pi27, mk_pi29, mk_pi32, mk_ia1, mk_ia2, mk_ia3, mk_ia4, mk_ia5, mk_ia6, mk_ia7, mk_ia8, mk_ia9, mk_ia10, mk_ia11, mk_ia12, mk_ia13, mk_ia14, mk_ia15, mk_ia16, mk_is1, mk_is2, mk_is3, mk_is4, mk_is5, mk_is6, mk_is7, mk_is8, mk_is9, mk_is10, mk_is11, mk_is12, mk_is13, mk_is14, mk_is15, mk_is16, L0, L1, L2, L3, L4, L5, L6, L7, L8, L9, L10, L12, L20, L22, L24, L26, L27, L28, L32, L40, L60, L73, L95, L97, L222, L240, L441, L442, L622, Lm1, Lmh, L11, L13, L14, L15, L16, L17, L18, L19, L21, L23, L25, L30, L31, L33, L36, L39, L41, L44, L48, L53, L54, L55, L57, L58, L59, L91, L93, L98, L99, L100, L105, L106, L112, L114, L115, L119, L122, L160, L180, L200, L255, L1440, L24880, L63, Lm2, pX10_bringBack_l2b, d]
    · obtain ⟨g, e1, r1⟩ := ih (i + 1) (upI f i (m.1 15 i)) (by omega) (by omega) (fun z => by
        by_cases e : z = i
        · rw [e, upI_e, if_pos (by omega)]
        · rw [upI_n _ _ e, h3 z]
          by_cases g : 0 ≤ z ∧ z < (i : Int)
          · rw [if_pos g, if_pos (by omega)]
          · rw [if_neg g, if_neg (by omega)])
      refine ⟨g, ?_, r1⟩
      simp (disch := (first | assumption | (refine sm_of ?_ ?_ <;> omega) | omega)) only [iI_add, iI_sub, iI_mul, iI_neg, iI_lt, iI_le, iI_eq, b1_s, b2_s, ↓reduceIte, mk_v, mk_gl23, mk_pl23, mk_gr1, mk_gr5, mk_gr6, mk_gr8, mk_gr9, mk_gr11, mk_gr13, mk_gr14, mk_gr15, mk_gr17, mk_gr18, mk_gr21, mk_gr24, mk_gr28, mk_gr30, mk_gr31, mk_gi0, mk_gi2, mk_gi3, mk_gi4, mk_gi7, mk_gi10, mk_gi12, mk_gi16, mk_gi19, mk_gi20, mk_gi22, mk_gi25, mk_gi26, mk_gi27, mk_gi29, mk_gi32, mk_pi0, mk_pi2, mk_pi3, mk_pi4, mk_pi7, mk_pi10, mk_pi12, mk_pi16, mk_pi19, mk_pi20, mk_pi22, mk_pi25, mk_pi26, mk_pi27, mk_pi29, mk_pi32, mk_ia1, mk_ia2, mk_ia3, mk_ia4, mk_ia5, mk_ia6, mk_ia7, mk_ia8, mk_ia9, mk_ia10, mk_ia11, mk_ia12, mk_ia13, mk_ia14, mk_ia15, mk_ia16, mk_is1, mk_is2, mk_is3, mk_is4, mk_is5, mk_is6, mk_is7, mk_is8, mk_is9, mk_is10, mk_is11, mk_is12, mk_is13, mk_is14, mk_is15, mk_is16, L0, L1, L2, L3, L4, L5, L6, L7, L8, L9, L10, L12, L20, L22, L24, L26, L27, L28, L32, L40, L60, L73, L95, L97, L222, L240, L441, L442, L622, Lm1, Lmh, L11, L13, L14, L15, L16, L17, L18, L19, L21, L23, L25, L30, L31, L33, L36, L39, L41, L44, L48, L53, L54, L55, L57, L58, L59, L91, L93, L98, L99, L100, L105, L106, L112, L114, L115, L119, L122, L160, L180, L200, L255, L1440, L24880, L63, Lm2, pX10_bringBack_l2b, d, setA_e, setA_setA, setA_n]
      rw [show ((i : Int) + 1) = ((i + 1 : Nat) : Int) by omega]
      exact e1
theorem m_bring {n : Nat} (hn : 25000 ≤ n) {M : mm_M} {am : Nat} {m : mS} : ∃ g, pX10_bringBack n (mk M am m) am = some (mk M am (setA m 7 g)) ∧ ∀ z : Int, g z = if 0 ≤ z ∧ z < 441 then m.1 15 z else m.1 7 z := by
  obtain ⟨g, e1, r1⟩ := bring2 (n := n) (M := M) (am := am) (m := m) n 0 (m.1 7) (by omega) (by omega) (fun z => by rw [if_neg (by omega)])
  rw [setA_self] at e1
  refine ⟨g, ?_, r1⟩
  simp (disch := (first | assumption | (refine sm_of ?_ ?_ <;> omega) | omega)) only [iI_add, iI_sub, iI_mul, iI_neg, iI_lt, iI_le, iI_eq, b1_s, b2_s, ↓reduceIte, mk_v, mk_gl23, mk_pl23, mk_gr1, mk_gr5, mk_gr6, mk_gr8, mk_gr9, mk_gr11, mk_gr13, mk_gr14, mk_gr15, mk_gr17, mk_gr18, mk_gr21, mk_gr24, mk_gr28, mk_gr30, mk_gr31, mk_gi0, mk_gi2, mk_gi3, mk_gi4, mk_gi7, mk_gi10, mk_gi12, mk_gi16, mk_gi19, mk_gi20, mk_gi22, mk_gi25, mk_gi26, mk_gi27, mk_gi29, mk_gi32, mk_pi0, mk_pi2, mk_pi3, mk_pi4, mk_pi7, mk_pi10, mk_pi12, mk_pi16, mk_pi19, mk_pi20, mk_pi22, mk_pi25, mk_pi26, mk_pi27, mk_pi29, mk_pi32, mk_ia1, mk_ia2, mk_ia3, mk_ia4, mk_ia5, mk_ia6, mk_ia7, mk_ia8, mk_ia9, mk_ia10, mk_ia11, mk_ia12, mk_ia13, mk_ia14, mk_ia15, mk_ia16, mk_is1, mk_is2, mk_is3, mk_is4, mk_is5, mk_is6, mk_is7, mk_is8, mk_is9, mk_is10, mk_is11, mk_is12, mk_is13, mk_is14, mk_is15, mk_is16, L0, L1, L2, L3, L4, L5, L6, L7, L8, L9, L10, L12, L20, L22, L24, L26, L27, L28, L32, L40, L60, L73, L95, L97, L222, L240, L441, L442, L622, Lm1, Lmh, L11, L13, L14, L15, L16, L17, L18, L19, L21, L23, L25, L30, L31, L33, L36, L39, L41, L44, L48, L53, L54, L55, L57, L58, L59, L91, L93, L98, L99, L100, L105, L106, L112, L114, L115, L119, L122, L160, L180, L200, L255, L1440, L24880, L63, Lm2, pX10_bringBack]
  exact e1
