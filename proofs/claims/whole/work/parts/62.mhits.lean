/-! the reference's hits -/
def Hl (m : mS) (L : List kH) : Prop := L.length ≤ 200 ∧ m.1 0 19 = L.length ∧ ∀ i : Nat, i < L.length → m.1 10 i = (L.getD i (0, 0)).1 ∧ m.1 11 i = (L.getD i (0, 0)).2
def sx (m m' : mS) : Prop := m'.2 = m.2 ∧ (∀ j, j ≠ 0 → j ≠ 10 → j ≠ 11 → m'.1 j = m.1 j) ∧ ∀ x, x ≠ 19 → x ≠ 20 → m'.1 0 x = m.1 0 x
theorem sx.rfl {m : mS} : sx m m := ⟨Eq.refl _, fun _ _ _ _ => Eq.refl _, fun _ _ _ => Eq.refl _⟩
theorem sx.trans {m m1 m2 : mS} (h : sx m m1) (g : sx m1 m2) : sx m m2 := ⟨g.1.trans h.1, fun j a b c => (g.2.1 j a b c).trans (h.2.1 j a b c), fun x a b => (g.2.2 x a b).trans (h.2.2 x a b)⟩
theorem setA_u4 (m : mS) (f g f' g' : Int → Int) : setA (setA (setA (setA m 10 f) 11 g) 10 f') 11 g' = setA (setA m 10 f') 11 g' := by
  rw [setA_cm _ _ _ (show (11 : Nat) ≠ 10 by decide), setA_setA, setA_setA]
theorem m_take {n : Nat} (hn : 300 ≤ n) {M : mm_M} {am : Nat} {m : mS} {ls : List kL} (hN : NwL (m.1 7) ls) (ho : okL ls) {wl : Nat} (hw : m.1 0 20 = wl) (hwl : wl ≤ 20) {L : List kH} (hH : Hl m L) (hok : okH ls L) (hl : L.length < 200) {k p : Nat} (hk : k < ls.length) (hp : p < (lnN ls k).2.length) : ∃ m', pX10_takesHit n (mk M am m) am (iI k) (iI p) = some (mk M am m') ∧ Hl m' (insB (ltH ls wl) (k, p) L) ∧ sx m m' ∧ m'.1 0 20 = wl := by
  have c10 := ho.1
  have l20 := (ho.2 k hk).2.1
  generalize hlt : ltH ls wl = lt
  have loop : ∀ (q i : Nat) (m : mS), NwL (m.1 7) ls → m.1 0 20 = wl → (∀ j : Nat, j < i → m.1 10 j = (L.getD j (0, 0)).1 ∧ m.1 11 j = (L.getD j (0, 0)).2) → i ≤ L.length → i < q → ∃ f g, pX10_takesHit_l5 n q (mk M am m) am (iI k) (iI p) (iI i) = pX10_takesHit_b68 n (mk M am (setA (setA m 10 f) 11 g)) am (iI k) (iI p) (iI (posB lt (k, p) L i)) ∧ ∀ j : Int, f j = (if (posB lt (k, p) L i : Int) < j ∧ j ≤ i then m.1 10 (j - 1) else m.1 10 j) ∧ g j = if (posB lt (k, p) L i : Int) < j ∧ j ≤ i then m.1 11 (j - 1) else m.1 11 j := by
    intro q
    induction q with
    | zero => intro i m _ _ _ h1 h2; omega
    | succ q ih =>
      intro i m hN hw hA h1 h2
      show ∃ f g, pX10_takesHit_l5b n (pX10_takesHit_l5 n q) (mk M am m) am _ _ (iI i) = _ ∧ _
      cases i with
      | zero =>
        have ep : posB lt (k, p) L 0 = 0 := rfl
        rw [ep]
        refine ⟨m.1 10, m.1 11, ?_, fun j => ?_⟩
        · simp (disch := (first | assumption | (refine sm_of ?_ ?_ <;> omega) | omega)) only [iI_add, iI_sub, iI_mul, iI_neg, iI_lt, iI_le, iI_eq, b1_s, b2_s, ↓reduceIte, mk_v, mk_gl23, mk_pl23, mk_gr1, mk_gr5, mk_gr6, mk_gr8, mk_gr9, mk_gr11, mk_gr13, mk_gr14, mk_gr15, mk_gr17, mk_gr18, mk_gr21, mk_gr24, mk_gr28, mk_gr30, mk_gr31, mk_gi0, mk_gi2, mk_gi3, mk_gi4, mk_gi7, mk_gi10, mk_gi12, mk_gi16, mk_gi19, mk_gi20, mk_gi22, mk_gi25, mk_gi26, mk_gi27, mk_gi29, mk_gi32, mk_pi0, mk_pi2, mk_pi3, mk_pi4, mk_pi7, mk_pi10, mk_pi12, mk_pi16, mk_pi19, mk_pi20, mk_pi22, mk_pi25, mk_pi26, mk_pi27, mk_pi29, mk_pi32, mk_ia1, mk_ia2, mk_ia3, mk_ia4, mk_ia5, mk_ia6, mk_ia7, mk_ia8, mk_ia9, mk_ia10, mk_ia11, mk_ia12, mk_ia13, mk_ia14, mk_ia15, mk_ia16, mk_is1, mk_is2, mk_is3, mk_is4, mk_is5, mk_is6, mk_is7, mk_is8, mk_is9, mk_is10, mk_is11, mk_is12, mk_is13, mk_is14, mk_is15, mk_is16, L0, L1, L2, L3, L4, L5, L6, L7, L8, L9, L10, L12, L20, L22, L24, L26, L27, L28, L32, L40, L60, L73, L95, L97, L222, L240, L441, L442, L622, Lm1, Lmh, L11, L13, L14, L15, L16, L17, L18, L19, L21, L23, L25, L30, L31, L33, L36, L39, L41, L44, L48, L53, L54, L55, L57, L58, L59, L91, L93, L98, L99, L100, L105, L106, L112, L114, L115, L119, L122, L160, L180, L200, L255, L1440, L24880, L63, Lm2, pX10_takesHit_l5b, setA_self, show ((0 : Nat) : Int) ≤ 0 by omega]
        · rw [if_neg (by omega), if_neg (by omega)]; exact ⟨rfl, rfl⟩
      | succ i =>
        obtain ⟨e1, e2⟩ := hA i (by omega)
        have ok := hok.get (j := i) (by omega)
        generalize hx : L.getD i (0, 0) = x at *
        have lx := (ho.2 x.1 ok.1).2.1
        have cm := m_cmp (show 60 ≤ n by omega) (M := M) (am := am) hN ho hw hwl hk (Nat.le_of_lt hp) ok.1 (Nat.le_of_lt ok.2)
        have cb := cmpS_bd wl p (lnN ls k).1 (lnN ls k).2 x.2 (lnN ls x.1).1 (lnN ls x.1).2
        have cl := (cmpS_lt wl p (lnN ls k).1 (lnN ls k).2 x.2 (lnN ls x.1).1 (lnN ls x.1).2).1
        have eq : lt (k, p) x = decide (cmpH wl p (lnN ls k).1 (lnN ls k).2 x.2 (lnN ls x.1).1 (lnN ls x.1).2 < 0) := by
          rw [← hlt]; rfl
        have ei : (((i + 1 : Nat) : Int) - 1) = (i : Int) := by omega
        have ei2 : (((i + 1 : Nat) : Int) + -1) = (i : Int) := by omega
        by_cases d : cmpH wl p (lnN ls k).1 (lnN ls k).2 x.2 (lnN ls x.1).1 (lnN ls x.1).2 < 0
        · have ep : posB lt (k, p) L (i + 1) = posB lt (k, p) L i := by simp only [posB, hx, eq]; rw [if_pos (by simp [d])]
          rw [ep]
          obtain ⟨f, g, e3, e4⟩ := ih i (setA (setA m 10 (upI (m.1 10) ((i + 1 : Nat) : Int) (m.1 10 i))) 11 (upI (m.1 11) ((i + 1 : Nat) : Int) (m.1 11 i))) (by rw [setA_n _ _ (by decide), setA_n _ _ (by decide)]; exact hN) (by rw [setA_n _ _ (by decide), setA_n _ _ (by decide)]; exact hw) (fun j hj => by
            rw [setA_n _ _ (by decide), setA_e, setA_e, upI_n _ _ (by omega), upI_n _ _ (by omega)]; exact hA j (by omega)) (by omega) (by omega)
          refine ⟨f, g, ?_, fun j => ?_⟩
          · have hh : ¬ (((i + 1 : Nat) : Int) ≤ 0) := by omega
            simp (disch := (first | assumption | (refine sm_of ?_ ?_ <;> omega) | omega)) only [iI_add, iI_sub, iI_mul, iI_neg, iI_lt, iI_le, iI_eq, b1_s, b2_s, ↓reduceIte, mk_v, mk_gl23, mk_pl23, mk_gr1, mk_gr5, mk_gr6, mk_gr8, mk_gr9, mk_gr11, mk_gr13, mk_gr14, mk_gr15, mk_gr17, mk_gr18, mk_gr21, mk_gr24, mk_gr28, mk_gr30, mk_gr31, mk_gi0, mk_gi2, mk_gi3, mk_gi4, mk_gi7, mk_gi10, mk_gi12, mk_gi16, mk_gi19, mk_gi20, mk_gi22, mk_gi25, mk_gi26, mk_gi27, mk_gi29, mk_gi32, mk_pi0, mk_pi2, mk_pi3, mk_pi4, mk_pi7, mk_pi10, mk_pi12, mk_pi16, mk_pi19, mk_pi20, mk_pi22, mk_pi25, mk_pi26, mk_pi27, mk_pi29, mk_pi32, mk_ia1, mk_ia2, mk_ia3, mk_ia4, mk_ia5, mk_ia6, mk_ia7, mk_ia8, mk_ia9, mk_ia10, mk_ia11, mk_ia12, mk_ia13, mk_ia14, mk_ia15, mk_ia16, mk_is1, mk_is2, mk_is3, mk_is4, mk_is5, mk_is6, mk_is7, mk_is8, mk_is9, mk_is10, mk_is11, mk_is12, mk_is13, mk_is14, mk_is15, mk_is16, L0, L1, L2, L3, L4, L5, L6, L7, L8, L9, L10, L12, L20, L22, L24, L26, L27, L28, L32, L40, L60, L73, L95, L97, L222, L240, L441, L442, L622, Lm1, Lmh, L11, L13, L14, L15, L16, L17, L18, L19, L21, L23, L25, L30, L31, L33, L36, L39, L41, L44, L48, L53, L54, L55, L57, L58, L59, L91, L93, L98, L99, L100, L105, L106, L112, L114, L115, L119, L122, L160, L180, L200, L255, L1440, L24880, L63, Lm2, pX10_takesHit_l5b, hh, ei, ei2, e1, e2, cm, show ¬ (0 ≤ cmpS wl p (lnN ls k).1 (lnN ls k).2 x.2 (lnN ls x.1).1 (lnN ls x.1).2) by omega, setA_n, ne_eq, Nat.reduceEqDiff, not_false_eq_true]
            rw [e1, e2] at e3
            rw [e3]
            rw [setA_u4]
          · have pb := posB_le lt (k, p) L i
            rw [(e4 j).1, (e4 j).2]
            simp only [setA_n _ _ (show (10 : Nat) ≠ 11 by decide), setA_e]
            by_cases c : j = ((i + 1 : Nat) : Int)
            · subst c
              constructor
              · rw [if_neg (by omega), if_pos (by omega), upI_e, show (((i + 1 : Nat) : Int) - 1) = i by omega]
              · rw [if_neg (by omega), if_pos (by omega), upI_e, show (((i + 1 : Nat) : Int) - 1) = i by omega]
            · by_cases c2 : (posB lt (k, p) L i : Int) < j ∧ j ≤ i
              · constructor
                · rw [if_pos c2, if_pos (by omega), upI_n _ _ (by omega)]
                · rw [if_pos c2, if_pos (by omega), upI_n _ _ (by omega)]
              · constructor
                · rw [if_neg c2, if_neg (by omega), upI_n _ _ c]
                · rw [if_neg c2, if_neg (by omega), upI_n _ _ c]
        · have ep : posB lt (k, p) L (i + 1) = i + 1 := by simp only [posB, hx, eq]; rw [if_neg (by simp [d])]
          rw [ep]
          refine ⟨m.1 10, m.1 11, ?_, fun j => ?_⟩
          · have hh : ¬ (((i + 1 : Nat) : Int) ≤ 0) := by omega
            simp (disch := (first | assumption | (refine sm_of ?_ ?_ <;> omega) | omega)) only [iI_add, iI_sub, iI_mul, iI_neg, iI_lt, iI_le, iI_eq, b1_s, b2_s, ↓reduceIte, mk_v, mk_gl23, mk_pl23, mk_gr1, mk_gr5, mk_gr6, mk_gr8, mk_gr9, mk_gr11, mk_gr13, mk_gr14, mk_gr15, mk_gr17, mk_gr18, mk_gr21, mk_gr24, mk_gr28, mk_gr30, mk_gr31, mk_gi0, mk_gi2, mk_gi3, mk_gi4, mk_gi7, mk_gi10, mk_gi12, mk_gi16, mk_gi19, mk_gi20, mk_gi22, mk_gi25, mk_gi26, mk_gi27, mk_gi29, mk_gi32, mk_pi0, mk_pi2, mk_pi3, mk_pi4, mk_pi7, mk_pi10, mk_pi12, mk_pi16, mk_pi19, mk_pi20, mk_pi22, mk_pi25, mk_pi26, mk_pi27, mk_pi29, mk_pi32, mk_ia1, mk_ia2, mk_ia3, mk_ia4, mk_ia5, mk_ia6, mk_ia7, mk_ia8, mk_ia9, mk_ia10, mk_ia11, mk_ia12, mk_ia13, mk_ia14, mk_ia15, mk_ia16, mk_is1, mk_is2, mk_is3, mk_is4, mk_is5, mk_is6, mk_is7, mk_is8, mk_is9, mk_is10, mk_is11, mk_is12, mk_is13, mk_is14, mk_is15, mk_is16, L0, L1, L2, L3, L4, L5, L6, L7, L8, L9, L10, L12, L20, L22, L24, L26, L27, L28, L32, L40, L60, L73, L95, L97, L222, L240, L441, L442, L622, Lm1, Lmh, L11, L13, L14, L15, L16, L17, L18, L19, L21, L23, L25, L30, L31, L33, L36, L39, L41, L44, L48, L53, L54, L55, L57, L58, L59, L91, L93, L98, L99, L100, L105, L106, L112, L114, L115, L119, L122, L160, L180, L200, L255, L1440, L24880, L63, Lm2, pX10_takesHit_l5b, hh, ei, ei2, e1, e2, cm, show (0 ≤ cmpS wl p (lnN ls k).1 (lnN ls k).2 x.2 (lnN ls x.1).1 (lnN ls x.1).2) by omega, setA_self]
          · rw [if_neg (by omega), if_neg (by omega)]
            exact ⟨rfl, rfl⟩
  obtain ⟨hL, h19, hA⟩ := hH
  obtain ⟨f, g, e1, e2⟩ := loop n L.length m hN hw hA (Nat.le_refl _) (by omega)
  have pb := posB_le lt (k, p) L L.length
  have ge := insB_get lt (k, p) L
  have il := insB_len lt (k, p) L
  generalize hq : posB lt (k, p) L L.length = at_ at *
  refine ⟨setA (setA (setA m 10 (upI f at_ k)) 11 (upI g at_ p)) 0 (upI (m.1 0) 19 ((L.length : Int) + 1)), ?_, ⟨by omega, ?_, fun i hi => ?_⟩, ⟨rfl, fun j j0 j1 j2 => ?_, fun x x1 x2 => ?_⟩, ?_⟩
  · simp only [pX10_takesHit, mk_v, mk_gi19, b1_s, h19, e1]
    simp (disch := (first | assumption | (refine sm_of ?_ ?_ <;> omega) | omega)) only [iI_add, iI_sub, iI_mul, iI_neg, iI_lt, iI_le, iI_eq, b1_s, b2_s, ↓reduceIte, mk_v, mk_gl23, mk_pl23, mk_gr1, mk_gr5, mk_gr6, mk_gr8, mk_gr9, mk_gr11, mk_gr13, mk_gr14, mk_gr15, mk_gr17, mk_gr18, mk_gr21, mk_gr24, mk_gr28, mk_gr30, mk_gr31, mk_gi0, mk_gi2, mk_gi3, mk_gi4, mk_gi7, mk_gi10, mk_gi12, mk_gi16, mk_gi19, mk_gi20, mk_gi22, mk_gi25, mk_gi26, mk_gi27, mk_gi29, mk_gi32, mk_pi0, mk_pi2, mk_pi3, mk_pi4, mk_pi7, mk_pi10, mk_pi12, mk_pi16, mk_pi19, mk_pi20, mk_pi22, mk_pi25, mk_pi26, mk_pi27, mk_pi29, mk_pi32, mk_ia1, mk_ia2, mk_ia3, mk_ia4, mk_ia5, mk_ia6, mk_ia7, mk_ia8, mk_ia9, mk_ia10, mk_ia11, mk_ia12, mk_ia13, mk_ia14, mk_ia15, mk_ia16, mk_is1, mk_is2, mk_is3, mk_is4, mk_is5, mk_is6, mk_is7, mk_is8, mk_is9, mk_is10, mk_is11, mk_is12, mk_is13, mk_is14, mk_is15, mk_is16, L0, L1, L2, L3, L4, L5, L6, L7, L8, L9, L10, L12, L20, L22, L24, L26, L27, L28, L32, L40, L60, L73, L95, L97, L222, L240, L441, L442, L622, Lm1, Lmh, L11, L13, L14, L15, L16, L17, L18, L19, L21, L23, L25, L30, L31, L33, L36, L39, L41, L44, L48, L53, L54, L55, L57, L58, L59, L91, L93, L98, L99, L100, L105, L106, L112, L114, L115, L119, L122, L160, L180, L200, L255, L1440, L24880, L63, Lm2, pX10_takesHit_b68, setA_n, setA_e, ne_eq, Nat.reduceEqDiff, not_false_eq_true]
    rw [setA_u4, h19]
  · rw [setA_e, upI_e, il]; omega
  · rw [il] at hi
    rw [setA_n _ _ (show (10 : Nat) ≠ 0 by decide), setA_n _ _ (show (10 : Nat) ≠ 11 by decide), setA_e, setA_n _ _ (show (11 : Nat) ≠ 0 by decide), setA_e, ge i]
    by_cases c : i = at_
    · subst c; rw [upI_e, upI_e, if_neg (by omega), if_pos rfl]; exact ⟨rfl, rfl⟩
    · rw [upI_n _ _ (by omega), upI_n _ _ (by omega), (e2 i).1, (e2 i).2]
      by_cases d : i < at_
      · have := hA i (by omega)
        constructor
        · rw [if_neg (by omega), if_pos d]; exact this.1
        · rw [if_neg (by omega), if_pos d]; exact this.2
      · have := hA (i - 1) (by omega)
        rw [show ((i : Int) - 1) = ((i - 1 : Nat) : Int) by omega]
        constructor
        · rw [if_pos (by omega), if_neg d, if_neg c]; exact this.1
        · rw [if_pos (by omega), if_neg d, if_neg c]; exact this.2
  · rw [setA_n _ _ j0, setA_n _ _ j2, setA_n _ _ j1]
  · rw [setA_e, upI_n _ _ x1]
  · rw [setA_e, upI_n _ _ (by decide)]; exact hw
theorem m_stands {n : Nat} (hn : 60 ≤ n) {M : mm_M} {am : Nat} {m : mS} {ls : List kL} (hN : NwL (m.1 7) ls) (ho : okL ls) {w : List Int} (hw : okS w) (hwl : w.length ≤ 20) {j : Nat} (hj0 : 0 < j) (hj : j < 17) {o : Int} (ho0 : 0 ≤ o) (ho1 : o + w.length ≤ mz j) (hz : mz j ≤ 100000) (hr : rowA (m.1 j) o w) {k p : Nat} (hk : k < ls.length) (hp : p ≤ (lnN ls k).2.length) : pX10_stands n (mk M am m) am (am + j) (iI o) (iI w.length) (iI k) (iI p) = some (bI (hasAt (lnN ls k).2 w p), mk M am m) := by
  have c10 := ho.1
  obtain ⟨a1, a2, a3, a4⟩ := ho.2 k hk
  have loop : p + w.length ≤ (lnN ls k).2.length → ∀ (q i : Nat), i ≤ w.length → w.length < i + q → pX10_stands_l23 n q (mk M am m) am (am + j) (iI o) (iI w.length) (iI k) (iI p) (iI 1) (iI i) = some (bI ((w.drop i).isPrefixOf ((lnN ls k).2.drop (p + i))), mk M am m) := by
    intro hpl q
    induction q with
    | zero => intro i h1 h2; omega
    | succ q ih =>
      intro i h1 h2
      show pX10_stands_l23b n (pX10_stands_l23 n q) (mk M am m) am _ _ _ _ _ _ _ = _
      by_cases c : (w.length : Int) ≤ i
      · simp (disch := (first | assumption | (refine sm_of ?_ ?_ <;> omega) | omega)) only [iI_add, iI_sub, iI_mul, iI_neg, iI_lt, iI_le, iI_eq, b1_s, b2_s, ↓reduceIte, mk_v, mk_gl23, mk_pl23, mk_gr1, mk_gr5, mk_gr6, mk_gr8, mk_gr9, mk_gr11, mk_gr13, mk_gr14, mk_gr15, mk_gr17, mk_gr18, mk_gr21, mk_gr24, mk_gr28, mk_gr30, mk_gr31, mk_gi0, mk_gi2, mk_gi3, mk_gi4, mk_gi7, mk_gi10, mk_gi12, mk_gi16, mk_gi19, mk_gi20, mk_gi22, mk_gi25, mk_gi26, mk_gi27, mk_gi29, mk_gi32, mk_pi0, mk_pi2, mk_pi3, mk_pi4, mk_pi7, mk_pi10, mk_pi12, mk_pi16, mk_pi19, mk_pi20, mk_pi22, mk_pi25, mk_pi26, mk_pi27, mk_pi29, mk_pi32, mk_ia1, mk_ia2, mk_ia3, mk_ia4, mk_ia5, mk_ia6, mk_ia7, mk_ia8, mk_ia9, mk_ia10, mk_ia11, mk_ia12, mk_ia13, mk_ia14, mk_ia15, mk_ia16, mk_is1, mk_is2, mk_is3, mk_is4, mk_is5, mk_is6, mk_is7, mk_is8, mk_is9, mk_is10, mk_is11, mk_is12, mk_is13, mk_is14, mk_is15, mk_is16, L0, L1, L2, L3, L4, L5, L6, L7, L8, L9, L10, L12, L20, L22, L24, L26, L27, L28, L32, L40, L60, L73, L95, L97, L222, L240, L441, L442, L622, Lm1, Lmh, L11, L13, L14, L15, L16, L17, L18, L19, L21, L23, L25, L30, L31, L33, L36, L39, L41, L44, L48, L53, L54, L55, L57, L58, L59, L91, L93, L98, L99, L100, L105, L106, L112, L114, L115, L119, L122, L160, L180, L200, L255, L1440, L24880, L63, Lm2, pX10_stands_l23b, c]
        rw [List.drop_eq_nil_of_le (by omega)]
        exact rz_b true
      · have s1 := m_sign (n := n) (M := M) (am := am) hN ho (k := k) (p := p + i) hk (by omega)
        rw [show ((p + i : Nat) : Int) = (p : Int) + i by omega] at s1
        have s2 := mk_ia M am m hj0 hj (i := o + i) (by omega) (by omega) (sm_of (by omega) (by omega))
        rw [hr i (by omega)] at s2
        have o1 := a3.get (i := p + i) (by omega)
        have o2 := hw.get (i := i) (by omega)
        have d1 := dec_bd o1
        have d2 := dec_bd o2
        have de := dec_eq o1 o2
        simp (disch := (first | assumption | (refine sm_of ?_ ?_ <;> omega) | omega)) only [iI_add, iI_sub, iI_mul, iI_neg, iI_lt, iI_le, iI_eq, b1_s, b2_s, ↓reduceIte, mk_v, mk_gl23, mk_pl23, mk_gr1, mk_gr5, mk_gr6, mk_gr8, mk_gr9, mk_gr11, mk_gr13, mk_gr14, mk_gr15, mk_gr17, mk_gr18, mk_gr21, mk_gr24, mk_gr28, mk_gr30, mk_gr31, mk_gi0, mk_gi2, mk_gi3, mk_gi4, mk_gi7, mk_gi10, mk_gi12, mk_gi16, mk_gi19, mk_gi20, mk_gi22, mk_gi25, mk_gi26, mk_gi27, mk_gi29, mk_gi32, mk_pi0, mk_pi2, mk_pi3, mk_pi4, mk_pi7, mk_pi10, mk_pi12, mk_pi16, mk_pi19, mk_pi20, mk_pi22, mk_pi25, mk_pi26, mk_pi27, mk_pi29, mk_pi32, mk_ia1, mk_ia2, mk_ia3, mk_ia4, mk_ia5, mk_ia6, mk_ia7, mk_ia8, mk_ia9, mk_ia10, mk_ia11, mk_ia12, mk_ia13, mk_ia14, mk_ia15, mk_ia16, mk_is1, mk_is2, mk_is3, mk_is4, mk_is5, mk_is6, mk_is7, mk_is8, mk_is9, mk_is10, mk_is11, mk_is12, mk_is13, mk_is14, mk_is15, mk_is16, L0, L1, L2, L3, L4, L5, L6, L7, L8, L9, L10, L12, L20, L22, L24, L26, L27, L28, L32, L40, L60, L73, L95, L97, L222, L240, L441, L442, L622, Lm1, Lmh, L11, L13, L14, L15, L16, L17, L18, L19, L21, L23, L25, L30, L31, L33, L36, L39, L41, L44, L48, L53, L54, L55, L57, L58, L59, L91, L93, L98, L99, L100, L105, L106, L112, L114, L115, L119, L122, L160, L180, L200, L255, L1440, L24880, L63, Lm2, pX10_stands_l23b, c, s1, s2]
        rw [List.drop_eq_getElem_cons (show i < w.length by omega), List.drop_eq_getElem_cons (show p + i < (lnN ls k).2.length by omega)]
        rw [getD_of (show i < w.length by omega), getD_of (show p + i < (lnN ls k).2.length by omega)] at de ⊢
        rw [show ((i : Int) + 1) = ((i + 1 : Nat) : Int) by omega, if_neg (by decide)]
        by_cases d : (lnN ls k).2[p + i]'(by omega) = w[i]'(by omega)
        · rw [if_pos (de.mpr d), ih (i + 1) (by omega) (by omega)]
          simp [List.isPrefixOf, d, Nat.add_assoc]
        · rw [if_neg (fun z => d (de.mp z))]
          obtain ⟨q', rfl⟩ : ∃ q', q = q' + 1 := ⟨q - 1, by omega⟩
          show pX10_stands_l23b n (pX10_stands_l23 n q') (mk M am m) am _ _ _ _ _ _ _ = _
          have e0 : mm_rz (iI 0) (mk M am m) = some (bI false, mk M am m) := rz_b false
          have : (if (w.length : Int) ≤ ((i + 1 : Nat) : Int) then (mm_rz (iI 0) (mk M am m)) else (mm_rz (iI 0) (mk M am m))) = some (bI false, mk M am m) := by split <;> exact e0
          simp (disch := (first | assumption | (refine sm_of ?_ ?_ <;> omega) | omega)) only [iI_add, iI_sub, iI_mul, iI_neg, iI_lt, iI_le, iI_eq, b1_s, b2_s, ↓reduceIte, mk_v, mk_gl23, mk_pl23, mk_gr1, mk_gr5, mk_gr6, mk_gr8, mk_gr9, mk_gr11, mk_gr13, mk_gr14, mk_gr15, mk_gr17, mk_gr18, mk_gr21, mk_gr24, mk_gr28, mk_gr30, mk_gr31, mk_gi0, mk_gi2, mk_gi3, mk_gi4, mk_gi7, mk_gi10, mk_gi12, mk_gi16, mk_gi19, mk_gi20, mk_gi22, mk_gi25, mk_gi26, mk_gi27, mk_gi29, mk_gi32, mk_pi0, mk_pi2, mk_pi3, mk_pi4, mk_pi7, mk_pi10, mk_pi12, mk_pi16, mk_pi19, mk_pi20, mk_pi22, mk_pi25, mk_pi26, mk_pi27, mk_pi29, mk_pi32, mk_ia1, mk_ia2, mk_ia3, mk_ia4, mk_ia5, mk_ia6, mk_ia7, mk_ia8, mk_ia9, mk_ia10, mk_ia11, mk_ia12, mk_ia13, mk_ia14, mk_ia15, mk_ia16, mk_is1, mk_is2, mk_is3, mk_is4, mk_is5, mk_is6, mk_is7, mk_is8, mk_is9, mk_is10, mk_is11, mk_is12, mk_is13, mk_is14, mk_is15, mk_is16, L0, L1, L2, L3, L4, L5, L6, L7, L8, L9, L10, L12, L20, L22, L24, L26, L27, L28, L32, L40, L60, L73, L95, L97, L222, L240, L441, L442, L622, Lm1, Lmh, L11, L13, L14, L15, L16, L17, L18, L19, L21, L23, L25, L30, L31, L33, L36, L39, L41, L44, L48, L53, L54, L55, L57, L58, L59, L91, L93, L98, L99, L100, L105, L106, L112, L114, L115, L119, L122, L160, L180, L200, L255, L1440, L24880, L63, Lm2, pX10_stands_l23b]
          rw [this]
          simp only [List.isPrefixOf]
          rw [beq_eq_false_iff_ne.mpr (Ne.symm d)]; rfl
  simp (disch := (first | assumption | (refine sm_of ?_ ?_ <;> omega) | omega)) only [iI_add, iI_sub, iI_mul, iI_neg, iI_lt, iI_le, iI_eq, b1_s, b2_s, ↓reduceIte, mk_v, mk_gl23, mk_pl23, mk_gr1, mk_gr5, mk_gr6, mk_gr8, mk_gr9, mk_gr11, mk_gr13, mk_gr14, mk_gr15, mk_gr17, mk_gr18, mk_gr21, mk_gr24, mk_gr28, mk_gr30, mk_gr31, mk_gi0, mk_gi2, mk_gi3, mk_gi4, mk_gi7, mk_gi10, mk_gi12, mk_gi16, mk_gi19, mk_gi20, mk_gi22, mk_gi25, mk_gi26, mk_gi27, mk_gi29, mk_gi32, mk_pi0, mk_pi2, mk_pi3, mk_pi4, mk_pi7, mk_pi10, mk_pi12, mk_pi16, mk_pi19, mk_pi20, mk_pi22, mk_pi25, mk_pi26, mk_pi27, mk_pi29, mk_pi32, mk_ia1, mk_ia2, mk_ia3, mk_ia4, mk_ia5, mk_ia6, mk_ia7, mk_ia8, mk_ia9, mk_ia10, mk_ia11, mk_ia12, mk_ia13, mk_ia14, mk_ia15, mk_ia16, mk_is1, mk_is2, mk_is3, mk_is4, mk_is5, mk_is6, mk_is7, mk_is8, mk_is9, mk_is10, mk_is11, mk_is12, mk_is13, mk_is14, mk_is15, mk_is16, L0, L1, L2, L3, L4, L5, L6, L7, L8, L9, L10, L12, L20, L22, L24, L26, L27, L28, L32, L40, L60, L73, L95, L97, L222, L240, L441, L442, L622, Lm1, Lmh, L11, L13, L14, L15, L16, L17, L18, L19, L21, L23, L25, L30, L31, L33, L36, L39, L41, L44, L48, L53, L54, L55, L57, L58, L59, L91, L93, L98, L99, L100, L105, L106, L112, L114, L115, L119, L122, L160, L180, L200, L255, L1440, L24880, L63, Lm2, pX10_stands, m_long hN ho hk]
  by_cases c : ((lnN ls k).2.length : Int) < p + w.length
  · rw [if_pos c]
    have e : hasAt (lnN ls k).2 w p = false := by
      rw [Bool.eq_false_iff]
      intro hh
      have := (List.isPrefixOf_iff_prefix.mp hh).length_le
      simp at this
      omega
    rw [e]
    obtain ⟨q', rfl⟩ : ∃ q', n = q' + 1 := ⟨n - 1, by omega⟩
    show pX10_stands_l23b _ (pX10_stands_l23 _ q') (mk M am m) am _ _ _ _ _ _ _ = _
    have e0 : mm_rz (iI 0) (mk M am m) = some (bI false, mk M am m) := rz_b false
    have : (if (w.length : Int) ≤ 0 then (mm_rz (iI 0) (mk M am m)) else (mm_rz (iI 0) (mk M am m))) = some (bI false, mk M am m) := by split <;> exact e0
    simp (disch := (first | assumption | (refine sm_of ?_ ?_ <;> omega) | omega)) only [iI_add, iI_sub, iI_mul, iI_neg, iI_lt, iI_le, iI_eq, b1_s, b2_s, ↓reduceIte, mk_v, mk_gl23, mk_pl23, mk_gr1, mk_gr5, mk_gr6, mk_gr8, mk_gr9, mk_gr11, mk_gr13, mk_gr14, mk_gr15, mk_gr17, mk_gr18, mk_gr21, mk_gr24, mk_gr28, mk_gr30, mk_gr31, mk_gi0, mk_gi2, mk_gi3, mk_gi4, mk_gi7, mk_gi10, mk_gi12, mk_gi16, mk_gi19, mk_gi20, mk_gi22, mk_gi25, mk_gi26, mk_gi27, mk_gi29, mk_gi32, mk_pi0, mk_pi2, mk_pi3, mk_pi4, mk_pi7, mk_pi10, mk_pi12, mk_pi16, mk_pi19, mk_pi20, mk_pi22, mk_pi25, mk_pi26, mk_pi27, mk_pi29, mk_pi32, mk_ia1, mk_ia2, mk_ia3, mk_ia4, mk_ia5, mk_ia6, mk_ia7, mk_ia8, mk_ia9, mk_ia10, mk_ia11, mk_ia12, mk_ia13, mk_ia14, mk_ia15, mk_ia16, mk_is1, mk_is2, mk_is3, mk_is4, mk_is5, mk_is6, mk_is7, mk_is8, mk_is9, mk_is10, mk_is11, mk_is12, mk_is13, mk_is14, mk_is15, mk_is16, L0, L1, L2, L3, L4, L5, L6, L7, L8, L9, L10, L12, L20, L22, L24, L26, L27, L28, L32, L40, L60, L73, L95, L97, L222, L240, L441, L442, L622, Lm1, Lmh, L11, L13, L14, L15, L16, L17, L18, L19, L21, L23, L25, L30, L31, L33, L36, L39, L41, L44, L48, L53, L54, L55, L57, L58, L59, L91, L93, L98, L99, L100, L105, L106, L112, L114, L115, L119, L122, L160, L180, L200, L255, L1440, L24880, L63, Lm2, pX10_stands_l23b]
    rw [this]
  · rw [if_neg c]
    exact loop (by omega) n 0 (by omega) (by omega)
