def sx7 (m m' : mS) : Prop := m'.2 = m.2 ∧ (∀ j, j ≠ 0 → j ≠ 7 → j ≠ 10 → j ≠ 11 → m'.1 j = m.1 j) ∧ ∀ x, x ≠ 19 → x ≠ 20 → m'.1 0 x = m.1 0 x
theorem sx.w7 {m m' : mS} (h : sx m m') : sx7 m m' := ⟨h.1, fun j a b c d => h.2.1 j a c d, h.2.2⟩
theorem sx7.trans {m m1 m2 : mS} (h : sx7 m m1) (g : sx7 m1 m2) : sx7 m m2 := ⟨g.1.trans h.1, fun j a b c d => (g.2.1 j a b c d).trans (h.2.1 j a b c d), fun x a b => (g.2.2 x a b).trans (h.2.2 x a b)⟩
theorem sx7_set (m : mS) (f : Int → Int) : sx7 m (setA m 7 f) := ⟨rfl, fun j _ b _ _ => setA_n _ _ b, fun x _ _ => by rw [setA_n _ _ (by decide)]⟩
theorem m_pages {n : Nat} (hn : 300 ≤ n) {M : mm_M} {am : Nat} {m : mS} {ls : List kL} (hN : NwL (m.1 7) ls) (ho : okL ls) (hd : numD ls) {c : Nat} (hc : c < 3) {u : kU} (hU : NwU (m.1 7) (222 + 73 * c) u) (hk : okU u) (hsz : u.2.1 ≠ 0) : ∃ m', pX10_pagesNow n (mk M am m) am (iI c) = some (iI (scL ls u ls.length).length, mk M am m') ∧ NwU (m'.1 7) (222 + 73 * c) (pageK ls u) ∧ (∀ q : Int, (q < 222 + 73 * c ∨ 222 + 73 * c + 73 ≤ q) → m'.1 7 q = m.1 7 q) ∧ sx7 m m' := by
  obtain ⟨w1, w2, w3⟩ := hk.2.2.1 hsz
  obtain ⟨u1, u2, u3, u4, u5, u6, u7, u8⟩ := hU.2 hsz
  have k1 := hk.1
  have k2 := hk.2.1
  have k6 := hk.2.2.2.2.2
  unfold nb at k6
  obtain ⟨m1, fi, e1, h1, ok1, x1, f20, z1, z2⟩ := m_first hn (M := M) (am := am) hN ho hd hc hU hk hsz
  have sc := sc_ah hd u
  rw [z2] at sc
  have e7 : m1.1 7 = m.1 7 := x1.2.1 7 (by decide) (by decide) (by decide)
  unfold pageK
  obtain ⟨hl, h19, hA⟩ := h1
  generalize hL : fbL ls u.1 ls.length = L at *
  generalize hhs : scL ls u ls.length = hs at *
  have ln : (hs.length : Int) = min u.2.1 ((L.length : Int) - fi) := by rw [sc, List.length_take, List.length_drop]; omega
  have hsg : ∀ i, i < hs.length → hs.getD i (0, 0) = L.getD (fi + i) (0, 0) ∧ fi + i < L.length := by
    intro i hi
    rw [sc, List.length_take, List.length_drop] at hi
    refine ⟨?_, by omega⟩
    rw [sc, List.getD_eq_getElem?_getD, List.getElem?_take, if_pos (by omega), List.getElem?_drop, List.getD_eq_getElem?_getD]
  have c10 := ho.1
  have hs9 : hs.length ≤ 9 := by omega
  have hasw : ∀ i, i < hs.length → (hs.getD i (0, 0)).2 + u.1.length ≤ (lnN ls (hs.getD i (0, 0)).1).2.length := by
    intro i hi
    obtain ⟨q1, q2⟩ := hsg i hi
    have : L.getD (fi + i) (0, 0) ∈ L := by rw [List.getD_eq_getElem?_getD, List.getElem?_eq_getElem q2]; exact List.getElem_mem q2
    rw [← hL] at this
    have := (fb_mem hd).mp this
    rw [hL, ← q1] at this
    have p := (List.isPrefixOf_iff_prefix.mp this.2.2).length_le
    rw [List.length_drop] at p
    have p2 := this.2.1
    omega
  have loop : ∀ (q i : Nat) (f : Int → Int), i ≤ hs.length → hs.length < i + q → NwL f ls → (∀ z : Nat, z < i → f (222 + 73 * c + 55 + 2 * z) = (lnN ls (hs.getD z (0, 0)).1).1 ∧ f (222 + 73 * c + 55 + 2 * z + 1) = (hs.getD z (0, 0)).2) → ∃ g, pX10_pagesNow_l59 n q (mk M am (setA m1 7 f)) am (iI c) (iI (222 + 73 * c)) (iI fi) (iI hs.length) (iI i) = pX10_pagesNow_b124 n (mk M am (setA m1 7 g)) am (iI c) (iI fi) (iI hs.length) ∧ NwL g ls ∧ (∀ z : Nat, z < hs.length → g (222 + 73 * c + 55 + 2 * z) = (lnN ls (hs.getD z (0, 0)).1).1 ∧ g (222 + 73 * c + 55 + 2 * z + 1) = (hs.getD z (0, 0)).2) ∧ ∀ z : Int, ¬ (222 + 73 * (c : Int) + 55 ≤ z ∧ z < 222 + 73 * c + 73) → g z = f z := by
    intro q
    induction q with
    | zero => intro i f h1 h2; omega
    | succ q ih =>
      intro i f h1 h2 hf h3
      show ∃ g, pX10_pagesNow_l59b n (pX10_pagesNow_l59 n q) (mk M am (setA m1 7 f)) am _ _ _ _ _ = _ ∧ _
      by_cases d : (hs.length : Int) ≤ i
      · refine ⟨f, ?_, hf, fun z hz => h3 z (by omega), fun _ _ => rfl⟩
        simp (disch := (first | assumption | (refine sm_of ?_ ?_ <;> omega) | omega)) only [iI_add, iI_sub, iI_mul, iI_neg, iI_lt, iI_le, iI_eq, b1_s, b2_s, ↓reduceIte, mk_v, mk_gl23, mk_pl23, mk_gr1, mk_gr5, mk_gr6, mk_gr8, mk_gr9, mk_gr11, mk_gr13, mk_gr14, mk_gr15, mk_gr17, mk_gr18, mk_gr21, mk_gr24, mk_gr28, mk_gr30, mk_gr31, mk_gi0, mk_gi2, mk_gi3, mk_gi4, mk_gi7, mk_gi10, mk_gi12, mk_gi16, mk_gi19, mk_gi20, mk_gi22, mk_gi25, mk_gi26, mk_gi27, mk_gi29, mk_gi32, mk_pi0, mk_pi2, mk_pi3, mk_pi4, mk_pi7, mk_pi10, mk_pi12, mk_pi16, mk_pi19, mk_pi20, mk_pi22, mk_pi25, mk_pi26, mk_pi27, mk_pi29, mk_pi32, mk_ia1, mk_ia2, mk_ia3, mk_ia4, mk_ia5, mk_ia6, mk_ia7, mk_ia8, mk_ia9, mk_ia10, mk_ia11, mk_ia12, mk_ia13, mk_ia14, mk_ia15, mk_ia16, mk_is1, mk_is2, mk_is3, mk_is4, mk_is5, mk_is6, mk_is7, mk_is8, mk_is9, mk_is10, mk_is11, mk_is12, mk_is13, mk_is14, mk_is15, mk_is16, L0, L1, L2, L3, L4, L5, L6, L7, L8, L9, L10, L12, L20, L22, L24, L26, L27, L28, L32, L40, L60, L73, L95, L97, L222, L240, L441, L442, L622, Lm1, Lmh, L11, L13, L14, L15, L16, L17, L18, L19, L21, L23, L25, L30, L31, L33, L36, L39, L41, L44, L48, L53, L54, L55, L57, L58, L59, L91, L93, L98, L99, L100, L105, L106, L112, L114, L115, L119, L122, L160, L180, L200, L255, L1440, L24880, L63, Lm2, pX10_pagesNow_l59b, d]
      · obtain ⟨g1, g2⟩ := hsg i (by omega)
        obtain ⟨y1, y2⟩ := hA (fi + i) g2
        have ok := ok1.get (j := fi + i) g2
        rw [← g1] at y1 y2 ok
        generalize hx : hs.getD i (0, 0) = x at *
        have lx := ho.2 x.1 ok.1
        have lx4 := lx.2.2.2
        unfold nb at lx4
        have nm := m_num (n := n) (M := M) (am := am) (m := setA m1 7 f) (by rw [setA_e]; exact hf) ho ok.1
        rw [show ((fi + i : Nat) : Int) = (fi : Int) + i by omega] at y1 y2
        have hf1 : NwL (upI f (222 + 73 * c + 55 + 2 * i) (lnN ls x.1).1) ls := NwL_cg hf ho (fun q hq => upI_n _ _ (by omega))
        have y1' : (setA m1 7 f).1 10 ((fi : Int) + i) = x.1 := by rw [setA_n _ _ (by decide)]; exact y1
        have y2' : (setA m1 7 (upI f (222 + 73 * c + 55 + 2 * i) (lnN ls x.1).1)).1 11 ((fi : Int) + i) = x.2 := by rw [setA_n _ _ (by decide)]; exact y2
        obtain ⟨g, e3, r1, r2, r3⟩ := ih (i + 1) (upI (upI f (222 + 73 * c + 55 + 2 * i) (lnN ls x.1).1) (222 + 73 * c + 55 + 2 * i + 1) x.2) (by omega) (by omega) (NwL_cg hf1 ho (fun q hq => upI_n _ _ (by omega))) (fun z z1 => by
          by_cases e : z = i
          · rw [e, hx, upI_e, upI_n _ _ (by omega), upI_e]; exact ⟨rfl, rfl⟩
          · rw [upI_n _ _ (by omega), upI_n _ _ (by omega), upI_n _ _ (by omega), upI_n _ _ (by omega)]; exact h3 z (by omega))
        refine ⟨g, ?_, r1, r2, fun z hz => by rw [r3 z hz, upI_n _ _ (by omega), upI_n _ _ (by omega)]⟩
        simp (disch := (first | assumption | (refine sm_of ?_ ?_ <;> omega) | omega)) only [iI_add, iI_sub, iI_mul, iI_neg, iI_lt, iI_le, iI_eq, b1_s, b2_s, ↓reduceIte, mk_v, mk_gl23, mk_pl23, mk_gr1, mk_gr5, mk_gr6, mk_gr8, mk_gr9, mk_gr11, mk_gr13, mk_gr14, mk_gr15, mk_gr17, mk_gr18, mk_gr21, mk_gr24, mk_gr28, mk_gr30, mk_gr31, mk_gi0, mk_gi2, mk_gi3, mk_gi4, mk_gi7, mk_gi10, mk_gi12, mk_gi16, mk_gi19, mk_gi20, mk_gi22, mk_gi25, mk_gi26, mk_gi27, mk_gi29, mk_gi32, mk_pi0, mk_pi2, mk_pi3, mk_pi4, mk_pi7, mk_pi10, mk_pi12, mk_pi16, mk_pi19, mk_pi20, mk_pi22, mk_pi25, mk_pi26, mk_pi27, mk_pi29, mk_pi32, mk_ia1, mk_ia2, mk_ia3, mk_ia4, mk_ia5, mk_ia6, mk_ia7, mk_ia8, mk_ia9, mk_ia10, mk_ia11, mk_ia12, mk_ia13, mk_ia14, mk_ia15, mk_ia16, mk_is1, mk_is2, mk_is3, mk_is4, mk_is5, mk_is6, mk_is7, mk_is8, mk_is9, mk_is10, mk_is11, mk_is12, mk_is13, mk_is14, mk_is15, mk_is16, L0, L1, L2, L3, L4, L5, L6, L7, L8, L9, L10, L12, L20, L22, L24, L26, L27, L28, L32, L40, L60, L73, L95, L97, L222, L240, L441, L442, L622, Lm1, Lmh, L11, L13, L14, L15, L16, L17, L18, L19, L21, L23, L25, L30, L31, L33, L36, L39, L41, L44, L48, L53, L54, L55, L57, L58, L59, L91, L93, L98, L99, L100, L105, L106, L112, L114, L115, L119, L122, L160, L180, L200, L255, L1440, L24880, L63, Lm2, pX10_pagesNow_l59b, d, y1', nm, setA_e, setA_setA, y2']
        rw [show ((i : Int) + 1) = ((i + 1 : Nat) : Int) by omega]
        exact e3
  rw [← e7] at u3 u6
  have hf : NwL (upI (upI (m1.1 7) (222 + 73 * c + 53) hs.length) (222 + 73 * c + 54) (u.2.2.2.2.2.2.2 + hs.length)) ls := NwL_cg (nw := m1.1 7) (by rw [e7]; exact hN) ho (fun q hq => by rw [upI_n _ _ (by omega), upI_n _ _ (by omega)])
  obtain ⟨g, e3, r1, r2, r3⟩ := loop n 0 _ (by omega) (by omega) hf (fun z h => by omega)
  have head : pX10_pagesNow n (mk M am m) am (iI c) = pX10_pagesNow_b124 n (mk M am (setA m1 7 g)) am (iI c) (iI fi) (iI hs.length) := by
    simp (disch := (first | assumption | (refine sm_of ?_ ?_ <;> omega) | omega)) only [iI_add, iI_sub, iI_mul, iI_neg, iI_lt, iI_le, iI_eq, b1_s, b2_s, ↓reduceIte, mk_v, mk_gl23, mk_pl23, mk_gr1, mk_gr5, mk_gr6, mk_gr8, mk_gr9, mk_gr11, mk_gr13, mk_gr14, mk_gr15, mk_gr17, mk_gr18, mk_gr21, mk_gr24, mk_gr28, mk_gr30, mk_gr31, mk_gi0, mk_gi2, mk_gi3, mk_gi4, mk_gi7, mk_gi10, mk_gi12, mk_gi16, mk_gi19, mk_gi20, mk_gi22, mk_gi25, mk_gi26, mk_gi27, mk_gi29, mk_gi32, mk_pi0, mk_pi2, mk_pi3, mk_pi4, mk_pi7, mk_pi10, mk_pi12, mk_pi16, mk_pi19, mk_pi20, mk_pi22, mk_pi25, mk_pi26, mk_pi27, mk_pi29, mk_pi32, mk_ia1, mk_ia2, mk_ia3, mk_ia4, mk_ia5, mk_ia6, mk_ia7, mk_ia8, mk_ia9, mk_ia10, mk_ia11, mk_ia12, mk_ia13, mk_ia14, mk_ia15, mk_ia16, mk_is1, mk_is2, mk_is3, mk_is4, mk_is5, mk_is6, mk_is7, mk_is8, mk_is9, mk_is10, mk_is11, mk_is12, mk_is13, mk_is14, mk_is15, mk_is16, L0, L1, L2, L3, L4, L5, L6, L7, L8, L9, L10, L12, L20, L22, L24, L26, L27, L28, L32, L40, L60, L73, L95, L97, L222, L240, L441, L442, L622, Lm1, Lmh, L11, L13, L14, L15, L16, L17, L18, L19, L21, L23, L25, L30, L31, L33, L36, L39, L41, L44, L48, L53, L54, L55, L57, L58, L59, L91, L93, L98, L99, L100, L105, L106, L112, L114, L115, L119, L122, L160, L180, L200, L255, L1440, L24880, L63, Lm2, pX10_pagesNow, pX10_cursorAt, e1, u3, h19, min_i, ← ln, setA_e, setA_setA]
    rw [upI_n _ _ (by omega), u6]
    exact e3
  rw [head]
  by_cases c0 : hs = []
  · subst c0
    refine ⟨setA m1 7 g, ?_, ?_, fun q hq => ?_, x1.w7.trans (sx7_set _ _)⟩
    · simp (disch := (first | assumption | (refine sm_of ?_ ?_ <;> omega) | omega)) only [iI_add, iI_sub, iI_mul, iI_neg, iI_lt, iI_le, iI_eq, b1_s, b2_s, ↓reduceIte, mk_v, mk_gl23, mk_pl23, mk_gr1, mk_gr5, mk_gr6, mk_gr8, mk_gr9, mk_gr11, mk_gr13, mk_gr14, mk_gr15, mk_gr17, mk_gr18, mk_gr21, mk_gr24, mk_gr28, mk_gr30, mk_gr31, mk_gi0, mk_gi2, mk_gi3, mk_gi4, mk_gi7, mk_gi10, mk_gi12, mk_gi16, mk_gi19, mk_gi20, mk_gi22, mk_gi25, mk_gi26, mk_gi27, mk_gi29, mk_gi32, mk_pi0, mk_pi2, mk_pi3, mk_pi4, mk_pi7, mk_pi10, mk_pi12, mk_pi16, mk_pi19, mk_pi20, mk_pi22, mk_pi25, mk_pi26, mk_pi27, mk_pi29, mk_pi32, mk_ia1, mk_ia2, mk_ia3, mk_ia4, mk_ia5, mk_ia6, mk_ia7, mk_ia8, mk_ia9, mk_ia10, mk_ia11, mk_ia12, mk_ia13, mk_ia14, mk_ia15, mk_ia16, mk_is1, mk_is2, mk_is3, mk_is4, mk_is5, mk_is6, mk_is7, mk_is8, mk_is9, mk_is10, mk_is11, mk_is12, mk_is13, mk_is14, mk_is15, mk_is16, L0, L1, L2, L3, L4, L5, L6, L7, L8, L9, L10, L12, L20, L22, L24, L26, L27, L28, L32, L40, L60, L73, L95, L97, L222, L240, L441, L442, L622, Lm1, Lmh, L11, L13, L14, L15, L16, L17, L18, L19, L21, L23, L25, L30, L31, L33, L36, L39, L41, L44, L48, L53, L54, L55, L57, L58, L59, L91, L93, L98, L99, L100, L105, L106, L112, L114, L115, L119, L122, L160, L180, L200, L255, L1440, L24880, L63, Lm2, pX10_pagesNow_b124, List.length_nil, show ((0 : Nat) : Int) ≤ 0 by omega]
    · rw [setA_e]
      have gg : ∀ q : Int, q < 222 + 73 * c + 53 → g q = m.1 7 q := fun q hq => by rw [r3 q (by omega), upI_n _ _ (by omega), upI_n _ _ (by omega), e7]
      refine ⟨fun h => absurd h hsz, fun _ => ⟨?_, rowA_cg u2 (fun z hz => gg _ (by have : z < u.1.length := hz; omega)), ?_, ?_, ?_, ?_, fun i hi => ?_, fun h => ?_⟩⟩
      · rw [gg _ (by omega)]; exact u1
      · rw [gg _ (by omega), ← e7]; exact u3
      · rw [gg _ (by omega)]; exact u4
      · rw [r3 _ (by omega), upI_n _ _ (by omega), upI_e]; rfl
      · rw [r3 _ (by omega), upI_e]; simp [page0]
      · simp [page0] at hi
      · obtain ⟨v1, v2, v3, v4, v5, v6⟩ := u8 h
        have b := hk.2.2.2.1 h
        refine ⟨by rw [gg _ (by omega)]; exact v1, by rw [gg _ (by omega)]; exact v2, by rw [gg _ (by omega)]; exact v3, rowA_cg v4 (fun z hz => gg _ ?_), by rw [gg _ (by omega)]; exact v5, rowA_cg v6 (fun z hz => gg _ ?_)⟩
        · have hz' : z < (u.2.2.2.2.1.drop (u.2.2.2.2.2.1 + u.1.length)).length := hz
          rw [List.length_drop] at hz'
          have := b.2.2.1
          omega
        · have hz' : z < (u.2.2.2.2.1.take u.2.2.2.2.2.1).reverse.length := hz
          rw [List.length_reverse, List.length_take] at hz'
          have := b.2.2.1
          omega
    · rw [setA_e, r3 q (by omega), upI_n _ _ (by omega), upI_n _ _ (by omega), e7]
  · have hp : 0 < hs.length := List.length_pos_iff.mpr c0
    rw [tell_all ls hs (page0 u) c0]
    obtain ⟨g1, g2⟩ := hsg (hs.length - 1) (by omega)
    obtain ⟨y1, y2⟩ := hA (fi + (hs.length - 1)) g2
    have ok := ok1.get (j := fi + (hs.length - 1)) g2
    have hw' := hasw (hs.length - 1) (by omega)
    rw [← g1] at y1 y2 ok
    generalize hx : hs.getD (hs.length - 1) (0, 0) = x at *
    have lx := ho.2 x.1 ok.1
    rw [show ((fi + (hs.length - 1) : Nat) : Int) = (fi : Int) + hs.length - 1 by omega] at y1 y2
    obtain ⟨v, e4, v1, v2, v3, v4, v5, v6, v7, v8⟩ := m_marks (show 60 ≤ n by omega) (M := M) (am := am) (m := setA m1 7 g) (by rw [setA_e]; exact r1) ho hc (wl := u.1.length) (by rw [setA_n _ _ (by decide)]; exact f20) ok.1 hw'
    rw [setA_setA] at e4
    rw [setA_e] at v8
    have y1' : (setA m1 7 g).1 10 ((fi : Int) + hs.length - 1) = x.1 := by rw [setA_n _ _ (by decide)]; exact y1
    have y2' : (setA m1 7 g).1 11 ((fi : Int) + hs.length - 1) = x.2 := by rw [setA_n _ _ (by decide)]; exact y2
    refine ⟨setA m1 7 v, ?_, ?_, fun q hq => ?_, x1.w7.trans (sx7_set _ _)⟩
    · simp (disch := (first | assumption | (refine sm_of ?_ ?_ <;> omega) | omega)) only [iI_add, iI_sub, iI_mul, iI_neg, iI_lt, iI_le, iI_eq, b1_s, b2_s, ↓reduceIte, mk_v, mk_gl23, mk_pl23, mk_gr1, mk_gr5, mk_gr6, mk_gr8, mk_gr9, mk_gr11, mk_gr13, mk_gr14, mk_gr15, mk_gr17, mk_gr18, mk_gr21, mk_gr24, mk_gr28, mk_gr30, mk_gr31, mk_gi0, mk_gi2, mk_gi3, mk_gi4, mk_gi7, mk_gi10, mk_gi12, mk_gi16, mk_gi19, mk_gi20, mk_gi22, mk_gi25, mk_gi26, mk_gi27, mk_gi29, mk_gi32, mk_pi0, mk_pi2, mk_pi3, mk_pi4, mk_pi7, mk_pi10, mk_pi12, mk_pi16, mk_pi19, mk_pi20, mk_pi22, mk_pi25, mk_pi26, mk_pi27, mk_pi29, mk_pi32, mk_ia1, mk_ia2, mk_ia3, mk_ia4, mk_ia5, mk_ia6, mk_ia7, mk_ia8, mk_ia9, mk_ia10, mk_ia11, mk_ia12, mk_ia13, mk_ia14, mk_ia15, mk_ia16, mk_is1, mk_is2, mk_is3, mk_is4, mk_is5, mk_is6, mk_is7, mk_is8, mk_is9, mk_is10, mk_is11, mk_is12, mk_is13, mk_is14, mk_is15, mk_is16, L0, L1, L2, L3, L4, L5, L6, L7, L8, L9, L10, L12, L20, L22, L24, L26, L27, L28, L32, L40, L60, L73, L95, L97, L222, L240, L441, L442, L622, Lm1, Lmh, L11, L13, L14, L15, L16, L17, L18, L19, L21, L23, L25, L30, L31, L33, L36, L39, L41, L44, L48, L53, L54, L55, L57, L58, L59, L91, L93, L98, L99, L100, L105, L106, L112, L114, L115, L119, L122, L160, L180, L200, L255, L1440, L24880, L63, Lm2, pX10_pagesNow_b124, show ¬ ((hs.length : Int) ≤ 0) by omega, y1', y2', e4]
    · rw [setA_e]
      have gg : ∀ q : Int, q < 222 + 73 * c + 8 → v q = m.1 7 q := fun q hq => by rw [v8 q (by omega), r3 q (by omega), upI_n _ _ (by omega), upI_n _ _ (by omega), e7]
      refine ⟨fun h => absurd h hsz, fun _ => ⟨?_, rowA_cg u2 (fun z hz => gg _ ?_), ?_, ?_, ?_, ?_, fun i hi => ?_, fun h => ⟨v2, v3, v4, v5, v6, v7⟩⟩⟩
      · rw [gg _ (by omega)]; exact u1
      · have : z < u.1.length := hz
        omega
      · rw [gg _ (by omega), ← e7]; exact u3
      · rw [v1]; simp
      · rw [v8 _ (by omega), r3 _ (by omega), upI_n _ _ (by omega), upI_e]; simp [page0]
      · rw [v8 _ (by omega), r3 _ (by omega), upI_e]; simp [page0]
      · have hi : i < hs.length := by simpa [page0] using hi
        have e : ((page0 u).2.2.2.2.2.2.1 ++ hs.map (fun h => ((lnN ls h.1).1, (h.2 : Int)))).getD i (0, 0) = ((lnN ls (hs.getD i (0, 0)).1).1, ((hs.getD i (0, 0)).2 : Int)) := by
          show ([] ++ hs.map (fun h : kH => ((lnN ls h.1).1, (h.2 : Int)))).getD i (0, 0) = _
          rw [List.nil_append, List.getD_eq_getElem?_getD, List.getElem?_map, List.getElem?_eq_getElem hi, List.getD_eq_getElem?_getD, List.getElem?_eq_getElem hi]; rfl
        simp only [e]
        have := r2 i hi
        rw [v8 _ (by omega), v8 _ (by omega)]
        exact this
    · rw [setA_e, v8 q (by omega), r3 q (by omega), upI_n _ _ (by omega), upI_n _ _ (by omega), e7]
