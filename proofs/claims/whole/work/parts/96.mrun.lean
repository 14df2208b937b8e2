/-! the reference: would, line, run, perform, ways -/
def wouK (tp : List Int) (T : kT) (wd : List Int) (x : Int) : Int := if isLn T.1 x = true ∧ wd ≠ [] ∧ lih tp ≠ [] then (hitsL (T.1.set x.toNat ((ln T.1 x).1, lih tp)) wd : Int) else -1
theorem m_would {n : Nat} (hn : 25000 ≤ n) {m : mS} {tp : List Int} {T : kT} {wd : List Int} {ps : List kT} {im : Option kT} {sc : List (List kS)} {rf : Nat → Int} (h : Mdl m tp T wd ps im sc rf) {x : Int} (hx : sm x) (M : mm_M) (am : Nat) : ∃ m', pX10_would n (mk M am m) am (iI x) = some (iI (wouK tp T wd x), mk M am m') ∧ Mdl m' tp T wd ps im sc rf := by
  have hM := h
  obtain ⟨g1, g2, g3, g4, g5, g6⟩ := h
  obtain ⟨a1, a2, a3, a4, a5, a6, a7⟩ := g2
  have il := m_isLine (n := n) (M := M) (am := am) a1.1 a2.1 hx
  unfold wouK
  cases e : isLn T.1 x
  · rw [e] at il
    rw [if_neg (fun z => by cases z.1)]
    refine ⟨m, ?_, hM⟩
    simp (disch := (first | assumption | (refine sm_of ?_ ?_ <;> omega) | omega)) only [iI_add, iI_sub, iI_mul, iI_neg, iI_lt, iI_le, iI_eq, b1_s, b2_s, ↓reduceIte, mk_v, mk_gl23, mk_pl23, mk_gr1, mk_gr5, mk_gr6, mk_gr8, mk_gr9, mk_gr11, mk_gr13, mk_gr14, mk_gr15, mk_gr17, mk_gr18, mk_gr21, mk_gr24, mk_gr28, mk_gr30, mk_gr31, mk_gi0, mk_gi2, mk_gi3, mk_gi4, mk_gi7, mk_gi10, mk_gi12, mk_gi16, mk_gi19, mk_gi20, mk_gi22, mk_gi25, mk_gi26, mk_gi27, mk_gi29, mk_gi32, mk_pi0, mk_pi2, mk_pi3, mk_pi4, mk_pi7, mk_pi10, mk_pi12, mk_pi16, mk_pi19, mk_pi20, mk_pi22, mk_pi25, mk_pi26, mk_pi27, mk_pi29, mk_pi32, mk_ia1, mk_ia2, mk_ia3, mk_ia4, mk_ia5, mk_ia6, mk_ia7, mk_ia8, mk_ia9, mk_ia10, mk_ia11, mk_ia12, mk_ia13, mk_ia14, mk_ia15, mk_ia16, mk_is1, mk_is2, mk_is3, mk_is4, mk_is5, mk_is6, mk_is7, mk_is8, mk_is9, mk_is10, mk_is11, mk_is12, mk_is13, mk_is14, mk_is15, mk_is16, L0, L1, L2, L3, L4, L5, L6, L7, L8, L9, L10, L12, L20, L22, L24, L26, L27, L28, L32, L40, L60, L73, L95, L97, L222, L240, L441, L442, L622, Lm1, Lmh, L11, L13, L14, L15, L16, L17, L18, L19, L21, L23, L25, L30, L31, L33, L36, L39, L41, L44, L48, L53, L54, L55, L57, L58, L59, L91, L93, L98, L99, L100, L105, L106, L112, L114, L115, L119, L122, L160, L180, L200, L255, L1440, L24880, L63, Lm2, pX10_would, il, bI_f]
  · rw [e] at il
    by_cases c : wd = []
    · rw [if_neg (fun z => z.2.1 c)]
      refine ⟨m, ?_, hM⟩
      have a3' : m.1 0 16 = 0 := by rw [a3, c]; rfl
      simp (disch := (first | assumption | (refine sm_of ?_ ?_ <;> omega) | omega)) only [iI_add, iI_sub, iI_mul, iI_neg, iI_lt, iI_le, iI_eq, b1_s, b2_s, ↓reduceIte, mk_v, mk_gl23, mk_pl23, mk_gr1, mk_gr5, mk_gr6, mk_gr8, mk_gr9, mk_gr11, mk_gr13, mk_gr14, mk_gr15, mk_gr17, mk_gr18, mk_gr21, mk_gr24, mk_gr28, mk_gr30, mk_gr31, mk_gi0, mk_gi2, mk_gi3, mk_gi4, mk_gi7, mk_gi10, mk_gi12, mk_gi16, mk_gi19, mk_gi20, mk_gi22, mk_gi25, mk_gi26, mk_gi27, mk_gi29, mk_gi32, mk_pi0, mk_pi2, mk_pi3, mk_pi4, mk_pi7, mk_pi10, mk_pi12, mk_pi16, mk_pi19, mk_pi20, mk_pi22, mk_pi25, mk_pi26, mk_pi27, mk_pi29, mk_pi32, mk_ia1, mk_ia2, mk_ia3, mk_ia4, mk_ia5, mk_ia6, mk_ia7, mk_ia8, mk_ia9, mk_ia10, mk_ia11, mk_ia12, mk_ia13, mk_ia14, mk_ia15, mk_ia16, mk_is1, mk_is2, mk_is3, mk_is4, mk_is5, mk_is6, mk_is7, mk_is8, mk_is9, mk_is10, mk_is11, mk_is12, mk_is13, mk_is14, mk_is15, mk_is16, L0, L1, L2, L3, L4, L5, L6, L7, L8, L9, L10, L12, L20, L22, L24, L26, L27, L28, L32, L40, L60, L73, L95, L97, L222, L240, L441, L442, L622, Lm1, Lmh, L11, L13, L14, L15, L16, L17, L18, L19, L21, L23, L25, L30, L31, L33, L36, L39, L41, L44, L48, L53, L54, L55, L57, L58, L59, L91, L93, L98, L99, L100, L105, L106, L112, L114, L115, L119, L122, L160, L180, L200, L255, L1440, L24880, L63, Lm2, pX10_would, il, bI_t, Int.reduceEq, a3']
    · have c' : ¬ (wd.length : Int) = 0 := by rw [len_nil]; exact c
      obtain ⟨m1, e1, r1, l12, q1, q2, q3⟩ := m_lih (show 300 ≤ n by omega) g1 M am
      have h1 : Mdl m1 tp T wd ps im sc rf := hM.sk ⟨fun j q => q2 j (by omega) (by omega), fun x q => q3 x (by omega) (by omega) (by omega)⟩
      obtain ⟨o1, o2⟩ := lih_ok tp
      by_cases d : lih tp = []
      · rw [if_neg (fun z => z.2.2 d)]
        refine ⟨m1, ?_, h1⟩
        rw [d] at e1
        have e1 : pX10_lineInHand n (mk M am m) am = some (iI 0, mk M am m1) := e1
        simp (disch := (first | assumption | (refine sm_of ?_ ?_ <;> omega) | omega)) only [iI_add, iI_sub, iI_mul, iI_neg, iI_lt, iI_le, iI_eq, b1_s, b2_s, ↓reduceIte, mk_v, mk_gl23, mk_pl23, mk_gr1, mk_gr5, mk_gr6, mk_gr8, mk_gr9, mk_gr11, mk_gr13, mk_gr14, mk_gr15, mk_gr17, mk_gr18, mk_gr21, mk_gr24, mk_gr28, mk_gr30, mk_gr31, mk_gi0, mk_gi2, mk_gi3, mk_gi4, mk_gi7, mk_gi10, mk_gi12, mk_gi16, mk_gi19, mk_gi20, mk_gi22, mk_gi25, mk_gi26, mk_gi27, mk_gi29, mk_gi32, mk_pi0, mk_pi2, mk_pi3, mk_pi4, mk_pi7, mk_pi10, mk_pi12, mk_pi16, mk_pi19, mk_pi20, mk_pi22, mk_pi25, mk_pi26, mk_pi27, mk_pi29, mk_pi32, mk_ia1, mk_ia2, mk_ia3, mk_ia4, mk_ia5, mk_ia6, mk_ia7, mk_ia8, mk_ia9, mk_ia10, mk_ia11, mk_ia12, mk_ia13, mk_ia14, mk_ia15, mk_ia16, mk_is1, mk_is2, mk_is3, mk_is4, mk_is5, mk_is6, mk_is7, mk_is8, mk_is9, mk_is10, mk_is11, mk_is12, mk_is13, mk_is14, mk_is15, mk_is16, L0, L1, L2, L3, L4, L5, L6, L7, L8, L9, L10, L12, L20, L22, L24, L26, L27, L28, L32, L40, L60, L73, L95, L97, L222, L240, L441, L442, L622, Lm1, Lmh, L11, L13, L14, L15, L16, L17, L18, L19, L21, L23, L25, L30, L31, L33, L36, L39, L41, L44, L48, L53, L54, L55, L57, L58, L59, L91, L93, L98, L99, L100, L105, L106, L112, L114, L115, L119, L122, L160, L180, L200, L255, L1440, L24880, L63, Lm2, pX10_would, il, bI_t, Int.reduceEq, a3, c', e1]
      · rw [if_pos ⟨rfl, c, d⟩]
        have rf1 : rowF tp 20 = -1 := by
          refine Classical.byContradiction (fun z => d (lih_nil.mpr z))
        have l12' := l12 rf1
        obtain ⟨x0, x1⟩ := isLn_spec e
        obtain ⟨k, rfl⟩ := Int.eq_ofNat_of_zero_le x0
        rw [Int.toNat_natCast, ln_k]
        have l10 := a2.1.1
        have d' : ¬ ((lih tp).length : Int) = 0 := by rw [len_nil]; exact d
        obtain ⟨b1, b2, b3, b4, b5, b6⟩ := h1
        obtain ⟨p1, p2, p3, p4, p5, p6, p7⟩ := b2
        obtain ⟨g, e2, r2⟩ := m_aside hn (M := M) (am := am) (m := m1)
        have r6 : rowA ((setA m1 15 g).1 6) 0 (lih tp) := by rw [setA_n _ _ (by decide)]; exact r1
        obtain ⟨nw, e3, n1, n2, n3⟩ := m_laysS (show 60 ≤ n by omega) (M := M) (am := am) (m := setA m1 15 g) o2 (j := 6) (by decide) (by decide) (o := 0) (by omega) (by have : mz 6 = 20 := rfl; rw [this]; omega) (by simp [mz]) (k := k) (by omega) (fun f' _ => by rw [setA_n _ _ (by decide)]; exact r6)
        rw [setA_n _ _ (show 7 ≠ 15 by decide)] at n3
        have gd : gdL T.1 T.2.1 := ⟨a2.1, a2.2.1, a2.2.2.1⟩
        have gs := gdL_set gd (k := k) (by omega) (xs := lih tp) (List.length_pos_iff.mpr d) o2 o1
        have okn := (okT_ls a2 gs a2.2.2.2.1 (by rw [List.length_set]; omega)).1
        have hN' : NwL nw (T.1.set k ((lnN T.1 k).1, lih tp)) := by
          refine ⟨by rw [n3 0 (by omega), p1.1.1]; simp, fun i hi => ?_⟩
          rw [List.length_set] at hi
          rw [lnN_set (by omega)]
          obtain ⟨w1, w2, w3⟩ := p1.1.2 i hi
          by_cases z : i = k
          · subst z
            rw [if_pos rfl]
            exact ⟨by rw [n3 _ (by omega)]; exact w1, n1, n2⟩
          · rw [if_neg z]
            have l2 := (a2.1.2 i hi).2.1
            exact ⟨by rw [n3 _ (by omega)]; exact w1, by rw [n3 _ (by omega)]; exact w2, rowA_cg w3 (fun z hz => n3 _ (by omega))⟩
        have hT' : NwT nw (T.1.set k ((lnN T.1 k).1, lih tp), T.2.1, T.2.2.1, T.2.2.2) := NwT_ls p1 a2 hN' (by rw [n3 1 (by omega)]; exact p1.2.1) (fun q hq => n3 q (by omega))
        have hq : Mq (setA (setA m1 15 g) 7 nw) (T.1.set k ((lnN T.1 k).1, lih tp), T.2.1, T.2.2.1, T.2.2.2) wd := ⟨by rw [setA_e]; exact hT', okn, by rw [setA_n _ _ (by decide), setA_n _ _ (by decide)]; exact p3, by rw [setA_n _ _ (by decide), setA_n _ _ (by decide)]; exact p4, p5, p6, fun z => by have z : (T.1.set k ((lnN T.1 k).1, lih tp)).length = 0 := z; rw [List.length_set] at z; omega⟩
        obtain ⟨m3, e4, H4, ok4, f4, w4⟩ := m_lwT (show 300 ≤ n by omega) (M := M) (am := am) hq c
        obtain ⟨g', e5, r5⟩ := m_bring hn (M := M) (am := am) (m := m3)
        have h19 : m3.1 0 19 = ((hL (T.1.set k ((lnN T.1 k).1, lih tp)) wd).length : Nat) := H4.2.1
        have el : (hL (T.1.set k ((lnN T.1 k).1, lih tp)) wd).length = hitsL (T.1.set k ((lnN T.1 k).1, lih tp)) wd := by
          unfold hL; rw [if_neg c]; exact fb_len okn.2.1 wd
        rw [el] at h19
        refine ⟨setA m3 7 g', ?_, ?_⟩
        · have g12 : (setA m1 15 g).1 0 12 = (lih tp).length := by rw [setA_n _ _ (by decide)]; exact l12'
          have e3 : pX10_laysSigns n (mk M am (setA m1 15 g)) am (iI k) (am + 6) (iI 0) (iI (lih tp).length) = _ := e3
          have g19 : (setA m3 7 g').1 0 19 = (hitsL (T.1.set k ((lnN T.1 k).1, lih tp)) wd : Nat) := by rw [setA_n _ _ (by decide)]; exact h19
          simp (disch := (first | assumption | (refine sm_of ?_ ?_ <;> omega) | omega)) only [iI_add, iI_sub, iI_mul, iI_neg, iI_lt, iI_le, iI_eq, b1_s, b2_s, ↓reduceIte, mk_v, mk_gl23, mk_pl23, mk_gr1, mk_gr5, mk_gr6, mk_gr8, mk_gr9, mk_gr11, mk_gr13, mk_gr14, mk_gr15, mk_gr17, mk_gr18, mk_gr21, mk_gr24, mk_gr28, mk_gr30, mk_gr31, mk_gi0, mk_gi2, mk_gi3, mk_gi4, mk_gi7, mk_gi10, mk_gi12, mk_gi16, mk_gi19, mk_gi20, mk_gi22, mk_gi25, mk_gi26, mk_gi27, mk_gi29, mk_gi32, mk_pi0, mk_pi2, mk_pi3, mk_pi4, mk_pi7, mk_pi10, mk_pi12, mk_pi16, mk_pi19, mk_pi20, mk_pi22, mk_pi25, mk_pi26, mk_pi27, mk_pi29, mk_pi32, mk_ia1, mk_ia2, mk_ia3, mk_ia4, mk_ia5, mk_ia6, mk_ia7, mk_ia8, mk_ia9, mk_ia10, mk_ia11, mk_ia12, mk_ia13, mk_ia14, mk_ia15, mk_ia16, mk_is1, mk_is2, mk_is3, mk_is4, mk_is5, mk_is6, mk_is7, mk_is8, mk_is9, mk_is10, mk_is11, mk_is12, mk_is13, mk_is14, mk_is15, mk_is16, L0, L1, L2, L3, L4, L5, L6, L7, L8, L9, L10, L12, L20, L22, L24, L26, L27, L28, L32, L40, L60, L73, L95, L97, L222, L240, L441, L442, L622, Lm1, Lmh, L11, L13, L14, L15, L16, L17, L18, L19, L21, L23, L25, L30, L31, L33, L36, L39, L41, L44, L48, L53, L54, L55, L57, L58, L59, L91, L93, L98, L99, L100, L105, L106, L112, L114, L115, L119, L122, L160, L180, L200, L255, L1440, L24880, L63, Lm2, pX10_would, il, bI_t, Int.reduceEq, a3, c', e1, d', e2, g12, e3, e4, e5, g19]
        · have k15 : m3.1 15 = g := by rw [f4.2.1 15 (by decide) (by decide) (by decide), setA_n _ _ (by decide), setA_e]
          have k7 : m3.1 7 = nw := by rw [f4.2.1 7 (by decide) (by decide) (by decide), setA_e]
          have gg : ∀ q : Int, 0 ≤ q → q < 622 → g' q = m1.1 7 q := fun q q0 q1 => by
            rw [r5 q]
            by_cases z : q < 441
            · rw [if_pos ⟨q0, z⟩, k15, r2 q q0 z]
            · rw [if_neg (by omega), k7, n3 q (by omega)]
          have kj : ∀ j, j ≠ 0 → j ≠ 7 → j ≠ 10 → j ≠ 11 → j ≠ 15 → (setA m3 7 g').1 j = m1.1 j := fun j j0 j7 j10 j11 j15 => by rw [setA_n _ _ j7, f4.2.1 j j0 j10 j11, setA_n _ _ j7, setA_n _ _ j15]
          have kx : ∀ x, x ≠ 19 → x ≠ 20 → (setA m3 7 g').1 0 x = m1.1 0 x := fun x x19 x20 => by rw [setA_n _ _ (by decide), f4.2.2 x x19 x20, setA_n _ _ (by decide), setA_n _ _ (by decide)]
          exact ⟨⟨b1.1, b1.2.1, by rw [kx 2 (by decide) (by decide)]; exact b1.2.2.1, by rw [kj 1 (by decide) (by decide) (by decide) (by decide) (by decide)]; exact b1.2.2.2⟩, ⟨by rw [setA_e]; exact NwT_cg p1 a2 gg, a2, by rw [kx 16 (by decide) (by decide)]; exact p3, by rw [kj 9 (by decide) (by decide) (by decide) (by decide) (by decide)]; exact p4, p5, p6, p7⟩, b3.cg (kx 22 (by decide) (by decide)) (kj 12 (by decide) (by decide) (by decide) (by decide) (by decide)), ⟨by rw [kx 32 (by decide) (by decide)]; exact b4.1, by rw [kj 16 (by decide) (by decide) (by decide) (by decide) (by decide)]; exact b4.2⟩, ⟨b5.1, by rw [kx 10 (by decide) (by decide)]; exact b5.2.1, fun k hk => (b5.2.2 k hk).cg (kj 4 (by decide) (by decide) (by decide) (by decide) (by decide)) (kj 5 (by decide) (by decide) (by decide) (by decide) (by decide))⟩, by rw [kj 8 (by decide) (by decide) (by decide) (by decide) (by decide)]; exact b6⟩
theorem m_lineT {n : Nat} {m : mS} {tp : List Int} {T : kT} {wd : List Int} {ps : List kT} {im : Option kT} {sc : List (List kS)} {rf : Nat → Int} (h : Mdl m tp T wd ps im sc rf) {x y : Int} (hx : sm x) (hy : sm y) (hl : isLn T.1 x = true) (hy2 : 0 ≤ y ∧ y ≤ 1) (M : mm_M) (am : Nat) : ∃ m', pX10_line n (mk M am m) am (iI x) (iI y) = some (iI (if y = 0 then (ln T.1 x).1 else ((ln T.1 x).2.length : Int)), mk M am m') ∧ pX10_thrown n (mk M am m') am = some (iI 0, mk M am m') ∧ Mdl m' tp T wd ps im sc rf := by
  have q := h.2.1
  have il := m_isLine (n := n) (M := M) (am := am) q.1.1 q.2.1.1 hx
  rw [hl] at il
  obtain ⟨x0, x1⟩ := isLn_spec hl
  obtain ⟨k, rfl⟩ := Int.eq_ofNat_of_zero_le x0
  have i1 := m_inT (n := n) (M := mk M am m) hy (sm_of (show -1000000000 ≤ (0 : Int) by omega) (by omega)) (sm_of (show -1000000000 ≤ (1 : Int) by omega) (by omega)) hy2
  have hN : NwL ((setA m 0 (upI (m.1 0) 0 0)).1 7) T.1 := by rw [setA_n _ _ (by decide)]; exact q.1.1
  have n1 := m_num (n := n) (M := M) (am := am) hN q.2.1.1 (k := k) (by omega)
  have n2 := m_long (n := n) (M := M) (am := am) hN q.2.1.1 (k := k) (by omega)
  have z0 : (setA m 0 (upI (m.1 0) 0 0)).1 0 0 = 0 := by rw [setA_e, upI_e]
  refine ⟨setA m 0 (upI (m.1 0) 0 0), ?_, ?_, h.sk ⟨fun j q => setA_n _ _ (by omega), fun x q => by rw [setA_e, upI_n _ _ (by omega)]⟩⟩
  · rw [ln_k]
    rcases (show y = 0 ∨ y = 1 by omega) with rfl | rfl
    · simp (disch := (first | assumption | (refine sm_of ?_ ?_ <;> omega) | omega)) only [iI_add, iI_sub, iI_mul, iI_neg, iI_lt, iI_le, iI_eq, b1_s, b2_s, ↓reduceIte, mk_v, mk_gl23, mk_pl23, mk_gr1, mk_gr5, mk_gr6, mk_gr8, mk_gr9, mk_gr11, mk_gr13, mk_gr14, mk_gr15, mk_gr17, mk_gr18, mk_gr21, mk_gr24, mk_gr28, mk_gr30, mk_gr31, mk_gi0, mk_gi2, mk_gi3, mk_gi4, mk_gi7, mk_gi10, mk_gi12, mk_gi16, mk_gi19, mk_gi20, mk_gi22, mk_gi25, mk_gi26, mk_gi27, mk_gi29, mk_gi32, mk_pi0, mk_pi2, mk_pi3, mk_pi4, mk_pi7, mk_pi10, mk_pi12, mk_pi16, mk_pi19, mk_pi20, mk_pi22, mk_pi25, mk_pi26, mk_pi27, mk_pi29, mk_pi32, mk_ia1, mk_ia2, mk_ia3, mk_ia4, mk_ia5, mk_ia6, mk_ia7, mk_ia8, mk_ia9, mk_ia10, mk_ia11, mk_ia12, mk_ia13, mk_ia14, mk_ia15, mk_ia16, mk_is1, mk_is2, mk_is3, mk_is4, mk_is5, mk_is6, mk_is7, mk_is8, mk_is9, mk_is10, mk_is11, mk_is12, mk_is13, mk_is14, mk_is15, mk_is16, L0, L1, L2, L3, L4, L5, L6, L7, L8, L9, L10, L12, L20, L22, L24, L26, L27, L28, L32, L40, L60, L73, L95, L97, L222, L240, L441, L442, L622, Lm1, Lmh, L11, L13, L14, L15, L16, L17, L18, L19, L21, L23, L25, L30, L31, L33, L36, L39, L41, L44, L48, L53, L54, L55, L57, L58, L59, L91, L93, L98, L99, L100, L105, L106, L112, L114, L115, L119, L122, L160, L180, L200, L255, L1440, L24880, L63, Lm2, pX10_line, il, bI_t, Int.reduceEq, i1, pX10_line_b23, z0, n1]
    · simp (disch := (first | assumption | (refine sm_of ?_ ?_ <;> omega) | omega)) only [iI_add, iI_sub, iI_mul, iI_neg, iI_lt, iI_le, iI_eq, b1_s, b2_s, ↓reduceIte, mk_v, mk_gl23, mk_pl23, mk_gr1, mk_gr5, mk_gr6, mk_gr8, mk_gr9, mk_gr11, mk_gr13, mk_gr14, mk_gr15, mk_gr17, mk_gr18, mk_gr21, mk_gr24, mk_gr28, mk_gr30, mk_gr31, mk_gi0, mk_gi2, mk_gi3, mk_gi4, mk_gi7, mk_gi10, mk_gi12, mk_gi16, mk_gi19, mk_gi20, mk_gi22, mk_gi25, mk_gi26, mk_gi27, mk_gi29, mk_gi32, mk_pi0, mk_pi2, mk_pi3, mk_pi4, mk_pi7, mk_pi10, mk_pi12, mk_pi16, mk_pi19, mk_pi20, mk_pi22, mk_pi25, mk_pi26, mk_pi27, mk_pi29, mk_pi32, mk_ia1, mk_ia2, mk_ia3, mk_ia4, mk_ia5, mk_ia6, mk_ia7, mk_ia8, mk_ia9, mk_ia10, mk_ia11, mk_ia12, mk_ia13, mk_ia14, mk_ia15, mk_ia16, mk_is1, mk_is2, mk_is3, mk_is4, mk_is5, mk_is6, mk_is7, mk_is8, mk_is9, mk_is10, mk_is11, mk_is12, mk_is13, mk_is14, mk_is15, mk_is16, L0, L1, L2, L3, L4, L5, L6, L7, L8, L9, L10, L12, L20, L22, L24, L26, L27, L28, L32, L40, L60, L73, L95, L97, L222, L240, L441, L442, L622, Lm1, Lmh, L11, L13, L14, L15, L16, L17, L18, L19, L21, L23, L25, L30, L31, L33, L36, L39, L41, L44, L48, L53, L54, L55, L57, L58, L59, L91, L93, L98, L99, L100, L105, L106, L112, L114, L115, L119, L122, L160, L180, L200, L255, L1440, L24880, L63, Lm2, pX10_line, il, bI_t, Int.reduceEq, i1, pX10_line_b23, z0, n2]
  · simp (disch := (first | assumption | (refine sm_of ?_ ?_ <;> omega) | omega)) only [iI_add, iI_sub, iI_mul, iI_neg, iI_lt, iI_le, iI_eq, b1_s, b2_s, ↓reduceIte, mk_v, mk_gl23, mk_pl23, mk_gr1, mk_gr5, mk_gr6, mk_gr8, mk_gr9, mk_gr11, mk_gr13, mk_gr14, mk_gr15, mk_gr17, mk_gr18, mk_gr21, mk_gr24, mk_gr28, mk_gr30, mk_gr31, mk_gi0, mk_gi2, mk_gi3, mk_gi4, mk_gi7, mk_gi10, mk_gi12, mk_gi16, mk_gi19, mk_gi20, mk_gi22, mk_gi25, mk_gi26, mk_gi27, mk_gi29, mk_gi32, mk_pi0, mk_pi2, mk_pi3, mk_pi4, mk_pi7, mk_pi10, mk_pi12, mk_pi16, mk_pi19, mk_pi20, mk_pi22, mk_pi25, mk_pi26, mk_pi27, mk_pi29, mk_pi32, mk_ia1, mk_ia2, mk_ia3, mk_ia4, mk_ia5, mk_ia6, mk_ia7, mk_ia8, mk_ia9, mk_ia10, mk_ia11, mk_ia12, mk_ia13, mk_ia14, mk_ia15, mk_ia16, mk_is1, mk_is2, mk_is3, mk_is4, mk_is5, mk_is6, mk_is7, mk_is8, mk_is9, mk_is10, mk_is11, mk_is12, mk_is13, mk_is14, mk_is15, mk_is16, L0, L1, L2, L3, L4, L5, L6, L7, L8, L9, L10, L12, L20, L22, L24, L26, L27, L28, L32, L40, L60, L73, L95, L97, L222, L240, L441, L442, L622, Lm1, Lmh, L11, L13, L14, L15, L16, L17, L18, L19, L21, L23, L25, L30, L31, L33, L36, L39, L41, L44, L48, L53, L54, L55, L57, L58, L59, L91, L93, L98, L99, L100, L105, L106, L112, L114, L115, L119, L122, L160, L180, L200, L255, L1440, L24880, L63, Lm2, pX10_thrown, z0]
theorem m_lineF {n : Nat} {m : mS} {tp : List Int} {T : kT} {wd : List Int} {ps : List kT} {im : Option kT} {sc : List (List kS)} {rf : Nat → Int} (h : Mdl m tp T wd ps im sc rf) {x y : Int} (hx : sm x) (hy : sm y) (hl : ¬ (isLn T.1 x = true ∧ 0 ≤ y ∧ y ≤ 1)) (M : mm_M) (am : Nat) : ∃ m', pX10_line n (mk M am m) am (iI x) (iI y) = some (iI 0, mk M am m') ∧ pX10_thrown n (mk M am m') am = some (iI 1, mk M am m') ∧ Mdl m' tp T wd ps im sc rf := by
  have q := h.2.1
  have il := m_isLine (n := n) (M := M) (am := am) q.1.1 q.2.1.1 hx
  have z0 : (setA m 0 (upI (m.1 0) 0 1)).1 0 0 = 1 := by rw [setA_e, upI_e]
  refine ⟨setA m 0 (upI (m.1 0) 0 1), ?_, ?_, h.sk ⟨fun j q => setA_n _ _ (by omega), fun x q => by rw [setA_e, upI_n _ _ (by omega)]⟩⟩
  · cases e : isLn T.1 x
    · rw [e] at il
      simp (disch := (first | assumption | (refine sm_of ?_ ?_ <;> omega) | omega)) only [iI_add, iI_sub, iI_mul, iI_neg, iI_lt, iI_le, iI_eq, b1_s, b2_s, ↓reduceIte, mk_v, mk_gl23, mk_pl23, mk_gr1, mk_gr5, mk_gr6, mk_gr8, mk_gr9, mk_gr11, mk_gr13, mk_gr14, mk_gr15, mk_gr17, mk_gr18, mk_gr21, mk_gr24, mk_gr28, mk_gr30, mk_gr31, mk_gi0, mk_gi2, mk_gi3, mk_gi4, mk_gi7, mk_gi10, mk_gi12, mk_gi16, mk_gi19, mk_gi20, mk_gi22, mk_gi25, mk_gi26, mk_gi27, mk_gi29, mk_gi32, mk_pi0, mk_pi2, mk_pi3, mk_pi4, mk_pi7, mk_pi10, mk_pi12, mk_pi16, mk_pi19, mk_pi20, mk_pi22, mk_pi25, mk_pi26, mk_pi27, mk_pi29, mk_pi32, mk_ia1, mk_ia2, mk_ia3, mk_ia4, mk_ia5, mk_ia6, mk_ia7, mk_ia8, mk_ia9, mk_ia10, mk_ia11, mk_ia12, mk_ia13, mk_ia14, mk_ia15, mk_ia16, mk_is1, mk_is2, mk_is3, mk_is4, mk_is5, mk_is6, mk_is7, mk_is8, mk_is9, mk_is10, mk_is11, mk_is12, mk_is13, mk_is14, mk_is15, mk_is16, L0, L1, L2, L3, L4, L5, L6, L7, L8, L9, L10, L12, L20, L22, L24, L26, L27, L28, L32, L40, L60, L73, L95, L97, L222, L240, L441, L442, L622, Lm1, Lmh, L11, L13, L14, L15, L16, L17, L18, L19, L21, L23, L25, L30, L31, L33, L36, L39, L41, L44, L48, L53, L54, L55, L57, L58, L59, L91, L93, L98, L99, L100, L105, L106, L112, L114, L115, L119, L122, L160, L180, L200, L255, L1440, L24880, L63, Lm2, pX10_line, il, bI_f, pX10_line_b23, z0]
    · rw [e] at il
      have i1 := m_inF (n := n) (M := mk M am m) hy (sm_of (show -1000000000 ≤ (0 : Int) by omega) (by omega)) (sm_of (show -1000000000 ≤ (1 : Int) by omega) (by omega)) (fun z => hl ⟨e, z.1, z.2⟩)
      simp (disch := (first | assumption | (refine sm_of ?_ ?_ <;> omega) | omega)) only [iI_add, iI_sub, iI_mul, iI_neg, iI_lt, iI_le, iI_eq, b1_s, b2_s, ↓reduceIte, mk_v, mk_gl23, mk_pl23, mk_gr1, mk_gr5, mk_gr6, mk_gr8, mk_gr9, mk_gr11, mk_gr13, mk_gr14, mk_gr15, mk_gr17, mk_gr18, mk_gr21, mk_gr24, mk_gr28, mk_gr30, mk_gr31, mk_gi0, mk_gi2, mk_gi3, mk_gi4, mk_gi7, mk_gi10, mk_gi12, mk_gi16, mk_gi19, mk_gi20, mk_gi22, mk_gi25, mk_gi26, mk_gi27, mk_gi29, mk_gi32, mk_pi0, mk_pi2, mk_pi3, mk_pi4, mk_pi7, mk_pi10, mk_pi12, mk_pi16, mk_pi19, mk_pi20, mk_pi22, mk_pi25, mk_pi26, mk_pi27, mk_pi29, mk_pi32, mk_ia1, mk_ia2, mk_ia3, mk_ia4, mk_ia5, mk_ia6, mk_ia7, mk_ia8, mk_ia9, mk_ia10, mk_ia11, mk_ia12, mk_ia13, mk_ia14, mk_ia15, mk_ia16, mk_is1, mk_is2, mk_is3, mk_is4, mk_is5, mk_is6, mk_is7, mk_is8, mk_is9, mk_is10, mk_is11, mk_is12, mk_is13, mk_is14, mk_is15, mk_is16, L0, L1, L2, L3, L4, L5, L6, L7, L8, L9, L10, L12, L20, L22, L24, L26, L27, L28, L32, L40, L60, L73, L95, L97, L222, L240, L441, L442, L622, Lm1, Lmh, L11, L13, L14, L15, L16, L17, L18, L19, L21, L23, L25, L30, L31, L33, L36, L39, L41, L44, L48, L53, L54, L55, L57, L58, L59, L91, L93, L98, L99, L100, L105, L106, L112, L114, L115, L119, L122, L160, L180, L200, L255, L1440, L24880, L63, Lm2, pX10_line, il, bI_t, Int.reduceEq, i1, pX10_line_b23, z0]
  · simp (disch := (first | assumption | (refine sm_of ?_ ?_ <;> omega) | omega)) only [iI_add, iI_sub, iI_mul, iI_neg, iI_lt, iI_le, iI_eq, b1_s, b2_s, ↓reduceIte, mk_v, mk_gl23, mk_pl23, mk_gr1, mk_gr5, mk_gr6, mk_gr8, mk_gr9, mk_gr11, mk_gr13, mk_gr14, mk_gr15, mk_gr17, mk_gr18, mk_gr21, mk_gr24, mk_gr28, mk_gr30, mk_gr31, mk_gi0, mk_gi2, mk_gi3, mk_gi4, mk_gi7, mk_gi10, mk_gi12, mk_gi16, mk_gi19, mk_gi20, mk_gi22, mk_gi25, mk_gi26, mk_gi27, mk_gi29, mk_gi32, mk_pi0, mk_pi2, mk_pi3, mk_pi4, mk_pi7, mk_pi10, mk_pi12, mk_pi16, mk_pi19, mk_pi20, mk_pi22, mk_pi25, mk_pi26, mk_pi27, mk_pi29, mk_pi32, mk_ia1, mk_ia2, mk_ia3, mk_ia4, mk_ia5, mk_ia6, mk_ia7, mk_ia8, mk_ia9, mk_ia10, mk_ia11, mk_ia12, mk_ia13, mk_ia14, mk_ia15, mk_ia16, mk_is1, mk_is2, mk_is3, mk_is4, mk_is5, mk_is6, mk_is7, mk_is8, mk_is9, mk_is10, mk_is11, mk_is12, mk_is13, mk_is14, mk_is15, mk_is16, L0, L1, L2, L3, L4, L5, L6, L7, L8, L9, L10, L12, L20, L22, L24, L26, L27, L28, L32, L40, L60, L73, L95, L97, L222, L240, L441, L442, L622, Lm1, Lmh, L11, L13, L14, L15, L16, L17, L18, L19, L21, L23, L25, L30, L31, L33, L36, L39, L41, L44, L48, L53, L54, L55, L57, L58, L59, L91, L93, L98, L99, L100, L105, L106, L112, L114, L115, L119, L122, L160, L180, L200, L255, L1440, L24880, L63, Lm2, pX10_thrown, z0]
def runK (T : kT) (sc : List (List kS)) (x y : Int) : Int := if 0 ≤ x ∧ x < sc.length ∧ T.1.length ≠ 0 ∧ 0 ≤ y ∧ y ≤ 1 then (if y = 1 then (allS (runN T (sc.getD x.toNat [])).2.1 : Int) else if (runN T (sc.getD x.toNat [])).1 = (sc.getD x.toNat []).length then -1 else ((runN T (sc.getD x.toNat [])).1 : Int)) else -1000000
theorem m_runM {n : Nat} (hn : 25000 ≤ n) {m : mS} {tp : List Int} {T : kT} {wd : List Int} {ps : List kT} {im : Option kT} {sc : List (List kS)} {rf : Nat → Int} (h : Mdl m tp T wd ps im sc rf) (hI : Inv T wd ps im sc) {B : Int} (hB0 : 0 ≤ B) (hB : B + 12 ≤ 5000000) (hb : bnd T B) {x y : Int} (hx : sm x) (hy : sm y) (M : mm_M) (am : Nat) : ∃ m', pX10_run n (mk M am m) am (iI x) (iI y) = some (iI (runK T sc x y), mk M am m') ∧ Mdl m' tp T wd ps im sc rf := by
  have hM := h
  obtain ⟨g1, g2, g3, g4, g5, g6⟩ := h
  obtain ⟨a1, a2, a3, a4, a5, a6, a7⟩ := g2
  have is := m_isSc (n := n) (M := M) (am := am) g5.1 g5.2.1 hx
  have st := m_store (n := n) (M := M) (am := am) a1.1 a2.1
  unfold runK
  by_cases c : 0 ≤ x ∧ x < sc.length
  · rw [decide_eq_true c] at is
    by_cases s0 : 0 < T.1.length
    · rw [decide_eq_true s0] at st
      by_cases g : 0 ≤ y ∧ y ≤ 1
      · rw [if_pos ⟨c.1, c.2, by omega, g.1, g.2⟩]
        have i1 := m_inT (n := n) (M := mk M am m) hy (sm_of (show -1000000000 ≤ (0 : Int) by omega) (by omega)) (sm_of (show -1000000000 ≤ (1 : Int) by omega) (by omega)) g
        obtain ⟨s, rfl⟩ := Int.eq_ofNat_of_zero_le c.1
        have l4 := g5.1
        have hZ := g5.2.2 s (by omega)
        have oz := hI.2.2.2.2.2.2 s (by omega)
        rw [Int.toNat_natCast]
        generalize sc.getD s [] = zs at *
        have z12 := hZ.1
        obtain ⟨gg, e2, r2⟩ := m_aside hn (M := M) (am := am) (m := m)
        have hZ1 : NwZ (setA m 15 gg) s zs := hZ.cg (setA_n _ _ (by decide)) (setA_n _ _ (by decide))
        obtain ⟨m3, e3, t3, o3, f3⟩ := m_go0 (show 300 ≤ n by omega) (M := M) (am := am) (show s ≤ 4 by omega) oz n 0 (setA m 15 gg) T B hZ1 (by rw [setA_n _ _ (by decide)]; exact a1) a2 hB0 (by omega) hb (by omega) (by omega)
        rw [List.drop_zero, Nat.zero_add] at e3
        rw [List.drop_zero] at t3 o3
        have e3 : pX10_goSteps_l2 n n (mk M am (setA m 15 gg)) am (iI s) (iI 0) (iI 0) = _ := e3
        have rl := runN_le T zs
        have al := m_all (show 60 ≤ n by omega) (M := M) (am := am) t3.1 o3.1
        obtain ⟨g', e5, r5⟩ := m_bring hn (M := M) (am := am) (m := m3)
        have k5 : (setA m3 7 g').1 5 s = zs.length := by rw [setA_n _ _ (by decide), f3.2.1 5 (by decide) (by decide) (by decide) (by decide), setA_n _ _ (by decide)]; exact hZ.2.1
        refine ⟨setA m3 7 g', ?_, ?_⟩
        · rcases (show y = 0 ∨ y = 1 by omega) with rfl | rfl
          · simp (disch := (first | assumption | (refine sm_of ?_ ?_ <;> omega) | omega)) only [iI_add, iI_sub, iI_mul, iI_neg, iI_lt, iI_le, iI_eq, b1_s, b2_s, ↓reduceIte, mk_v, mk_gl23, mk_pl23, mk_gr1, mk_gr5, mk_gr6, mk_gr8, mk_gr9, mk_gr11, mk_gr13, mk_gr14, mk_gr15, mk_gr17, mk_gr18, mk_gr21, mk_gr24, mk_gr28, mk_gr30, mk_gr31, mk_gi0, mk_gi2, mk_gi3, mk_gi4, mk_gi7, mk_gi10, mk_gi12, mk_gi16, mk_gi19, mk_gi20, mk_gi22, mk_gi25, mk_gi26, mk_gi27, mk_gi29, mk_gi32, mk_pi0, mk_pi2, mk_pi3, mk_pi4, mk_pi7, mk_pi10, mk_pi12, mk_pi16, mk_pi19, mk_pi20, mk_pi22, mk_pi25, mk_pi26, mk_pi27, mk_pi29, mk_pi32, mk_ia1, mk_ia2, mk_ia3, mk_ia4, mk_ia5, mk_ia6, mk_ia7, mk_ia8, mk_ia9, mk_ia10, mk_ia11, mk_ia12, mk_ia13, mk_ia14, mk_ia15, mk_ia16, mk_is1, mk_is2, mk_is3, mk_is4, mk_is5, mk_is6, mk_is7, mk_is8, mk_is9, mk_is10, mk_is11, mk_is12, mk_is13, mk_is14, mk_is15, mk_is16, L0, L1, L2, L3, L4, L5, L6, L7, L8, L9, L10, L12, L20, L22, L24, L26, L27, L28, L32, L40, L60, L73, L95, L97, L222, L240, L441, L442, L622, Lm1, Lmh, L11, L13, L14, L15, L16, L17, L18, L19, L21, L23, L25, L30, L31, L33, L36, L39, L41, L44, L48, L53, L54, L55, L57, L58, L59, L91, L93, L98, L99, L100, L105, L106, L112, L114, L115, L119, L122, L160, L180, L200, L255, L1440, L24880, L63, Lm2, pX10_run, is, bI_t, Int.reduceEq, st, i1, e2, pX10_goSteps, e3, al, e5, k5]
            by_cases q : (runN T zs).1 = zs.length
            · rw [if_pos (by omega), if_pos q]
            · rw [if_neg (by omega), if_neg q]
          · simp (disch := (first | assumption | (refine sm_of ?_ ?_ <;> omega) | omega)) only [iI_add, iI_sub, iI_mul, iI_neg, iI_lt, iI_le, iI_eq, b1_s, b2_s, ↓reduceIte, mk_v, mk_gl23, mk_pl23, mk_gr1, mk_gr5, mk_gr6, mk_gr8, mk_gr9, mk_gr11, mk_gr13, mk_gr14, mk_gr15, mk_gr17, mk_gr18, mk_gr21, mk_gr24, mk_gr28, mk_gr30, mk_gr31, mk_gi0, mk_gi2, mk_gi3, mk_gi4, mk_gi7, mk_gi10, mk_gi12, mk_gi16, mk_gi19, mk_gi20, mk_gi22, mk_gi25, mk_gi26, mk_gi27, mk_gi29, mk_gi32, mk_pi0, mk_pi2, mk_pi3, mk_pi4, mk_pi7, mk_pi10, mk_pi12, mk_pi16, mk_pi19, mk_pi20, mk_pi22, mk_pi25, mk_pi26, mk_pi27, mk_pi29, mk_pi32, mk_ia1, mk_ia2, mk_ia3, mk_ia4, mk_ia5, mk_ia6, mk_ia7, mk_ia8, mk_ia9, mk_ia10, mk_ia11, mk_ia12, mk_ia13, mk_ia14, mk_ia15, mk_ia16, mk_is1, mk_is2, mk_is3, mk_is4, mk_is5, mk_is6, mk_is7, mk_is8, mk_is9, mk_is10, mk_is11, mk_is12, mk_is13, mk_is14, mk_is15, mk_is16, L0, L1, L2, L3, L4, L5, L6, L7, L8, L9, L10, L12, L20, L22, L24, L26, L27, L28, L32, L40, L60, L73, L95, L97, L222, L240, L441, L442, L622, Lm1, Lmh, L11, L13, L14, L15, L16, L17, L18, L19, L21, L23, L25, L30, L31, L33, L36, L39, L41, L44, L48, L53, L54, L55, L57, L58, L59, L91, L93, L98, L99, L100, L105, L106, L112, L114, L115, L119, L122, L160, L180, L200, L255, L1440, L24880, L63, Lm2, pX10_run, is, bI_t, Int.reduceEq, st, i1, e2, pX10_goSteps, e3, al, e5]
        · have k15 : m3.1 15 = gg := by rw [f3.2.1 15 (by decide) (by decide) (by decide) (by decide), setA_e]
          -- the log stays
          have lg : ∀ q : Int, 0 ≤ q → q < 441 → g' q = m.1 7 q := fun q q0 q1 => by rw [r5 q, if_pos ⟨q0, q1⟩, k15, r2 q q0 q1]
          have lg2 : ∀ q : Int, 441 ≤ q → g' q = m3.1 7 q := fun q q0 => by rw [r5 q, if_neg (by omega)]
          have rlg : ∀ (zs : List kS) (T : kT), (runN T zs).2.2.2.2 = T.2.2.2 := by
            intro zs
            induction zs with
            | nil => intro T; rfl
            | cons z zs ih =>
              intro T
              simp only [runN]
              split
              · show (runN (aft T z.1 z.2.1 z.2.2.1 z.2.2.2) zs).2.2.2.2 = _
                rw [ih]; rfl
              · rfl
          have tl := t3.2.2.2
          rw [rlg zs T] at tl
          have l60 := a2.2.2.2.2.2.1
          have tT : NwT g' T := by
            have h7 : NwL g' T.1 := by
              have l1 := a2.1.1
              refine ⟨by rw [lg _ (by omega) (by omega)]; exact a1.1.1, fun k hk => ?_⟩
              obtain ⟨w1, w2, w3⟩ := a1.1.2 k hk
              have l2 := (a2.1.2 k hk).2.1
              exact ⟨by rw [lg _ (by omega) (by omega)]; exact w1, by rw [lg _ (by omega) (by omega)]; exact w2, rowA_cg w3 (fun i hi => lg _ (by omega) (by omega))⟩
            refine ⟨h7, by rw [lg 1 (by omega) (by omega)]; exact a1.2.1, fun c hc => NwU_cg (a1.2.2.1 c hc) (a2.2.2.2.2.1 c hc) (fun q b1 b2 => lg q (by omega) (by omega)), by rw [lg2 441 (by omega)]; exact tl.1, fun i hi => ?_⟩
            · rw [lg2 _ (by omega), lg2 _ (by omega), lg2 _ (by omega)]; exact tl.2 i hi
          have kj : ∀ j, j ≠ 0 → j ≠ 7 → j ≠ 10 → j ≠ 11 → j ≠ 15 → (setA m3 7 g').1 j = m.1 j := fun j j0 j7 j10 j11 j15 => by rw [setA_n _ _ j7, f3.2.1 j j0 j7 j10 j11, setA_n _ _ j15]
          have kx : ∀ x, x ≠ 19 → x ≠ 20 → (setA m3 7 g').1 0 x = m.1 0 x := fun x x19 x20 => by rw [setA_n _ _ (by decide), f3.2.2 x x19 x20, setA_n _ _ (by decide)]
          exact hM.act (by rw [setA_e]; exact tT) a2 (by omega) (g3.cg (kx 22 (by decide) (by decide)) (kj 12 (by decide) (by decide) (by decide) (by decide) (by decide))) (fun j q => kj j (by omega) (by omega) (by omega) (by omega) (by omega)) (fun x q => kx x (by omega) (by omega))
      · rw [if_neg (fun z => g ⟨z.2.2.2.1, z.2.2.2.2⟩)]
        have i1 := m_inF (n := n) (M := mk M am m) hy (sm_of (show -1000000000 ≤ (0 : Int) by omega) (by omega)) (sm_of (show -1000000000 ≤ (1 : Int) by omega) (by omega)) g
        refine ⟨m, ?_, hM⟩
        simp (disch := (first | assumption | (refine sm_of ?_ ?_ <;> omega) | omega)) only [iI_add, iI_sub, iI_mul, iI_neg, iI_lt, iI_le, iI_eq, b1_s, b2_s, ↓reduceIte, mk_v, mk_gl23, mk_pl23, mk_gr1, mk_gr5, mk_gr6, mk_gr8, mk_gr9, mk_gr11, mk_gr13, mk_gr14, mk_gr15, mk_gr17, mk_gr18, mk_gr21, mk_gr24, mk_gr28, mk_gr30, mk_gr31, mk_gi0, mk_gi2, mk_gi3, mk_gi4, mk_gi7, mk_gi10, mk_gi12, mk_gi16, mk_gi19, mk_gi20, mk_gi22, mk_gi25, mk_gi26, mk_gi27, mk_gi29, mk_gi32, mk_pi0, mk_pi2, mk_pi3, mk_pi4, mk_pi7, mk_pi10, mk_pi12, mk_pi16, mk_pi19, mk_pi20, mk_pi22, mk_pi25, mk_pi26, mk_pi27, mk_pi29, mk_pi32, mk_ia1, mk_ia2, mk_ia3, mk_ia4, mk_ia5, mk_ia6, mk_ia7, mk_ia8, mk_ia9, mk_ia10, mk_ia11, mk_ia12, mk_ia13, mk_ia14, mk_ia15, mk_ia16, mk_is1, mk_is2, mk_is3, mk_is4, mk_is5, mk_is6, mk_is7, mk_is8, mk_is9, mk_is10, mk_is11, mk_is12, mk_is13, mk_is14, mk_is15, mk_is16, L0, L1, L2, L3, L4, L5, L6, L7, L8, L9, L10, L12, L20, L22, L24, L26, L27, L28, L32, L40, L60, L73, L95, L97, L222, L240, L441, L442, L622, Lm1, Lmh, L11, L13, L14, L15, L16, L17, L18, L19, L21, L23, L25, L30, L31, L33, L36, L39, L41, L44, L48, L53, L54, L55, L57, L58, L59, L91, L93, L98, L99, L100, L105, L106, L112, L114, L115, L119, L122, L160, L180, L200, L255, L1440, L24880, L63, Lm2, pX10_run, is, bI_t, Int.reduceEq, st, i1]
    · rw [if_neg (fun z => by have := z.2.2.1; omega)]
      rw [decide_eq_false s0] at st
      refine ⟨m, ?_, hM⟩
      simp (disch := (first | assumption | (refine sm_of ?_ ?_ <;> omega) | omega)) only [iI_add, iI_sub, iI_mul, iI_neg, iI_lt, iI_le, iI_eq, b1_s, b2_s, ↓reduceIte, mk_v, mk_gl23, mk_pl23, mk_gr1, mk_gr5, mk_gr6, mk_gr8, mk_gr9, mk_gr11, mk_gr13, mk_gr14, mk_gr15, mk_gr17, mk_gr18, mk_gr21, mk_gr24, mk_gr28, mk_gr30, mk_gr31, mk_gi0, mk_gi2, mk_gi3, mk_gi4, mk_gi7, mk_gi10, mk_gi12, mk_gi16, mk_gi19, mk_gi20, mk_gi22, mk_gi25, mk_gi26, mk_gi27, mk_gi29, mk_gi32, mk_pi0, mk_pi2, mk_pi3, mk_pi4, mk_pi7, mk_pi10, mk_pi12, mk_pi16, mk_pi19, mk_pi20, mk_pi22, mk_pi25, mk_pi26, mk_pi27, mk_pi29, mk_pi32, mk_ia1, mk_ia2, mk_ia3, mk_ia4, mk_ia5, mk_ia6, mk_ia7, mk_ia8, mk_ia9, mk_ia10, mk_ia11, mk_ia12, mk_ia13, mk_ia14, mk_ia15, mk_ia16, mk_is1, mk_is2, mk_is3, mk_is4, mk_is5, mk_is6, mk_is7, mk_is8, mk_is9, mk_is10, mk_is11, mk_is12, mk_is13, mk_is14, mk_is15, mk_is16, L0, L1, L2, L3, L4, L5, L6, L7, L8, L9, L10, L12, L20, L22, L24, L26, L27, L28, L32, L40, L60, L73, L95, L97, L222, L240, L441, L442, L622, Lm1, Lmh, L11, L13, L14, L15, L16, L17, L18, L19, L21, L23, L25, L30, L31, L33, L36, L39, L41, L44, L48, L53, L54, L55, L57, L58, L59, L91, L93, L98, L99, L100, L105, L106, L112, L114, L115, L119, L122, L160, L180, L200, L255, L1440, L24880, L63, Lm2, pX10_run, is, bI_t, Int.reduceEq, st, bI_f]
  · rw [if_neg (fun z => c ⟨z.1, z.2.1⟩)]
    rw [decide_eq_false c] at is
    refine ⟨m, ?_, hM⟩
    simp (disch := (first | assumption | (refine sm_of ?_ ?_ <;> omega) | omega)) only [iI_add, iI_sub, iI_mul, iI_neg, iI_lt, iI_le, iI_eq, b1_s, b2_s, ↓reduceIte, mk_v, mk_gl23, mk_pl23, mk_gr1, mk_gr5, mk_gr6, mk_gr8, mk_gr9, mk_gr11, mk_gr13, mk_gr14, mk_gr15, mk_gr17, mk_gr18, mk_gr21, mk_gr24, mk_gr28, mk_gr30, mk_gr31, mk_gi0, mk_gi2, mk_gi3, mk_gi4, mk_gi7, mk_gi10, mk_gi12, mk_gi16, mk_gi19, mk_gi20, mk_gi22, mk_gi25, mk_gi26, mk_gi27, mk_gi29, mk_gi32, mk_pi0, mk_pi2, mk_pi3, mk_pi4, mk_pi7, mk_pi10, mk_pi12, mk_pi16, mk_pi19, mk_pi20, mk_pi22, mk_pi25, mk_pi26, mk_pi27, mk_pi29, mk_pi32, mk_ia1, mk_ia2, mk_ia3, mk_ia4, mk_ia5, mk_ia6, mk_ia7, mk_ia8, mk_ia9, mk_ia10, mk_ia11, mk_ia12, mk_ia13, mk_ia14, mk_ia15, mk_ia16, mk_is1, mk_is2, mk_is3, mk_is4, mk_is5, mk_is6, mk_is7, mk_is8, mk_is9, mk_is10, mk_is11, mk_is12, mk_is13, mk_is14, mk_is15, mk_is16, L0, L1, L2, L3, L4, L5, L6, L7, L8, L9, L10, L12, L20, L22, L24, L26, L27, L28, L32, L40, L60, L73, L95, L97, L222, L240, L441, L442, L622, Lm1, Lmh, L11, L13, L14, L15, L16, L17, L18, L19, L21, L23, L25, L30, L31, L33, L36, L39, L41, L44, L48, L53, L54, L55, L57, L58, L59, L91, L93, L98, L99, L100, L105, L106, L112, L114, L115, L119, L122, L160, L180, L200, L255, L1440, L24880, L63, Lm2, pX10_run, is, bI_f]
theorem m_perform {n : Nat} (hn : 25000 ≤ n) {m : mS} {tp : List Int} {T : kT} {wd : List Int} {ps : List kT} {im : Option kT} {sc : List (List kS)} {rf : Nat → Int} (h : Mdl m tp T wd ps im sc rf) (hI : Inv T wd ps im sc) {B : Int} (hB0 : 0 ≤ B) (hB : B + 12 ≤ 5000000) (hb : bnd T B) {s : Nat} (hs : s < sc.length) (hne : T.1.length ≠ 0) (M : mm_M) (am : Nat) : ∃ m', pX10_perform n (mk M am m) am (iI s) = some (iI (perN T ps (sc.getD s [])).1, mk M am m') ∧ Mdl m' tp (perN T ps (sc.getD s [])).2.1 wd (perN T ps (sc.getD s [])).2.2 im sc rf := by
  have hM := h
  obtain ⟨g1, g2, g3, g4, g5, g6⟩ := h
  obtain ⟨a1, a2, a3, a4, a5, a6, a7⟩ := g2
  have l4 := g5.1
  have is := m_isSc (n := n) (M := M) (am := am) g5.1 g5.2.1 (x := s) (sm_k (by omega))
  rw [decide_eq_true (by omega)] at is
  have st := m_store (n := n) (M := M) (am := am) a1.1 a2.1
  rw [decide_eq_true (by omega)] at st
  have hZ := g5.2.2 s hs
  have oz := hI.2.2.2.2.2.2 s hs
  generalize sc.getD s [] = zs at *
  have z12 := hZ.1
  obtain ⟨m3, e3, t3, k3, f3⟩ := m_go1 hn (M := M) (am := am) (show s ≤ 4 by omega) oz n 0 m T ps B hZ a1 a2 g3 hB0 (by omega) hb (by omega) (by omega)
  rw [List.drop_zero, Nat.zero_add] at e3
  rw [List.drop_zero] at t3 k3
  have e3 : pX10_goSteps_l2 n n (mk M am m) am (iI s) (iI 1) (iI 0) = _ := e3
  obtain ⟨o1, o2, o3⟩ := perN_ok (T := T) (ps := ps) (zs := zs) oz (B := B) a2 hI.2.2.2.2.1 hne hB0 (by omega) hb
  refine ⟨m3, ?_, hM.act t3 o1 o2 k3 (fun j q => f3.2.1 j (by omega) (by omega) (by omega) (by omega) (by omega)) (fun x q => f3.2.2 x (by omega) (by omega) (by omega))⟩
  simp (disch := (first | assumption | (refine sm_of ?_ ?_ <;> omega) | omega)) only [iI_add, iI_sub, iI_mul, iI_neg, iI_lt, iI_le, iI_eq, b1_s, b2_s, ↓reduceIte, mk_v, mk_gl23, mk_pl23, mk_gr1, mk_gr5, mk_gr6, mk_gr8, mk_gr9, mk_gr11, mk_gr13, mk_gr14, mk_gr15, mk_gr17, mk_gr18, mk_gr21, mk_gr24, mk_gr28, mk_gr30, mk_gr31, mk_gi0, mk_gi2, mk_gi3, mk_gi4, mk_gi7, mk_gi10, mk_gi12, mk_gi16, mk_gi19, mk_gi20, mk_gi22, mk_gi25, mk_gi26, mk_gi27, mk_gi29, mk_gi32, mk_pi0, mk_pi2, mk_pi3, mk_pi4, mk_pi7, mk_pi10, mk_pi12, mk_pi16, mk_pi19, mk_pi20, mk_pi22, mk_pi25, mk_pi26, mk_pi27, mk_pi29, mk_pi32, mk_ia1, mk_ia2, mk_ia3, mk_ia4, mk_ia5, mk_ia6, mk_ia7, mk_ia8, mk_ia9, mk_ia10, mk_ia11, mk_ia12, mk_ia13, mk_ia14, mk_ia15, mk_ia16, mk_is1, mk_is2, mk_is3, mk_is4, mk_is5, mk_is6, mk_is7, mk_is8, mk_is9, mk_is10, mk_is11, mk_is12, mk_is13, mk_is14, mk_is15, mk_is16, L0, L1, L2, L3, L4, L5, L6, L7, L8, L9, L10, L12, L20, L22, L24, L26, L27, L28, L32, L40, L60, L73, L95, L97, L222, L240, L441, L442, L622, Lm1, Lmh, L11, L13, L14, L15, L16, L17, L18, L19, L21, L23, L25, L30, L31, L33, L36, L39, L41, L44, L48, L53, L54, L55, L57, L58, L59, L91, L93, L98, L99, L100, L105, L106, L112, L114, L115, L119, L122, L160, L180, L200, L255, L1440, L24880, L63, Lm2, pX10_perform, is, bI_t, Int.reduceEq, st, pX10_goSteps, e3]
theorem m_performF {n : Nat} {m : mS} {tp : List Int} {T : kT} {wd : List Int} {ps : List kT} {im : Option kT} {sc : List (List kS)} {rf : Nat → Int} (h : Mdl m tp T wd ps im sc rf) {x : Int} (hx : sm x) (hc : ¬ (0 ≤ x ∧ x < sc.length ∧ T.1.length ≠ 0)) (M : mm_M) (am : Nat) : pX10_perform n (mk M am m) am (iI x) = some (iI (-1), mk M am m) := by
  obtain ⟨g1, g2, g3, g4, g5, g6⟩ := h
  have is := m_isSc (n := n) (M := M) (am := am) g5.1 g5.2.1 hx
  have st := m_store (n := n) (M := M) (am := am) g2.1.1 g2.2.1.1
  by_cases c : 0 ≤ x ∧ x < sc.length
  · rw [decide_eq_true c] at is
    rw [decide_eq_false (fun z => hc ⟨c.1, c.2, by omega⟩)] at st
    simp (disch := (first | assumption | (refine sm_of ?_ ?_ <;> omega) | omega)) only [iI_add, iI_sub, iI_mul, iI_neg, iI_lt, iI_le, iI_eq, b1_s, b2_s, ↓reduceIte, mk_v, mk_gl23, mk_pl23, mk_gr1, mk_gr5, mk_gr6, mk_gr8, mk_gr9, mk_gr11, mk_gr13, mk_gr14, mk_gr15, mk_gr17, mk_gr18, mk_gr21, mk_gr24, mk_gr28, mk_gr30, mk_gr31, mk_gi0, mk_gi2, mk_gi3, mk_gi4, mk_gi7, mk_gi10, mk_gi12, mk_gi16, mk_gi19, mk_gi20, mk_gi22, mk_gi25, mk_gi26, mk_gi27, mk_gi29, mk_gi32, mk_pi0, mk_pi2, mk_pi3, mk_pi4, mk_pi7, mk_pi10, mk_pi12, mk_pi16, mk_pi19, mk_pi20, mk_pi22, mk_pi25, mk_pi26, mk_pi27, mk_pi29, mk_pi32, mk_ia1, mk_ia2, mk_ia3, mk_ia4, mk_ia5, mk_ia6, mk_ia7, mk_ia8, mk_ia9, mk_ia10, mk_ia11, mk_ia12, mk_ia13, mk_ia14, mk_ia15, mk_ia16, mk_is1, mk_is2, mk_is3, mk_is4, mk_is5, mk_is6, mk_is7, mk_is8, mk_is9, mk_is10, mk_is11, mk_is12, mk_is13, mk_is14, mk_is15, mk_is16, L0, L1, L2, L3, L4, L5, L6, L7, L8, L9, L10, L12, L20, L22, L24, L26, L27, L28, L32, L40, L60, L73, L95, L97, L222, L240, L441, L442, L622, Lm1, Lmh, L11, L13, L14, L15, L16, L17, L18, L19, L21, L23, L25, L30, L31, L33, L36, L39, L41, L44, L48, L53, L54, L55, L57, L58, L59, L91, L93, L98, L99, L100, L105, L106, L112, L114, L115, L119, L122, L160, L180, L200, L255, L1440, L24880, L63, Lm2, pX10_perform, is, bI_t, Int.reduceEq, st, bI_f]
  · rw [decide_eq_false c] at is
    simp (disch := (first | assumption | (refine sm_of ?_ ?_ <;> omega) | omega)) only [iI_add, iI_sub, iI_mul, iI_neg, iI_lt, iI_le, iI_eq, b1_s, b2_s, ↓reduceIte, mk_v, mk_gl23, mk_pl23, mk_gr1, mk_gr5, mk_gr6, mk_gr8, mk_gr9, mk_gr11, mk_gr13, mk_gr14, mk_gr15, mk_gr17, mk_gr18, mk_gr21, mk_gr24, mk_gr28, mk_gr30, mk_gr31, mk_gi0, mk_gi2, mk_gi3, mk_gi4, mk_gi7, mk_gi10, mk_gi12, mk_gi16, mk_gi19, mk_gi20, mk_gi22, mk_gi25, mk_gi26, mk_gi27, mk_gi29, mk_gi32, mk_pi0, mk_pi2, mk_pi3, mk_pi4, mk_pi7, mk_pi10, mk_pi12, mk_pi16, mk_pi19, mk_pi20, mk_pi22, mk_pi25, mk_pi26, mk_pi27, mk_pi29, mk_pi32, mk_ia1, mk_ia2, mk_ia3, mk_ia4, mk_ia5, mk_ia6, mk_ia7, mk_ia8, mk_ia9, mk_ia10, mk_ia11, mk_ia12, mk_ia13, mk_ia14, mk_ia15, mk_ia16, mk_is1, mk_is2, mk_is3, mk_is4, mk_is5, mk_is6, mk_is7, mk_is8, mk_is9, mk_is10, mk_is11, mk_is12, mk_is13, mk_is14, mk_is15, mk_is16, L0, L1, L2, L3, L4, L5, L6, L7, L8, L9, L10, L12, L20, L22, L24, L26, L27, L28, L32, L40, L60, L73, L95, L97, L222, L240, L441, L442, L622, Lm1, Lmh, L11, L13, L14, L15, L16, L17, L18, L19, L21, L23, L25, L30, L31, L33, L36, L39, L41, L44, L48, L53, L54, L55, L57, L58, L59, L91, L93, L98, L99, L100, L105, L106, L112, L114, L115, L119, L122, L160, L180, L200, L255, L1440, L24880, L63, Lm2, pX10_perform, is, bI_f]
theorem m_waysM {n : Nat} (hn : 25000 ≤ n) {nx : Int64 → Int64} {dn : Int64 → Nat → Nat} (hd : ∀ d c, 1 ≤ c → dn d c < c) (hm : ∀ (M : mm_M) (am : Nat) (m : mS) (c : Nat), 1 ≤ c → c ≤ 11 → pX10_draw n (mk M am m) am (iI c) = some (iI (dn (nx m.2) c), mk M am (m.1, nx m.2))) {m : mS} {tp : List Int} {T : kT} {wd : List Int} {ps : List kT} {im : Option kT} {sc : List (List kS)} {rf : Nat → Int} (h : Mdl m tp T wd ps im sc rf) (hI : Inv T wd ps im sc) {B : Int} (hB0 : 0 ≤ B) (hB : B + 40 ≤ 5000000) (hb : bnd T B) {c : Nat} (hc : 1 ≤ c ∧ c ≤ 40) (hne : T.1.length ≠ 0) (d : Int64) (M : mm_M) (am : Nat) : ∃ m', pX10_ways n (mk M am m) am (iI c) d = some (iI (allS (waysN nx dn c d T ps).1.1), mk M am m') ∧ Mdl m' tp (waysN nx dn c d T ps).1 wd (waysN nx dn c d T ps).2 im sc rf ∧ okT (waysN nx dn c d T ps).1 ∧ (waysN nx dn c d T ps).1.1.length ≠ 0 ∧ ∀ P ∈ (waysN nx dn c d T ps).2, okT P ∧ P.1.length ≠ 0 := by
  have hM := h
  obtain ⟨g1, g2, g3, g4, g5, g6⟩ := h
  obtain ⟨a1, a2, a3, a4, a5, a6, a7⟩ := g2
  have st := m_store (n := n) (M := M) (am := am) a1.1 a2.1
  rw [decide_eq_true (by omega)] at st
  have i1 := m_inT (n := n) (M := mk M am m) (a := c) (b := 1) (c := 40) (sm_k (by omega)) (sm_of (by omega) (by omega)) (sm_of (by omega) (by omega)) (by omega)
  obtain ⟨m3, e3, t3, k3, o1, o2, o3, f3⟩ := m_waysL hn hd hm (M := M) (am := am) hc.2 n 0 (m.1, d) T ps B a1 a2 hne hI.2.2.2.2.1 g3 hB0 (by omega) hb (by omega) (by omega)
  rw [Nat.sub_zero] at e3 t3 k3 o1 o2 o3
  have e3 : pX10_ways_l27 n n (mk M am (m.1, d)) am (iI c) (iI 0) = some (iI (allS (waysN nx dn c d T ps).1.1), mk M am m3) := e3
  refine ⟨m3, ?_, hM.act t3 o1 o2 k3 (fun j q => f3.1 j (by omega) (by omega) (by omega) (by omega) (by omega) (by omega)) (fun x q => f3.2 x (by omega) (by omega) (by omega)), o1, o2, o3⟩
  simp (disch := (first | assumption | (refine sm_of ?_ ?_ <;> omega) | omega)) only [iI_add, iI_sub, iI_mul, iI_neg, iI_lt, iI_le, iI_eq, b1_s, b2_s, ↓reduceIte, mk_v, mk_gl23, mk_pl23, mk_gr1, mk_gr5, mk_gr6, mk_gr8, mk_gr9, mk_gr11, mk_gr13, mk_gr14, mk_gr15, mk_gr17, mk_gr18, mk_gr21, mk_gr24, mk_gr28, mk_gr30, mk_gr31, mk_gi0, mk_gi2, mk_gi3, mk_gi4, mk_gi7, mk_gi10, mk_gi12, mk_gi16, mk_gi19, mk_gi20, mk_gi22, mk_gi25, mk_gi26, mk_gi27, mk_gi29, mk_gi32, mk_pi0, mk_pi2, mk_pi3, mk_pi4, mk_pi7, mk_pi10, mk_pi12, mk_pi16, mk_pi19, mk_pi20, mk_pi22, mk_pi25, mk_pi26, mk_pi27, mk_pi29, mk_pi32, mk_ia1, mk_ia2, mk_ia3, mk_ia4, mk_ia5, mk_ia6, mk_ia7, mk_ia8, mk_ia9, mk_ia10, mk_ia11, mk_ia12, mk_ia13, mk_ia14, mk_ia15, mk_ia16, mk_is1, mk_is2, mk_is3, mk_is4, mk_is5, mk_is6, mk_is7, mk_is8, mk_is9, mk_is10, mk_is11, mk_is12, mk_is13, mk_is14, mk_is15, mk_is16, L0, L1, L2, L3, L4, L5, L6, L7, L8, L9, L10, L12, L20, L22, L24, L26, L27, L28, L32, L40, L60, L73, L95, L97, L222, L240, L441, L442, L622, Lm1, Lmh, L11, L13, L14, L15, L16, L17, L18, L19, L21, L23, L25, L30, L31, L33, L36, L39, L41, L44, L48, L53, L54, L55, L57, L58, L59, L91, L93, L98, L99, L100, L105, L106, L112, L114, L115, L119, L122, L160, L180, L200, L255, L1440, L24880, L63, Lm2, pX10_ways, st, bI_t, Int.reduceEq, i1, e3]
theorem m_waysF {n : Nat} {m : mS} {T : kT} {wd : List Int} (h : Mq m T wd) {x : Int} (hx : sm x) (d : Int64) (hc : ¬ (T.1.length ≠ 0 ∧ 1 ≤ x ∧ x ≤ 40)) (M : mm_M) (am : Nat) : pX10_ways n (mk M am m) am (iI x) d = some (iI (-1), mk M am m) := by
  have st := m_store (n := n) (M := M) (am := am) h.1.1 h.2.1.1
  by_cases s0 : 0 < T.1.length
  · rw [decide_eq_true s0] at st
    have i1 := m_inF (n := n) (M := mk M am m) hx (sm_of (show -1000000000 ≤ (1 : Int) by omega) (by omega)) (sm_of (show -1000000000 ≤ (40 : Int) by omega) (by omega)) (fun z => hc ⟨by omega, z.1, z.2⟩)
    simp (disch := (first | assumption | (refine sm_of ?_ ?_ <;> omega) | omega)) only [iI_add, iI_sub, iI_mul, iI_neg, iI_lt, iI_le, iI_eq, b1_s, b2_s, ↓reduceIte, mk_v, mk_gl23, mk_pl23, mk_gr1, mk_gr5, mk_gr6, mk_gr8, mk_gr9, mk_gr11, mk_gr13, mk_gr14, mk_gr15, mk_gr17, mk_gr18, mk_gr21, mk_gr24, mk_gr28, mk_gr30, mk_gr31, mk_gi0, mk_gi2, mk_gi3, mk_gi4, mk_gi7, mk_gi10, mk_gi12, mk_gi16, mk_gi19, mk_gi20, mk_gi22, mk_gi25, mk_gi26, mk_gi27, mk_gi29, mk_gi32, mk_pi0, mk_pi2, mk_pi3, mk_pi4, mk_pi7, mk_pi10, mk_pi12, mk_pi16, mk_pi19, mk_pi20, mk_pi22, mk_pi25, mk_pi26, mk_pi27, mk_pi29, mk_pi32, mk_ia1, mk_ia2, mk_ia3, mk_ia4, mk_ia5, mk_ia6, mk_ia7, mk_ia8, mk_ia9, mk_ia10, mk_ia11, mk_ia12, mk_ia13, mk_ia14, mk_ia15, mk_ia16, mk_is1, mk_is2, mk_is3, mk_is4, mk_is5, mk_is6, mk_is7, mk_is8, mk_is9, mk_is10, mk_is11, mk_is12, mk_is13, mk_is14, mk_is15, mk_is16, L0, L1, L2, L3, L4, L5, L6, L7, L8, L9, L10, L12, L20, L22, L24, L26, L27, L28, L32, L40, L60, L73, L95, L97, L222, L240, L441, L442, L622, Lm1, Lmh, L11, L13, L14, L15, L16, L17, L18, L19, L21, L23, L25, L30, L31, L33, L36, L39, L41, L44, L48, L53, L54, L55, L57, L58, L59, L91, L93, L98, L99, L100, L105, L106, L112, L114, L115, L119, L122, L160, L180, L200, L255, L1440, L24880, L63, Lm2, pX10_ways, st, bI_t, Int.reduceEq, i1]
  · rw [decide_eq_false s0] at st
    simp (disch := (first | assumption | (refine sm_of ?_ ?_ <;> omega) | omega)) only [iI_add, iI_sub, iI_mul, iI_neg, iI_lt, iI_le, iI_eq, b1_s, b2_s, ↓reduceIte, mk_v, mk_gl23, mk_pl23, mk_gr1, mk_gr5, mk_gr6, mk_gr8, mk_gr9, mk_gr11, mk_gr13, mk_gr14, mk_gr15, mk_gr17, mk_gr18, mk_gr21, mk_gr24, mk_gr28, mk_gr30, mk_gr31, mk_gi0, mk_gi2, mk_gi3, mk_gi4, mk_gi7, mk_gi10, mk_gi12, mk_gi16, mk_gi19, mk_gi20, mk_gi22, mk_gi25, mk_gi26, mk_gi27, mk_gi29, mk_gi32, mk_pi0, mk_pi2, mk_pi3, mk_pi4, mk_pi7, mk_pi10, mk_pi12, mk_pi16, mk_pi19, mk_pi20, mk_pi22, mk_pi25, mk_pi26, mk_pi27, mk_pi29, mk_pi32, mk_ia1, mk_ia2, mk_ia3, mk_ia4, mk_ia5, mk_ia6, mk_ia7, mk_ia8, mk_ia9, mk_ia10, mk_ia11, mk_ia12, mk_ia13, mk_ia14, mk_ia15, mk_ia16, mk_is1, mk_is2, mk_is3, mk_is4, mk_is5, mk_is6, mk_is7, mk_is8, mk_is9, mk_is10, mk_is11, mk_is12, mk_is13, mk_is14, mk_is15, mk_is16, L0, L1, L2, L3, L4, L5, L6, L7, L8, L9, L10, L12, L20, L22, L24, L26, L27, L28, L32, L40, L60, L73, L95, L97, L222, L240, L441, L442, L622, Lm1, Lmh, L11, L13, L14, L15, L16, L17, L18, L19, L21, L23, L25, L30, L31, L33, L36, L39, L41, L44, L48, L53, L54, L55, L57, L58, L59, L91, L93, L98, L99, L100, L105, L106, L112, L114, L115, L119, L122, L160, L180, L200, L255, L1440, L24880, L63, Lm2, pX10_ways, st, bI_f]
