/-! the reference: the tape fed, cut, read -/
def by4 (x : Int32) : List Int := [(byt x 24 : Int), (byt x 16 : Int), (byt x 8 : Int), (byt x 0 : Int)]
def fd20 (x1 x2 x3 x4 x5 : Int32) : List Int := by4 x1 ++ (by4 x2 ++ (by4 x3 ++ (by4 x4 ++ by4 x5)))
theorem fd20_len (x1 x2 x3 x4 x5 : Int32) : (fd20 x1 x2 x3 x4 x5).length = 20 := rfl
def nz (x : Int) : Bool := decide (x ≠ 0)
theorem m_b45 {n : Nat} {M : mm_M} (w : Int32) {k : Nat} (hk : k < 20) : pX10_byteOf_b45 n M (iI k) w = some (iI (byt w (24 - 8 * (k % 4))), M) := by
  have r := iI_rem (a := (k : Int)) (b := 4) (by omega) (sm_k (by omega)) (by omega) (sm_of (by omega) (by omega))
  have e4 : ((4 : Int32) = 0) = False := by decide
  have b := byt_s w (k := 24 - 8 * (k % 4)) (by omega)
  simp only [pX10_byteOf_b45, e4, ↓reduceIte, L4, r, L8, L24, L31, L255, iI_mul, iI_sub]
  rw [show ((24 : Int) - 8 * ((k : Int) % 4)) = ((24 - 8 * (k % 4) : Nat) : Int) by omega, b, if_neg (by decide)]
theorem m_byteOf {n : Nat} {M : mm_M} (x1 x2 x3 x4 x5 : Int32) {k : Nat} (hk : k < 20) : pX10_byteOf n M x1 x2 x3 x4 x5 (iI k) = some (iI ((fd20 x1 x2 x3 x4 x5).getD k 0), M) := by
  have b := fun w => m_b45 (n := n) (M := M) w hk
  have key : (if 4 ≤ k then (if 8 ≤ k then (if 12 ≤ k then (if 16 ≤ k then byt x5 (24 - 8 * (k % 4)) else byt x4 (24 - 8 * (k % 4))) else byt x3 (24 - 8 * (k % 4))) else byt x2 (24 - 8 * (k % 4))) else byt x1 (24 - 8 * (k % 4)) : Nat) = ((fd20 x1 x2 x3 x4 x5).getD k 0) := by
    rcases (show k = 0 ∨ k = 1 ∨ k = 2 ∨ k = 3 ∨ k = 4 ∨ k = 5 ∨ k = 6 ∨ k = 7 ∨ k = 8 ∨ k = 9 ∨ k = 10 ∨ k = 11 ∨ k = 12 ∨ k = 13 ∨ k = 14 ∨ k = 15 ∨ k = 16 ∨ k = 17 ∨ k = 18 ∨ k = 19 by omega) with rfl | rfl | rfl | rfl | rfl | rfl | rfl | rfl | rfl | rfl | rfl | rfl | rfl | rfl | rfl | rfl | rfl | rfl | rfl | rfl <;> rfl
  rw [← key]
  by_cases c1 : 4 ≤ k
  · by_cases c2 : 8 ≤ k
    · by_cases c3 : 12 ≤ k
      · by_cases c4 : 16 ≤ k
        · simp (disch := (first | assumption | (refine sm_of ?_ ?_ <;> omega) | omega)) only [iI_add, iI_sub, iI_mul, iI_neg, iI_lt, iI_le, iI_eq, b1_s, b2_s, ↓reduceIte, mk_v, mk_gl23, mk_pl23, mk_gr1, mk_gr5, mk_gr6, mk_gr8, mk_gr9, mk_gr11, mk_gr13, mk_gr14, mk_gr15, mk_gr17, mk_gr18, mk_gr21, mk_gr24, mk_gr28, mk_gr30, mk_gr31, mk_gi0, mk_gi2, mk_gi3, mk_gi4, mk_gi7, mk_gi10, mk_gi12, mk_gi16, mk_gi19, mk_gi20, mk_gi22, mk_gi25, mk_gi26, mk_gi27, mk_gi29, mk_gi32, mk_pi0, mk_pi2, mk_pi3, mk_pi4, mk_pi7, mk_pi10, mk_pi12, mk_pi16, mk_pi19, mk_pi20, mk_pi22, mk_pi25, mk_pi26, mk_pi27, mk_pi29, mk_pi32, mk_ia1, mk_ia2, mk_ia3, mk_ia4, mk_ia5, mk_ia6, mk_ia7, mk_ia8, mk_ia9, mk_ia10, mk_ia11, mk_ia12, mk_ia13, mk_ia14, mk_ia15, mk_ia16, mk_is1, mk_is2, mk_is3, mk_is4, mk_is5, mk_is6, mk_is7, mk_is8, mk_is9, mk_is10, mk_is11, mk_is12, mk_is13, mk_is14, mk_is15, mk_is16, L0, L1, L2, L3, L4, L5, L6, L7, L8, L9, L10, L12, L20, L22, L24, L26, L27, L28, L32, L40, L60, L73, L95, L97, L222, L240, L441, L442, L622, Lm1, Lmh, L11, L13, L14, L15, L16, L17, L18, L19, L21, L23, L25, L30, L31, L33, L36, L39, L41, L44, L48, L53, L54, L55, L57, L58, L59, L91, L93, L98, L99, L100, L105, L106, L112, L114, L115, L119, L122, L160, L180, L200, L255, L1440, L24880, L63, Lm2, pX10_byteOf, show (4 : Int) ≤ k by omega, show (8 : Int) ≤ k by omega, show (12 : Int) ≤ k by omega, show (16 : Int) ≤ k by omega, b, c1, c2, c3, c4]
        · simp (disch := (first | assumption | (refine sm_of ?_ ?_ <;> omega) | omega)) only [iI_add, iI_sub, iI_mul, iI_neg, iI_lt, iI_le, iI_eq, b1_s, b2_s, ↓reduceIte, mk_v, mk_gl23, mk_pl23, mk_gr1, mk_gr5, mk_gr6, mk_gr8, mk_gr9, mk_gr11, mk_gr13, mk_gr14, mk_gr15, mk_gr17, mk_gr18, mk_gr21, mk_gr24, mk_gr28, mk_gr30, mk_gr31, mk_gi0, mk_gi2, mk_gi3, mk_gi4, mk_gi7, mk_gi10, mk_gi12, mk_gi16, mk_gi19, mk_gi20, mk_gi22, mk_gi25, mk_gi26, mk_gi27, mk_gi29, mk_gi32, mk_pi0, mk_pi2, mk_pi3, mk_pi4, mk_pi7, mk_pi10, mk_pi12, mk_pi16, mk_pi19, mk_pi20, mk_pi22, mk_pi25, mk_pi26, mk_pi27, mk_pi29, mk_pi32, mk_ia1, mk_ia2, mk_ia3, mk_ia4, mk_ia5, mk_ia6, mk_ia7, mk_ia8, mk_ia9, mk_ia10, mk_ia11, mk_ia12, mk_ia13, mk_ia14, mk_ia15, mk_ia16, mk_is1, mk_is2, mk_is3, mk_is4, mk_is5, mk_is6, mk_is7, mk_is8, mk_is9, mk_is10, mk_is11, mk_is12, mk_is13, mk_is14, mk_is15, mk_is16, L0, L1, L2, L3, L4, L5, L6, L7, L8, L9, L10, L12, L20, L22, L24, L26, L27, L28, L32, L40, L60, L73, L95, L97, L222, L240, L441, L442, L622, Lm1, Lmh, L11, L13, L14, L15, L16, L17, L18, L19, L21, L23, L25, L30, L31, L33, L36, L39, L41, L44, L48, L53, L54, L55, L57, L58, L59, L91, L93, L98, L99, L100, L105, L106, L112, L114, L115, L119, L122, L160, L180, L200, L255, L1440, L24880, L63, Lm2, pX10_byteOf, show (4 : Int) ≤ k by omega, show (8 : Int) ≤ k by omega, show (12 : Int) ≤ k by omega, show ¬ (16 : Int) ≤ k by omega, b, c1, c2, c3, c4]
      · simp (disch := (first | assumption | (refine sm_of ?_ ?_ <;> omega) | omega)) only [iI_add, iI_sub, iI_mul, iI_neg, iI_lt, iI_le, iI_eq, b1_s, b2_s, ↓reduceIte, mk_v, mk_gl23, mk_pl23, mk_gr1, mk_gr5, mk_gr6, mk_gr8, mk_gr9, mk_gr11, mk_gr13, mk_gr14, mk_gr15, mk_gr17, mk_gr18, mk_gr21, mk_gr24, mk_gr28, mk_gr30, mk_gr31, mk_gi0, mk_gi2, mk_gi3, mk_gi4, mk_gi7, mk_gi10, mk_gi12, mk_gi16, mk_gi19, mk_gi20, mk_gi22, mk_gi25, mk_gi26, mk_gi27, mk_gi29, mk_gi32, mk_pi0, mk_pi2, mk_pi3, mk_pi4, mk_pi7, mk_pi10, mk_pi12, mk_pi16, mk_pi19, mk_pi20, mk_pi22, mk_pi25, mk_pi26, mk_pi27, mk_pi29, mk_pi32, mk_ia1, mk_ia2, mk_ia3, mk_ia4, mk_ia5, mk_ia6, mk_ia7, mk_ia8, mk_ia9, mk_ia10, mk_ia11, mk_ia12, mk_ia13, mk_ia14, mk_ia15, mk_ia16, mk_is1, mk_is2, mk_is3, mk_is4, mk_is5, mk_is6, mk_is7, mk_is8, mk_is9, mk_is10, mk_is11, mk_is12, mk_is13, mk_is14, mk_is15, mk_is16, L0, L1, L2, L3, L4, L5, L6, L7, L8, L9, L10, L12, L20, L22, L24, L26, L27, L28, L32, L40, L60, L73, L95, L97, L222, L240, L441, L442, L622, Lm1, Lmh, L11, L13, L14, L15, L16, L17, L18, L19, L21, L23, L25, L30, L31, L33, L36, L39, L41, L44, L48, L53, L54, L55, L57, L58, L59, L91, L93, L98, L99, L100, L105, L106, L112, L114, L115, L119, L122, L160, L180, L200, L255, L1440, L24880, L63, Lm2, pX10_byteOf, show (4 : Int) ≤ k by omega, show (8 : Int) ≤ k by omega, show ¬ (12 : Int) ≤ k by omega, b, c1, c2, c3]
    · simp (disch := (first | assumption | (refine sm_of ?_ ?_ <;> omega) | omega)) only [iI_add, iI_sub, iI_mul, iI_neg, iI_lt, iI_le, iI_eq, b1_s, b2_s, ↓reduceIte, mk_v, mk_gl23, mk_pl23, mk_gr1, mk_gr5, mk_gr6, mk_gr8, mk_gr9, mk_gr11, mk_gr13, mk_gr14, mk_gr15, mk_gr17, mk_gr18, mk_gr21, mk_gr24, mk_gr28, mk_gr30, mk_gr31, mk_gi0, mk_gi2, mk_gi3, mk_gi4, mk_gi7, mk_gi10, mk_gi12, mk_gi16, mk_gi19, mk_gi20, mk_gi22, mk_gi25, mk_gi26, mk_gi27, mk_gi29, mk_gi32, mk_pi0, mk_pi2, mk_pi3, mk_pi4, mk_pi7, mk_pi10, mk_pi12, mk_pi16, mk_pi19, mk_pi20, mk_pi22, mk_pi25, mk_pi26, mk_pi27, mk_pi29, mk_pi32, mk_ia1, mk_ia2, mk_ia3, mk_ia4, mk_ia5, mk_ia6, mk_ia7, mk_ia8, mk_ia9, mk_ia10, mk_ia11, mk_ia12, mk_ia13, mk_ia14, mk_ia15, mk_ia16, mk_is1, mk_is2, mk_is3, mk_is4, mk_is5, mk_is6, mk_is7, mk_is8, mk_is9, mk_is10, mk_is11, mk_is12, mk_is13, mk_is14, mk_is15, mk_is16, L0, L1, L2, L3, L4, L5, L6, L7, L8, L9, L10, L12, L20, L22, L24, L26, L27, L28, L32, L40, L60, L73, L95, L97, L222, L240, L441, L442, L622, Lm1, Lmh, L11, L13, L14, L15, L16, L17, L18, L19, L21, L23, L25, L30, L31, L33, L36, L39, L41, L44, L48, L53, L54, L55, L57, L58, L59, L91, L93, L98, L99, L100, L105, L106, L112, L114, L115, L119, L122, L160, L180, L200, L255, L1440, L24880, L63, Lm2, pX10_byteOf, show (4 : Int) ≤ k by omega, show ¬ (8 : Int) ≤ k by omega, b, c1, c2]
  · simp (disch := (first | assumption | (refine sm_of ?_ ?_ <;> omega) | omega)) only [iI_add, iI_sub, iI_mul, iI_neg, iI_lt, iI_le, iI_eq, b1_s, b2_s, ↓reduceIte, mk_v, mk_gl23, mk_pl23, mk_gr1, mk_gr5, mk_gr6, mk_gr8, mk_gr9, mk_gr11, mk_gr13, mk_gr14, mk_gr15, mk_gr17, mk_gr18, mk_gr21, mk_gr24, mk_gr28, mk_gr30, mk_gr31, mk_gi0, mk_gi2, mk_gi3, mk_gi4, mk_gi7, mk_gi10, mk_gi12, mk_gi16, mk_gi19, mk_gi20, mk_gi22, mk_gi25, mk_gi26, mk_gi27, mk_gi29, mk_gi32, mk_pi0, mk_pi2, mk_pi3, mk_pi4, mk_pi7, mk_pi10, mk_pi12, mk_pi16, mk_pi19, mk_pi20, mk_pi22, mk_pi25, mk_pi26, mk_pi27, mk_pi29, mk_pi32, mk_ia1, mk_ia2, mk_ia3, mk_ia4, mk_ia5, mk_ia6, mk_ia7, mk_ia8, mk_ia9, mk_ia10, mk_ia11, mk_ia12, mk_ia13, mk_ia14, mk_ia15, mk_ia16, mk_is1, mk_is2, mk_is3, mk_is4, mk_is5, mk_is6, mk_is7, mk_is8, mk_is9, mk_is10, mk_is11, mk_is12, mk_is13, mk_is14, mk_is15, mk_is16, L0, L1, L2, L3, L4, L5, L6, L7, L8, L9, L10, L12, L20, L22, L24, L26, L27, L28, L32, L40, L60, L73, L95, L97, L222, L240, L441, L442, L622, Lm1, Lmh, L11, L13, L14, L15, L16, L17, L18, L19, L21, L23, L25, L30, L31, L33, L36, L39, L41, L44, L48, L53, L54, L55, L57, L58, L59, L91, L93, L98, L99, L100, L105, L106, L112, L114, L115, L119, L122, L160, L180, L200, L255, L1440, L24880, L63, Lm2, pX10_byteOf, show ¬ (4 : Int) ≤ k by omega, b, c1]
theorem by4_bd (x : Int32) : bd (by4 x) := by
  intro z hz
  have h1 := byt_lt x 24
  have h2 := byt_lt x 16
  have h3 := byt_lt x 8
  have h4 := byt_lt x 0
  simp only [by4, List.mem_cons, List.not_mem_nil, or_false] at hz
  rcases hz with h | h | h | h <;> (rw [h]; omega)
theorem bd_app {a b : List Int} (ha : bd a) (hb : bd b) : bd (a ++ b) := fun x hx => by
  rcases List.mem_append.mp hx with h | h
  · exact ha x h
  · exact hb x h
theorem fd20_bd (x1 x2 x3 x4 x5 : Int32) : bd (fd20 x1 x2 x3 x4 x5) := bd_app (by4_bd _) (bd_app (by4_bd _) (bd_app (by4_bd _) (bd_app (by4_bd _) (by4_bd _))))
theorem take_filt (L : List Int) {k : Nat} (hk : k < L.length) : (L.take (k + 1)).filter nz = (L.take k).filter nz ++ if L.getD k 0 = 0 then [] else [L.getD k 0] := by
  rw [List.take_add_one, List.getElem?_eq_getElem hk, List.filter_append, getD_of hk]
  congr 1
  by_cases c : L[k] = 0
  · simp [c, nz]
  · simp [c, nz]
def feedK (tp bs : List Int) : Int × List Int := if 240 < tp.length + bs.length then (-1, tp) else ((tp.length + bs.length : Nat), tp ++ bs)
theorem m_feed {n : Nat} (hn : 60 ≤ n) {m : mS} {tp : List Int} (h : Tm m tp) (x1 x2 x3 x4 x5 : Int32) (M : mm_M) (am : Nat) : ∃ m', pX10_feed n (mk M am m) am x1 x2 x3 x4 x5 = some (iI (feedK tp ((fd20 x1 x2 x3 x4 x5).filter nz)).1, mk M am m') ∧ Tm m' (feedK tp ((fd20 x1 x2 x3 x4 x5).filter nz)).2 ∧ m'.2 = m.2 ∧ (∀ j, j ≠ 0 → j ≠ 1 → m'.1 j = m.1 j) ∧ ∀ x, x ≠ 2 → m'.1 0 x = m.1 0 x := by
  obtain ⟨h1, h2, h3, h4⟩ := h
  have fb := fd20_bd x1 x2 x3 x4 x5
  have fl := fd20_len x1 x2 x3 x4 x5
  have bo : ∀ (m : mS) (k : Nat), k < 20 → pX10_byteOf n (mk M am m) x1 x2 x3 x4 x5 (iI k) = some (iI ((fd20 x1 x2 x3 x4 x5).getD k 0), mk M am m) := fun m k hk => m_byteOf x1 x2 x3 x4 x5 hk
  generalize fd20 x1 x2 x3 x4 x5 = F at *
  have fll : ∀ k, ((F.take k).filter nz).length ≤ 20 := fun k => Nat.le_trans (List.length_filter_le _ _) (by simp; omega)
  have l6 : ∀ (q k : Nat), k ≤ 20 → 20 < k + q → pX10_feed_l6 n q (mk M am m) am x1 x2 x3 x4 x5 (iI ((F.take k).filter nz).length) (iI k) = pX10_feed_b44 n (mk M am m) am x1 x2 x3 x4 x5 (iI (F.filter nz).length) := by
    intro q
    induction q with
    | zero => intro k a b; omega
    | succ q ih =>
      intro k k1 k2
      show pX10_feed_l6b n (pX10_feed_l6 n q) (mk M am m) am _ _ _ _ _ _ _ = _
      by_cases d : (20 : Int) ≤ k
      · simp (disch := (first | assumption | (refine sm_of ?_ ?_ <;> omega) | omega)) only [iI_add, iI_sub, iI_mul, iI_neg, iI_lt, iI_le, iI_eq, b1_s, b2_s, ↓reduceIte, mk_v, mk_gl23, mk_pl23, mk_gr1, mk_gr5, mk_gr6, mk_gr8, mk_gr9, mk_gr11, mk_gr13, mk_gr14, mk_gr15, mk_gr17, mk_gr18, mk_gr21, mk_gr24, mk_gr28, mk_gr30, mk_gr31, mk_gi0, mk_gi2, mk_gi3, mk_gi4, mk_gi7, mk_gi10, mk_gi12, mk_gi16, mk_gi19, mk_gi20, mk_gi22, mk_gi25, mk_gi26, mk_gi27, mk_gi29, mk_gi32, mk_pi0, mk_pi2, mk_pi3, mk_pi4, mk_pi7, mk_pi10, mk_pi12, mk_pi16, mk_pi19, mk_pi20, mk_pi22, mk_pi25, mk_pi26, mk_pi27, mk_pi29, mk_pi32, mk_ia1, mk_ia2, mk_ia3, mk_ia4, mk_ia5, mk_ia6, mk_ia7, mk_ia8, mk_ia9, mk_ia10, mk_ia11, mk_ia12, mk_ia13, mk_ia14, mk_ia15, mk_ia16, mk_is1, mk_is2, mk_is3, mk_is4, mk_is5, mk_is6, mk_is7, mk_is8, mk_is9, mk_is10, mk_is11, mk_is12, mk_is13, mk_is14, mk_is15, mk_is16, L0, L1, L2, L3, L4, L5, L6, L7, L8, L9, L10, L12, L20, L22, L24, L26, L27, L28, L32, L40, L60, L73, L95, L97, L222, L240, L441, L442, L622, Lm1, Lmh, L11, L13, L14, L15, L16, L17, L18, L19, L21, L23, L25, L30, L31, L33, L36, L39, L41, L44, L48, L53, L54, L55, L57, L58, L59, L91, L93, L98, L99, L100, L105, L106, L112, L114, L115, L119, L122, L160, L180, L200, L255, L1440, L24880, L63, Lm2, pX10_feed_l6b, d]
        rw [show k = F.length by omega, List.take_length]
      · have e := bo m k (by omega)
        have tf := take_filt F (k := k) (by omega)
        have bb := fb.get (i := k) (by omega)
        have i2 := ih (k + 1) (by omega) (by omega)
        have l0 := fll k
        by_cases g : F.getD k 0 = 0
        · rw [if_pos g, List.append_nil] at tf
          rw [tf] at i2
          simp (disch := (first | assumption | (refine sm_of ?_ ?_ <;> omega) | omega)) only [iI_add, iI_sub, iI_mul, iI_neg, iI_lt, iI_le, iI_eq, b1_s, b2_s, ↓reduceIte, mk_v, mk_gl23, mk_pl23, mk_gr1, mk_gr5, mk_gr6, mk_gr8, mk_gr9, mk_gr11, mk_gr13, mk_gr14, mk_gr15, mk_gr17, mk_gr18, mk_gr21, mk_gr24, mk_gr28, mk_gr30, mk_gr31, mk_gi0, mk_gi2, mk_gi3, mk_gi4, mk_gi7, mk_gi10, mk_gi12, mk_gi16, mk_gi19, mk_gi20, mk_gi22, mk_gi25, mk_gi26, mk_gi27, mk_gi29, mk_gi32, mk_pi0, mk_pi2, mk_pi3, mk_pi4, mk_pi7, mk_pi10, mk_pi12, mk_pi16, mk_pi19, mk_pi20, mk_pi22, mk_pi25, mk_pi26, mk_pi27, mk_pi29, mk_pi32, mk_ia1, mk_ia2, mk_ia3, mk_ia4, mk_ia5, mk_ia6, mk_ia7, mk_ia8, mk_ia9, mk_ia10, mk_ia11, mk_ia12, mk_ia13, mk_ia14, mk_ia15, mk_ia16, mk_is1, mk_is2, mk_is3, mk_is4, mk_is5, mk_is6, mk_is7, mk_is8, mk_is9, mk_is10, mk_is11, mk_is12, mk_is13, mk_is14, mk_is15, mk_is16, L0, L1, L2, L3, L4, L5, L6, L7, L8, L9, L10, L12, L20, L22, L24, L26, L27, L28, L32, L40, L60, L73, L95, L97, L222, L240, L441, L442, L622, Lm1, Lmh, L11, L13, L14, L15, L16, L17, L18, L19, L21, L23, L25, L30, L31, L33, L36, L39, L41, L44, L48, L53, L54, L55, L57, L58, L59, L91, L93, L98, L99, L100, L105, L106, L112, L114, L115, L119, L122, L160, L180, L200, L255, L1440, L24880, L63, Lm2, pX10_feed_l6b, d, e, g, Int.add_zero]
          rw [show ((k : Int) + 1) = ((k + 1 : Nat) : Int) by omega]
          exact i2
        · rw [if_neg g] at tf
          rw [tf, List.length_append] at i2
          simp (disch := (first | assumption | (refine sm_of ?_ ?_ <;> omega) | omega)) only [iI_add, iI_sub, iI_mul, iI_neg, iI_lt, iI_le, iI_eq, b1_s, b2_s, ↓reduceIte, mk_v, mk_gl23, mk_pl23, mk_gr1, mk_gr5, mk_gr6, mk_gr8, mk_gr9, mk_gr11, mk_gr13, mk_gr14, mk_gr15, mk_gr17, mk_gr18, mk_gr21, mk_gr24, mk_gr28, mk_gr30, mk_gr31, mk_gi0, mk_gi2, mk_gi3, mk_gi4, mk_gi7, mk_gi10, mk_gi12, mk_gi16, mk_gi19, mk_gi20, mk_gi22, mk_gi25, mk_gi26, mk_gi27, mk_gi29, mk_gi32, mk_pi0, mk_pi2, mk_pi3, mk_pi4, mk_pi7, mk_pi10, mk_pi12, mk_pi16, mk_pi19, mk_pi20, mk_pi22, mk_pi25, mk_pi26, mk_pi27, mk_pi29, mk_pi32, mk_ia1, mk_ia2, mk_ia3, mk_ia4, mk_ia5, mk_ia6, mk_ia7, mk_ia8, mk_ia9, mk_ia10, mk_ia11, mk_ia12, mk_ia13, mk_ia14, mk_ia15, mk_ia16, mk_is1, mk_is2, mk_is3, mk_is4, mk_is5, mk_is6, mk_is7, mk_is8, mk_is9, mk_is10, mk_is11, mk_is12, mk_is13, mk_is14, mk_is15, mk_is16, L0, L1, L2, L3, L4, L5, L6, L7, L8, L9, L10, L12, L20, L22, L24, L26, L27, L28, L32, L40, L60, L73, L95, L97, L222, L240, L441, L442, L622, Lm1, Lmh, L11, L13, L14, L15, L16, L17, L18, L19, L21, L23, L25, L30, L31, L33, L36, L39, L41, L44, L48, L53, L54, L55, L57, L58, L59, L91, L93, L98, L99, L100, L105, L106, L112, L114, L115, L119, L122, L160, L180, L200, L255, L1440, L24880, L63, Lm2, pX10_feed_l6b, d, e, g]
          rw [show ((k : Int) + 1) = ((k + 1 : Nat) : Int) by omega, show ((((F.take k).filter nz).length : Int) + 1) = ((((F.take k).filter nz).length + [F.getD k 0].length : Nat) : Int) by simp]
          exact i2
  have l62 : ∀ (q k : Nat) (m' : mS), k ≤ 20 → 20 < k + q → tp.length + (F.filter nz).length ≤ 240 → Tm m' (tp ++ (F.take k).filter nz) → ∃ m2, pX10_feed_l62 n q (mk M am m') am x1 x2 x3 x4 x5 (iI k) = some (iI ((tp.length + (F.filter nz).length : Nat) : Int), mk M am m2) ∧ Tm m2 (tp ++ F.filter nz) ∧ m2.2 = m'.2 ∧ (∀ j, j ≠ 0 → j ≠ 1 → m2.1 j = m'.1 j) ∧ ∀ x, x ≠ 2 → m2.1 0 x = m'.1 0 x := by
    intro q
    induction q with
    | zero => intro k m' a b; omega
    | succ q ih =>
      intro k m' k1 k2 hle hT
      show ∃ m2, pX10_feed_l62b n (pX10_feed_l62 n q) (mk M am m') am _ _ _ _ _ _ = _ ∧ _
      obtain ⟨t1, t2, t3, t4⟩ := hT
      by_cases d : (20 : Int) ≤ k
      · have e : (F.take k).filter nz = F.filter nz := by rw [show k = F.length by omega, List.take_length]
        rw [e] at t1 t2 t3 t4
        refine ⟨m', ?_, ⟨t1, t2, t3, t4⟩, rfl, fun _ _ _ => rfl, fun _ _ => rfl⟩
        simp (disch := (first | assumption | (refine sm_of ?_ ?_ <;> omega) | omega)) only [iI_add, iI_sub, iI_mul, iI_neg, iI_lt, iI_le, iI_eq, b1_s, b2_s, ↓reduceIte, mk_v, mk_gl23, mk_pl23, mk_gr1, mk_gr5, mk_gr6, mk_gr8, mk_gr9, mk_gr11, mk_gr13, mk_gr14, mk_gr15, mk_gr17, mk_gr18, mk_gr21, mk_gr24, mk_gr28, mk_gr30, mk_gr31, mk_gi0, mk_gi2, mk_gi3, mk_gi4, mk_gi7, mk_gi10, mk_gi12, mk_gi16, mk_gi19, mk_gi20, mk_gi22, mk_gi25, mk_gi26, mk_gi27, mk_gi29, mk_gi32, mk_pi0, mk_pi2, mk_pi3, mk_pi4, mk_pi7, mk_pi10, mk_pi12, mk_pi16, mk_pi19, mk_pi20, mk_pi22, mk_pi25, mk_pi26, mk_pi27, mk_pi29, mk_pi32, mk_ia1, mk_ia2, mk_ia3, mk_ia4, mk_ia5, mk_ia6, mk_ia7, mk_ia8, mk_ia9, mk_ia10, mk_ia11, mk_ia12, mk_ia13, mk_ia14, mk_ia15, mk_ia16, mk_is1, mk_is2, mk_is3, mk_is4, mk_is5, mk_is6, mk_is7, mk_is8, mk_is9, mk_is10, mk_is11, mk_is12, mk_is13, mk_is14, mk_is15, mk_is16, L0, L1, L2, L3, L4, L5, L6, L7, L8, L9, L10, L12, L20, L22, L24, L26, L27, L28, L32, L40, L60, L73, L95, L97, L222, L240, L441, L442, L622, Lm1, Lmh, L11, L13, L14, L15, L16, L17, L18, L19, L21, L23, L25, L30, L31, L33, L36, L39, L41, L44, L48, L53, L54, L55, L57, L58, L59, L91, L93, L98, L99, L100, L105, L106, L112, L114, L115, L119, L122, L160, L180, L200, L255, L1440, L24880, L63, Lm2, pX10_feed_l62b, d, t3]
        rw [List.length_append]
      · have e := bo m' k (by omega)
        have tf := take_filt F (k := k) (by omega)
        have bb := fb.get (i := k) (by omega)
        by_cases g : F.getD k 0 = 0
        · rw [if_pos g, List.append_nil] at tf
          obtain ⟨m2, i2, r2⟩ := ih (k + 1) m' (by omega) (by omega) hle (by rw [tf]; exact ⟨t1, t2, t3, t4⟩)
          refine ⟨m2, ?_, r2⟩
          simp (disch := (first | assumption | (refine sm_of ?_ ?_ <;> omega) | omega)) only [iI_add, iI_sub, iI_mul, iI_neg, iI_lt, iI_le, iI_eq, b1_s, b2_s, ↓reduceIte, mk_v, mk_gl23, mk_pl23, mk_gr1, mk_gr5, mk_gr6, mk_gr8, mk_gr9, mk_gr11, mk_gr13, mk_gr14, mk_gr15, mk_gr17, mk_gr18, mk_gr21, mk_gr24, mk_gr28, mk_gr30, mk_gr31, mk_gi0, mk_gi2, mk_gi3, mk_gi4, mk_gi7, mk_gi10, mk_gi12, mk_gi16, mk_gi19, mk_gi20, mk_gi22, mk_gi25, mk_gi26, mk_gi27, mk_gi29, mk_gi32, mk_pi0, mk_pi2, mk_pi3, mk_pi4, mk_pi7, mk_pi10, mk_pi12, mk_pi16, mk_pi19, mk_pi20, mk_pi22, mk_pi25, mk_pi26, mk_pi27, mk_pi29, mk_pi32, mk_ia1, mk_ia2, mk_ia3, mk_ia4, mk_ia5, mk_ia6, mk_ia7, mk_ia8, mk_ia9, mk_ia10, mk_ia11, mk_ia12, mk_ia13, mk_ia14, mk_ia15, mk_ia16, mk_is1, mk_is2, mk_is3, mk_is4, mk_is5, mk_is6, mk_is7, mk_is8, mk_is9, mk_is10, mk_is11, mk_is12, mk_is13, mk_is14, mk_is15, mk_is16, L0, L1, L2, L3, L4, L5, L6, L7, L8, L9, L10, L12, L20, L22, L24, L26, L27, L28, L32, L40, L60, L73, L95, L97, L222, L240, L441, L442, L622, Lm1, Lmh, L11, L13, L14, L15, L16, L17, L18, L19, L21, L23, L25, L30, L31, L33, L36, L39, L41, L44, L48, L53, L54, L55, L57, L58, L59, L91, L93, L98, L99, L100, L105, L106, L112, L114, L115, L119, L122, L160, L180, L200, L255, L1440, L24880, L63, Lm2, pX10_feed_l62b, d, e, g]
          rw [show ((k : Int) + 1) = ((k + 1 : Nat) : Int) by omega]
          exact i2
        · rw [if_neg g] at tf
          have mono : ((F.take (k + 1)).filter nz).length ≤ (F.filter nz).length := by
            have : F.filter nz = (F.take (k + 1)).filter nz ++ (F.drop (k + 1)).filter nz := by rw [← List.filter_append, List.take_append_drop]
            rw [this, List.length_append]; omega
          rw [tf, List.length_append] at mono
          simp at mono
          rw [List.length_append] at t3
          have t3' := t3
          generalize hA : (F.take k).filter nz = A at *
          have tl : tp.length + A.length < 240 := by omega
          obtain ⟨m2, i2, r2, r3, r4, r5⟩ := ih (k + 1) (setA (setA m' 1 (upI (m'.1 1) (tp.length + A.length : Nat) (F.getD k 0))) 0 (upI (m'.1 0) 2 ((tp.length + A.length : Nat) + 1))) (by omega) (by omega) hle (by
            rw [tf]
            refine ⟨by simp; omega, ?_, ?_, fun i hi => ?_⟩
            · intro x hx
              rw [← List.append_assoc] at hx
              rcases List.mem_append.mp hx with hx | hx
              · exact t2 x hx
              · rw [List.mem_singleton.mp hx]; exact bb
            · rw [setA_e, upI_e]; simp; omega
            · rw [setA_n _ _ (by decide), setA_e]
              rw [← List.append_assoc] at hi ⊢
              simp at hi
              by_cases z : i = tp.length + A.length
              · rw [z, upI_e]; simp
              · rw [upI_n _ _ (by omega), t4 i (by simp; omega), List.getD_eq_getElem?_getD, List.getD_eq_getElem?_getD, List.getElem?_append_left (show i < (tp ++ A).length by simp; omega)])
          refine ⟨m2, ?_, r2, r3, fun j j0 j1 => by rw [r4 j j0 j1, setA_n _ _ j0, setA_n _ _ j1], fun x x2 => by rw [r5 x x2, setA_e, upI_n _ _ x2]⟩
          simp (disch := (first | assumption | (refine sm_of ?_ ?_ <;> omega) | omega)) only [iI_add, iI_sub, iI_mul, iI_neg, iI_lt, iI_le, iI_eq, b1_s, b2_s, ↓reduceIte, mk_v, mk_gl23, mk_pl23, mk_gr1, mk_gr5, mk_gr6, mk_gr8, mk_gr9, mk_gr11, mk_gr13, mk_gr14, mk_gr15, mk_gr17, mk_gr18, mk_gr21, mk_gr24, mk_gr28, mk_gr30, mk_gr31, mk_gi0, mk_gi2, mk_gi3, mk_gi4, mk_gi7, mk_gi10, mk_gi12, mk_gi16, mk_gi19, mk_gi20, mk_gi22, mk_gi25, mk_gi26, mk_gi27, mk_gi29, mk_gi32, mk_pi0, mk_pi2, mk_pi3, mk_pi4, mk_pi7, mk_pi10, mk_pi12, mk_pi16, mk_pi19, mk_pi20, mk_pi22, mk_pi25, mk_pi26, mk_pi27, mk_pi29, mk_pi32, mk_ia1, mk_ia2, mk_ia3, mk_ia4, mk_ia5, mk_ia6, mk_ia7, mk_ia8, mk_ia9, mk_ia10, mk_ia11, mk_ia12, mk_ia13, mk_ia14, mk_ia15, mk_ia16, mk_is1, mk_is2, mk_is3, mk_is4, mk_is5, mk_is6, mk_is7, mk_is8, mk_is9, mk_is10, mk_is11, mk_is12, mk_is13, mk_is14, mk_is15, mk_is16, L0, L1, L2, L3, L4, L5, L6, L7, L8, L9, L10, L12, L20, L22, L24, L26, L27, L28, L32, L40, L60, L73, L95, L97, L222, L240, L441, L442, L622, Lm1, Lmh, L11, L13, L14, L15, L16, L17, L18, L19, L21, L23, L25, L30, L31, L33, L36, L39, L41, L44, L48, L53, L54, L55, L57, L58, L59, L91, L93, L98, L99, L100, L105, L106, L112, L114, L115, L119, L122, L160, L180, L200, L255, L1440, L24880, L63, Lm2, pX10_feed_l62b, d, e, g, t3', setA_n]
          rw [show ((k : Int) + 1) = ((k + 1 : Nat) : Int) by omega]
          exact i2
  have e6 := l6 n 0 (by omega) (by omega)
  have e6 : pX10_feed_l6 n n (mk M am m) am x1 x2 x3 x4 x5 (iI 0) (iI 0) = _ := e6
  have lb : (F.filter nz).length ≤ 20 := Nat.le_trans (List.length_filter_le _ _) (by omega)
  unfold feedK
  by_cases c : 240 < tp.length + (F.filter nz).length
  · rw [if_pos c]
    refine ⟨m, ?_, ⟨h1, h2, h3, h4⟩, rfl, fun _ _ _ => rfl, fun _ _ => rfl⟩
    simp (disch := (first | assumption | (refine sm_of ?_ ?_ <;> omega) | omega)) only [iI_add, iI_sub, iI_mul, iI_neg, iI_lt, iI_le, iI_eq, b1_s, b2_s, ↓reduceIte, mk_v, mk_gl23, mk_pl23, mk_gr1, mk_gr5, mk_gr6, mk_gr8, mk_gr9, mk_gr11, mk_gr13, mk_gr14, mk_gr15, mk_gr17, mk_gr18, mk_gr21, mk_gr24, mk_gr28, mk_gr30, mk_gr31, mk_gi0, mk_gi2, mk_gi3, mk_gi4, mk_gi7, mk_gi10, mk_gi12, mk_gi16, mk_gi19, mk_gi20, mk_gi22, mk_gi25, mk_gi26, mk_gi27, mk_gi29, mk_gi32, mk_pi0, mk_pi2, mk_pi3, mk_pi4, mk_pi7, mk_pi10, mk_pi12, mk_pi16, mk_pi19, mk_pi20, mk_pi22, mk_pi25, mk_pi26, mk_pi27, mk_pi29, mk_pi32, mk_ia1, mk_ia2, mk_ia3, mk_ia4, mk_ia5, mk_ia6, mk_ia7, mk_ia8, mk_ia9, mk_ia10, mk_ia11, mk_ia12, mk_ia13, mk_ia14, mk_ia15, mk_ia16, mk_is1, mk_is2, mk_is3, mk_is4, mk_is5, mk_is6, mk_is7, mk_is8, mk_is9, mk_is10, mk_is11, mk_is12, mk_is13, mk_is14, mk_is15, mk_is16, L0, L1, L2, L3, L4, L5, L6, L7, L8, L9, L10, L12, L20, L22, L24, L26, L27, L28, L32, L40, L60, L73, L95, L97, L222, L240, L441, L442, L622, Lm1, Lmh, L11, L13, L14, L15, L16, L17, L18, L19, L21, L23, L25, L30, L31, L33, L36, L39, L41, L44, L48, L53, L54, L55, L57, L58, L59, L91, L93, L98, L99, L100, L105, L106, L112, L114, L115, L119, L122, L160, L180, L200, L255, L1440, L24880, L63, Lm2, pX10_feed, e6, pX10_feed_b44, h3, show ¬ (tp.length : Int) + (F.filter nz).length ≤ 240 by omega]
  · rw [if_neg c]
    obtain ⟨m2, e2, r2⟩ := l62 n 0 m (by omega) (by omega) (by omega) (by simpa using ⟨h1, h2, h3, h4⟩)
    refine ⟨m2, ?_, r2⟩
    simp (disch := (first | assumption | (refine sm_of ?_ ?_ <;> omega) | omega)) only [iI_add, iI_sub, iI_mul, iI_neg, iI_lt, iI_le, iI_eq, b1_s, b2_s, ↓reduceIte, mk_v, mk_gl23, mk_pl23, mk_gr1, mk_gr5, mk_gr6, mk_gr8, mk_gr9, mk_gr11, mk_gr13, mk_gr14, mk_gr15, mk_gr17, mk_gr18, mk_gr21, mk_gr24, mk_gr28, mk_gr30, mk_gr31, mk_gi0, mk_gi2, mk_gi3, mk_gi4, mk_gi7, mk_gi10, mk_gi12, mk_gi16, mk_gi19, mk_gi20, mk_gi22, mk_gi25, mk_gi26, mk_gi27, mk_gi29, mk_gi32, mk_pi0, mk_pi2, mk_pi3, mk_pi4, mk_pi7, mk_pi10, mk_pi12, mk_pi16, mk_pi19, mk_pi20, mk_pi22, mk_pi25, mk_pi26, mk_pi27, mk_pi29, mk_pi32, mk_ia1, mk_ia2, mk_ia3, mk_ia4, mk_ia5, mk_ia6, mk_ia7, mk_ia8, mk_ia9, mk_ia10, mk_ia11, mk_ia12, mk_ia13, mk_ia14, mk_ia15, mk_ia16, mk_is1, mk_is2, mk_is3, mk_is4, mk_is5, mk_is6, mk_is7, mk_is8, mk_is9, mk_is10, mk_is11, mk_is12, mk_is13, mk_is14, mk_is15, mk_is16, L0, L1, L2, L3, L4, L5, L6, L7, L8, L9, L10, L12, L20, L22, L24, L26, L27, L28, L32, L40, L60, L73, L95, L97, L222, L240, L441, L442, L622, Lm1, Lmh, L11, L13, L14, L15, L16, L17, L18, L19, L21, L23, L25, L30, L31, L33, L36, L39, L41, L44, L48, L53, L54, L55, L57, L58, L59, L91, L93, L98, L99, L100, L105, L106, L112, L114, L115, L119, L122, L160, L180, L200, L255, L1440, L24880, L63, Lm2, pX10_feed, e6, pX10_feed_b44, h3, show (tp.length : Int) + (F.filter nz).length ≤ 240 by omega]
    exact e2
theorem Tm_take {m : mS} {tp : List Int} (h : Tm m tp) {k : Nat} (hk : k ≤ tp.length) : Tm (setA m 0 (upI (m.1 0) 2 k)) (tp.take k) := by
  obtain ⟨h1, h2, h3, h4⟩ := h
  refine ⟨by simp; omega, fun x hx => h2 x (List.mem_of_mem_take hx), by rw [setA_e, upI_e]; simp; omega, fun i hi => ?_⟩
  simp at hi
  rw [setA_n _ _ (by decide), h4 i (by omega), List.getD_eq_getElem?_getD, List.getD_eq_getElem?_getD, List.getElem?_take, if_pos (by omega)]
theorem m_end {n : Nat} {m : mS} {tp : List Int} (h : Tm m tp) {x : Int} (hx : sm x) (M : mm_M) (am : Nat) : ∃ m', pX10_end n (mk M am m) am (iI x) = some (bI (decide (0 ≤ x ∧ x ≤ tp.length)), mk M am m') ∧ Tm m' (if 0 ≤ x ∧ x ≤ tp.length then tp.take x.toNat else tp) ∧ (∀ j, j ≠ 0 → m'.1 j = m.1 j) ∧ ∀ x, x ≠ 2 → m'.1 0 x = m.1 0 x := by
  have h3 := h.2.2.1
  have l := h.1
  by_cases c : 0 ≤ x ∧ x ≤ tp.length
  · obtain ⟨k, rfl⟩ := Int.eq_ofNat_of_zero_le c.1
    have i1 := m_inT (n := n) (M := mk M am m) hx (sm_of (show -1000000000 ≤ (0 : Int) by omega) (by omega)) (sm_of (show -1000000000 ≤ (tp.length : Int) by omega) (by omega)) c
    refine ⟨setA m 0 (upI (m.1 0) 2 k), ?_, by rw [if_pos c, Int.toNat_natCast]; exact Tm_take h (by omega), fun j j0 => setA_n _ _ j0, fun x x2 => by rw [setA_e, upI_n _ _ x2]⟩
    rw [decide_eq_true c]
    simp (disch := (first | assumption | (refine sm_of ?_ ?_ <;> omega) | omega)) only [iI_add, iI_sub, iI_mul, iI_neg, iI_lt, iI_le, iI_eq, b1_s, b2_s, ↓reduceIte, mk_v, mk_gl23, mk_pl23, mk_gr1, mk_gr5, mk_gr6, mk_gr8, mk_gr9, mk_gr11, mk_gr13, mk_gr14, mk_gr15, mk_gr17, mk_gr18, mk_gr21, mk_gr24, mk_gr28, mk_gr30, mk_gr31, mk_gi0, mk_gi2, mk_gi3, mk_gi4, mk_gi7, mk_gi10, mk_gi12, mk_gi16, mk_gi19, mk_gi20, mk_gi22, mk_gi25, mk_gi26, mk_gi27, mk_gi29, mk_gi32, mk_pi0, mk_pi2, mk_pi3, mk_pi4, mk_pi7, mk_pi10, mk_pi12, mk_pi16, mk_pi19, mk_pi20, mk_pi22, mk_pi25, mk_pi26, mk_pi27, mk_pi29, mk_pi32, mk_ia1, mk_ia2, mk_ia3, mk_ia4, mk_ia5, mk_ia6, mk_ia7, mk_ia8, mk_ia9, mk_ia10, mk_ia11, mk_ia12, mk_ia13, mk_ia14, mk_ia15, mk_ia16, mk_is1, mk_is2, mk_is3, mk_is4, mk_is5, mk_is6, mk_is7, mk_is8, mk_is9, mk_is10, mk_is11, mk_is12, mk_is13, mk_is14, mk_is15, mk_is16, L0, L1, L2, L3, L4, L5, L6, L7, L8, L9, L10, L12, L20, L22, L24, L26, L27, L28, L32, L40, L60, L73, L95, L97, L222, L240, L441, L442, L622, Lm1, Lmh, L11, L13, L14, L15, L16, L17, L18, L19, L21, L23, L25, L30, L31, L33, L36, L39, L41, L44, L48, L53, L54, L55, L57, L58, L59, L91, L93, L98, L99, L100, L105, L106, L112, L114, L115, L119, L122, L160, L180, L200, L255, L1440, L24880, L63, Lm2, pX10_end, h3, i1, Int.reduceEq]
    rfl
  · have i1 := m_inF (n := n) (M := mk M am m) hx (sm_of (show -1000000000 ≤ (0 : Int) by omega) (by omega)) (sm_of (show -1000000000 ≤ (tp.length : Int) by omega) (by omega)) c
    refine ⟨m, ?_, by rw [if_neg c]; exact h, fun _ _ => rfl, fun _ _ => rfl⟩
    rw [decide_eq_false c]
    simp (disch := (first | assumption | (refine sm_of ?_ ?_ <;> omega) | omega)) only [iI_add, iI_sub, iI_mul, iI_neg, iI_lt, iI_le, iI_eq, b1_s, b2_s, ↓reduceIte, mk_v, mk_gl23, mk_pl23, mk_gr1, mk_gr5, mk_gr6, mk_gr8, mk_gr9, mk_gr11, mk_gr13, mk_gr14, mk_gr15, mk_gr17, mk_gr18, mk_gr21, mk_gr24, mk_gr28, mk_gr30, mk_gr31, mk_gi0, mk_gi2, mk_gi3, mk_gi4, mk_gi7, mk_gi10, mk_gi12, mk_gi16, mk_gi19, mk_gi20, mk_gi22, mk_gi25, mk_gi26, mk_gi27, mk_gi29, mk_gi32, mk_pi0, mk_pi2, mk_pi3, mk_pi4, mk_pi7, mk_pi10, mk_pi12, mk_pi16, mk_pi19, mk_pi20, mk_pi22, mk_pi25, mk_pi26, mk_pi27, mk_pi29, mk_pi32, mk_ia1, mk_ia2, mk_ia3, mk_ia4, mk_ia5, mk_ia6, mk_ia7, mk_ia8, mk_ia9, mk_ia10, mk_ia11, mk_ia12, mk_ia13, mk_ia14, mk_ia15, mk_ia16, mk_is1, mk_is2, mk_is3, mk_is4, mk_is5, mk_is6, mk_is7, mk_is8, mk_is9, mk_is10, mk_is11, mk_is12, mk_is13, mk_is14, mk_is15, mk_is16, L0, L1, L2, L3, L4, L5, L6, L7, L8, L9, L10, L12, L20, L22, L24, L26, L27, L28, L32, L40, L60, L73, L95, L97, L222, L240, L441, L442, L622, Lm1, Lmh, L11, L13, L14, L15, L16, L17, L18, L19, L21, L23, L25, L30, L31, L33, L36, L39, L41, L44, L48, L53, L54, L55, L57, L58, L59, L91, L93, L98, L99, L100, L105, L106, L112, L114, L115, L119, L122, L160, L180, L200, L255, L1440, L24880, L63, Lm2, pX10_end, h3, i1]
    rfl
/-- the tape alone changes -/
theorem Mdl.tp {m m' : mS} {tp tp' : List Int} {T : kT} {wd : List Int} {ps : List kT} {im : Option kT} {sc : List (List kS)} {rf : Nat → Int} (h : Mdl m tp T wd ps im sc rf) (ht : Tm m' tp') (g1 : ∀ j, (j = 4 ∨ j = 5 ∨ j = 7 ∨ j = 8 ∨ j = 9 ∨ j = 12 ∨ j = 16) → m'.1 j = m.1 j) (g2 : ∀ x, (x = 10 ∨ x = 16 ∨ x = 22 ∨ x = 32) → m'.1 0 x = m.1 0 x) : Mdl m' tp' T wd ps im sc rf := by
  obtain ⟨h1, h2, h3, h4, h5, h6⟩ := h
  refine ⟨ht, ?_, h3.cg (g2 22 (by omega)) (g1 12 (by omega)), ⟨by rw [g2 32 (by omega)]; exact h4.1, by rw [g1 16 (by omega)]; exact h4.2⟩, ⟨h5.1, by rw [g2 10 (by omega)]; exact h5.2.1, fun k hk => (h5.2.2 k hk).cg (g1 4 (by omega)) (g1 5 (by omega))⟩, by rw [g1 8 (by omega)]; exact h6⟩
  obtain ⟨a1, a2, a3, a4, a5, a6, a7⟩ := h2
  exact ⟨by rw [g1 7 (by omega)]; exact a1, a2, by rw [g2 16 (by omega)]; exact a3, by rw [g1 9 (by omega)]; exact a4, a5, a6, a7⟩
def fltK (tp : List Int) (y : Int) : Int := if y = 0 then (stF tp 8 0).1 else if y = 1 then (scF tp 12 0).1 else if y = 2 then rowF tp 20 else if y = 3 then rowF tp 6 else -2
theorem m_fault {n : Nat} (hn : 300 ≤ n) {m : mS} {tp : List Int} {T : kT} {wd : List Int} {ps : List kT} {im : Option kT} {sc : List (List kS)} {rf : Nat → Int} (h : Mdl m tp T wd ps im sc rf) (hI : Inv T wd ps im sc) {y : Int} (hy : sm y) (M : mm_M) (am : Nat) : ∃ m', pX10_fault n (mk M am m) am (iI y) = some (iI (fltK tp y), mk M am m') ∧ Mdl m' tp T wd ps im sc rf := by
  unfold fltK
  by_cases c0 : y = 0
  · subst c0
    obtain ⟨m1, e1, -, f1⟩ := m_rdStore hn (M := M) (am := am) h.1
    refine ⟨m1, ?_, h.sk f1.k⟩
    simp (disch := (first | assumption | (refine sm_of ?_ ?_ <;> omega) | omega)) only [iI_add, iI_sub, iI_mul, iI_neg, iI_lt, iI_le, iI_eq, b1_s, b2_s, ↓reduceIte, mk_v, mk_gl23, mk_pl23, mk_gr1, mk_gr5, mk_gr6, mk_gr8, mk_gr9, mk_gr11, mk_gr13, mk_gr14, mk_gr15, mk_gr17, mk_gr18, mk_gr21, mk_gr24, mk_gr28, mk_gr30, mk_gr31, mk_gi0, mk_gi2, mk_gi3, mk_gi4, mk_gi7, mk_gi10, mk_gi12, mk_gi16, mk_gi19, mk_gi20, mk_gi22, mk_gi25, mk_gi26, mk_gi27, mk_gi29, mk_gi32, mk_pi0, mk_pi2, mk_pi3, mk_pi4, mk_pi7, mk_pi10, mk_pi12, mk_pi16, mk_pi19, mk_pi20, mk_pi22, mk_pi25, mk_pi26, mk_pi27, mk_pi29, mk_pi32, mk_ia1, mk_ia2, mk_ia3, mk_ia4, mk_ia5, mk_ia6, mk_ia7, mk_ia8, mk_ia9, mk_ia10, mk_ia11, mk_ia12, mk_ia13, mk_ia14, mk_ia15, mk_ia16, mk_is1, mk_is2, mk_is3, mk_is4, mk_is5, mk_is6, mk_is7, mk_is8, mk_is9, mk_is10, mk_is11, mk_is12, mk_is13, mk_is14, mk_is15, mk_is16, L0, L1, L2, L3, L4, L5, L6, L7, L8, L9, L10, L12, L20, L22, L24, L26, L27, L28, L32, L40, L60, L73, L95, L97, L222, L240, L441, L442, L622, Lm1, Lmh, L11, L13, L14, L15, L16, L17, L18, L19, L21, L23, L25, L30, L31, L33, L36, L39, L41, L44, L48, L53, L54, L55, L57, L58, L59, L91, L93, L98, L99, L100, L105, L106, L112, L114, L115, L119, L122, L160, L180, L200, L255, L1440, L24880, L63, Lm2, pX10_fault, e1]
  · rw [if_neg c0]
    by_cases c1 : y = 1
    · subst c1
      obtain ⟨m1, e1, -, y4, y5, f1⟩ := m_rdScript hn (M := M) (am := am) h.1 (s := 4) (by omega)
      have e1 : pX10_readScript n (mk M am m) am (iI 4) = _ := e1
      refine ⟨m1, ?_, ?_⟩
      · simp (disch := (first | assumption | (refine sm_of ?_ ?_ <;> omega) | omega)) only [iI_add, iI_sub, iI_mul, iI_neg, iI_lt, iI_le, iI_eq, b1_s, b2_s, ↓reduceIte, mk_v, mk_gl23, mk_pl23, mk_gr1, mk_gr5, mk_gr6, mk_gr8, mk_gr9, mk_gr11, mk_gr13, mk_gr14, mk_gr15, mk_gr17, mk_gr18, mk_gr21, mk_gr24, mk_gr28, mk_gr30, mk_gr31, mk_gi0, mk_gi2, mk_gi3, mk_gi4, mk_gi7, mk_gi10, mk_gi12, mk_gi16, mk_gi19, mk_gi20, mk_gi22, mk_gi25, mk_gi26, mk_gi27, mk_gi29, mk_gi32, mk_pi0, mk_pi2, mk_pi3, mk_pi4, mk_pi7, mk_pi10, mk_pi12, mk_pi16, mk_pi19, mk_pi20, mk_pi22, mk_pi25, mk_pi26, mk_pi27, mk_pi29, mk_pi32, mk_ia1, mk_ia2, mk_ia3, mk_ia4, mk_ia5, mk_ia6, mk_ia7, mk_ia8, mk_ia9, mk_ia10, mk_ia11, mk_ia12, mk_ia13, mk_ia14, mk_ia15, mk_ia16, mk_is1, mk_is2, mk_is3, mk_is4, mk_is5, mk_is6, mk_is7, mk_is8, mk_is9, mk_is10, mk_is11, mk_is12, mk_is13, mk_is14, mk_is15, mk_is16, L0, L1, L2, L3, L4, L5, L6, L7, L8, L9, L10, L12, L20, L22, L24, L26, L27, L28, L32, L40, L60, L73, L95, L97, L222, L240, L441, L442, L622, Lm1, Lmh, L11, L13, L14, L15, L16, L17, L18, L19, L21, L23, L25, L30, L31, L33, L36, L39, L41, L44, L48, L53, L54, L55, L57, L58, L59, L91, L93, L98, L99, L100, L105, L106, L112, L114, L115, L119, L122, L160, L180, L200, L255, L1440, L24880, L63, Lm2, pX10_fault, Int.reduceEq, e1]
      · obtain ⟨h1, h2, h3, h4, h5, h6⟩ := h
        have l4 := h5.1
        obtain ⟨a1, a2, a3, a4, a5, a6, a7⟩ := h2
        refine ⟨⟨h1.1, h1.2.1, by rw [f1.2.2 2 (by decide) (by decide)]; exact h1.2.2.1, by rw [f1.2.1 1 (by decide) (by decide) (by decide)]; exact h1.2.2.2⟩, ⟨by rw [f1.2.1 7 (by decide) (by decide) (by decide)]; exact a1, a2, by rw [f1.2.2 16 (by decide) (by decide)]; exact a3, by rw [f1.2.1 9 (by decide) (by decide) (by decide)]; exact a4, a5, a6, a7⟩, h3.cg (f1.2.2 22 (by decide) (by decide)) (f1.2.1 12 (by decide) (by decide) (by decide)), ⟨by rw [f1.2.2 32 (by decide) (by decide)]; exact h4.1, by rw [f1.2.1 16 (by decide) (by decide) (by decide)]; exact h4.2⟩, ⟨l4, by rw [f1.2.2 10 (by decide) (by decide)]; exact h5.2.1, fun k hk => ?_⟩, by rw [f1.2.1 8 (by decide) (by decide) (by decide)]; exact h6⟩
        obtain ⟨z1, z2, z3⟩ := h5.2.2 k hk
        exact ⟨z1, by rw [y5 _ (by omega)]; exact z2, fun i hi => by
          obtain ⟨v1, v2, v3, v4, v5⟩ := z3 i hi
          refine ⟨by rw [y4 _ (by omega)]; exact v1, by rw [y4 _ (by omega)]; exact v2, by rw [y4 _ (by omega)]; exact v3, by rw [y4 _ (by omega)]; exact v4, fun j hj => ?_⟩
          have l20 := (hI.2.2.2.2.2.2 k hk _ (getD_mem' hi)).2.2.2.2.2.2.1
          have hj : j < ((sc.getD k []).getD i kS0).2.2.2.length := hj
          rw [y4 _ (by omega)]
          exact v5 j hj⟩
    · rw [if_neg c1]
      by_cases c2 : y = 2
      · subst c2
        obtain ⟨m1, e1, a1, a2, a3, a4, a5⟩ := m_alone hn (M := M) (am := am) h.1 (most := 20) (by omega) (by omega)
        have e1 : pX10_readAlone n (mk M am m) am (iI 20) = _ := e1
        refine ⟨m1, ?_, h.sk ⟨fun j q => a4 j (by omega) (by omega), fun x q => a5 x (by omega) (by omega) (by omega)⟩⟩
        simp (disch := (first | assumption | (refine sm_of ?_ ?_ <;> omega) | omega)) only [iI_add, iI_sub, iI_mul, iI_neg, iI_lt, iI_le, iI_eq, b1_s, b2_s, ↓reduceIte, mk_v, mk_gl23, mk_pl23, mk_gr1, mk_gr5, mk_gr6, mk_gr8, mk_gr9, mk_gr11, mk_gr13, mk_gr14, mk_gr15, mk_gr17, mk_gr18, mk_gr21, mk_gr24, mk_gr28, mk_gr30, mk_gr31, mk_gi0, mk_gi2, mk_gi3, mk_gi4, mk_gi7, mk_gi10, mk_gi12, mk_gi16, mk_gi19, mk_gi20, mk_gi22, mk_gi25, mk_gi26, mk_gi27, mk_gi29, mk_gi32, mk_pi0, mk_pi2, mk_pi3, mk_pi4, mk_pi7, mk_pi10, mk_pi12, mk_pi16, mk_pi19, mk_pi20, mk_pi22, mk_pi25, mk_pi26, mk_pi27, mk_pi29, mk_pi32, mk_ia1, mk_ia2, mk_ia3, mk_ia4, mk_ia5, mk_ia6, mk_ia7, mk_ia8, mk_ia9, mk_ia10, mk_ia11, mk_ia12, mk_ia13, mk_ia14, mk_ia15, mk_ia16, mk_is1, mk_is2, mk_is3, mk_is4, mk_is5, mk_is6, mk_is7, mk_is8, mk_is9, mk_is10, mk_is11, mk_is12, mk_is13, mk_is14, mk_is15, mk_is16, L0, L1, L2, L3, L4, L5, L6, L7, L8, L9, L10, L12, L20, L22, L24, L26, L27, L28, L32, L40, L60, L73, L95, L97, L222, L240, L441, L442, L622, Lm1, Lmh, L11, L13, L14, L15, L16, L17, L18, L19, L21, L23, L25, L30, L31, L33, L36, L39, L41, L44, L48, L53, L54, L55, L57, L58, L59, L91, L93, L98, L99, L100, L105, L106, L112, L114, L115, L119, L122, L160, L180, L200, L255, L1440, L24880, L63, Lm2, pX10_fault, Int.reduceEq, e1]
      · rw [if_neg c2]
        by_cases c3 : y = 3
        · subst c3
          obtain ⟨m1, e1, a1, a2, a3, a4, a5⟩ := m_alone hn (M := M) (am := am) h.1 (most := 6) (by omega) (by omega)
          have e1 : pX10_readAlone n (mk M am m) am (iI 6) = _ := e1
          refine ⟨m1, ?_, h.sk ⟨fun j q => a4 j (by omega) (by omega), fun x q => a5 x (by omega) (by omega) (by omega)⟩⟩
          simp (disch := (first | assumption | (refine sm_of ?_ ?_ <;> omega) | omega)) only [iI_add, iI_sub, iI_mul, iI_neg, iI_lt, iI_le, iI_eq, b1_s, b2_s, ↓reduceIte, mk_v, mk_gl23, mk_pl23, mk_gr1, mk_gr5, mk_gr6, mk_gr8, mk_gr9, mk_gr11, mk_gr13, mk_gr14, mk_gr15, mk_gr17, mk_gr18, mk_gr21, mk_gr24, mk_gr28, mk_gr30, mk_gr31, mk_gi0, mk_gi2, mk_gi3, mk_gi4, mk_gi7, mk_gi10, mk_gi12, mk_gi16, mk_gi19, mk_gi20, mk_gi22, mk_gi25, mk_gi26, mk_gi27, mk_gi29, mk_gi32, mk_pi0, mk_pi2, mk_pi3, mk_pi4, mk_pi7, mk_pi10, mk_pi12, mk_pi16, mk_pi19, mk_pi20, mk_pi22, mk_pi25, mk_pi26, mk_pi27, mk_pi29, mk_pi32, mk_ia1, mk_ia2, mk_ia3, mk_ia4, mk_ia5, mk_ia6, mk_ia7, mk_ia8, mk_ia9, mk_ia10, mk_ia11, mk_ia12, mk_ia13, mk_ia14, mk_ia15, mk_ia16, mk_is1, mk_is2, mk_is3, mk_is4, mk_is5, mk_is6, mk_is7, mk_is8, mk_is9, mk_is10, mk_is11, mk_is12, mk_is13, mk_is14, mk_is15, mk_is16, L0, L1, L2, L3, L4, L5, L6, L7, L8, L9, L10, L12, L20, L22, L24, L26, L27, L28, L32, L40, L60, L73, L95, L97, L222, L240, L441, L442, L622, Lm1, Lmh, L11, L13, L14, L15, L16, L17, L18, L19, L21, L23, L25, L30, L31, L33, L36, L39, L41, L44, L48, L53, L54, L55, L57, L58, L59, L91, L93, L98, L99, L100, L105, L106, L112, L114, L115, L119, L122, L160, L180, L200, L255, L1440, L24880, L63, Lm2, pX10_fault, Int.reduceEq, e1]
        · rw [if_neg c3]
          refine ⟨m, ?_, h⟩
          simp (disch := (first | assumption | (refine sm_of ?_ ?_ <;> omega) | omega)) only [iI_add, iI_sub, iI_mul, iI_neg, iI_lt, iI_le, iI_eq, b1_s, b2_s, ↓reduceIte, mk_v, mk_gl23, mk_pl23, mk_gr1, mk_gr5, mk_gr6, mk_gr8, mk_gr9, mk_gr11, mk_gr13, mk_gr14, mk_gr15, mk_gr17, mk_gr18, mk_gr21, mk_gr24, mk_gr28, mk_gr30, mk_gr31, mk_gi0, mk_gi2, mk_gi3, mk_gi4, mk_gi7, mk_gi10, mk_gi12, mk_gi16, mk_gi19, mk_gi20, mk_gi22, mk_gi25, mk_gi26, mk_gi27, mk_gi29, mk_gi32, mk_pi0, mk_pi2, mk_pi3, mk_pi4, mk_pi7, mk_pi10, mk_pi12, mk_pi16, mk_pi19, mk_pi20, mk_pi22, mk_pi25, mk_pi26, mk_pi27, mk_pi29, mk_pi32, mk_ia1, mk_ia2, mk_ia3, mk_ia4, mk_ia5, mk_ia6, mk_ia7, mk_ia8, mk_ia9, mk_ia10, mk_ia11, mk_ia12, mk_ia13, mk_ia14, mk_ia15, mk_ia16, mk_is1, mk_is2, mk_is3, mk_is4, mk_is5, mk_is6, mk_is7, mk_is8, mk_is9, mk_is10, mk_is11, mk_is12, mk_is13, mk_is14, mk_is15, mk_is16, L0, L1, L2, L3, L4, L5, L6, L7, L8, L9, L10, L12, L20, L22, L24, L26, L27, L28, L32, L40, L60, L73, L95, L97, L222, L240, L441, L442, L622, Lm1, Lmh, L11, L13, L14, L15, L16, L17, L18, L19, L21, L23, L25, L30, L31, L33, L36, L39, L41, L44, L48, L53, L54, L55, L57, L58, L59, L91, L93, L98, L99, L100, L105, L106, L112, L114, L115, L119, L122, L160, L180, L200, L255, L1440, L24880, L63, Lm2, pX10_fault, c0, c1, c2, c3]
