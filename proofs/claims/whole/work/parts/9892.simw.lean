/-! a step for each act and the rest -/
theorem s_set {n : Nat} (hn : 25000 ≤ n) (lo : Nat) : lw_s_set n lo (lo + 2875) (SimP lo) := by
  intro t M ht h x1
  obtain ⟨tp, T, wd, ps, im, sc, rf, m, f, hM, hC, hm, hI, ho⟩ := h
  obtain ⟨x, rfl, hx⟩ := i32 x1
  have hb := hC.bnd
  exact sim_g (fun Z => pX10_set n Z (lo + 2875) (iI x)) ht hM ho (k_set (by omega) hC hI.1 (by omega) hx) (by omega) (fun M0 => by
    obtain ⟨m', e, g⟩ := m_tapeAct hn hm (by omega) hb (s := 0) (by omega) hx M0 (lo + 2875)
    refine ⟨m', ?_, g⟩
    simp (disch := (first | assumption | (refine sm_of ?_ ?_ <;> omega) | omega)) only [iI_add, iI_sub, iI_mul, iI_neg, iI_lt, iI_le, iI_eq, b1_s, b2_s, ↓reduceIte, mk_v, mk_gl23, mk_pl23, mk_gr1, mk_gr5, mk_gr6, mk_gr8, mk_gr9, mk_gr11, mk_gr13, mk_gr14, mk_gr15, mk_gr17, mk_gr18, mk_gr21, mk_gr24, mk_gr28, mk_gr30, mk_gr31, mk_gi0, mk_gi2, mk_gi3, mk_gi4, mk_gi7, mk_gi10, mk_gi12, mk_gi16, mk_gi19, mk_gi20, mk_gi22, mk_gi25, mk_gi26, mk_gi27, mk_gi29, mk_gi32, mk_pi0, mk_pi2, mk_pi3, mk_pi4, mk_pi7, mk_pi10, mk_pi12, mk_pi16, mk_pi19, mk_pi20, mk_pi22, mk_pi25, mk_pi26, mk_pi27, mk_pi29, mk_pi32, mk_ia1, mk_ia2, mk_ia3, mk_ia4, mk_ia5, mk_ia6, mk_ia7, mk_ia8, mk_ia9, mk_ia10, mk_ia11, mk_ia12, mk_ia13, mk_ia14, mk_ia15, mk_ia16, mk_is1, mk_is2, mk_is3, mk_is4, mk_is5, mk_is6, mk_is7, mk_is8, mk_is9, mk_is10, mk_is11, mk_is12, mk_is13, mk_is14, mk_is15, mk_is16, L0, L1, L2, L3, L4, L5, L6, L7, L8, L9, L10, L12, L20, L22, L24, L26, L27, L28, L32, L40, L60, L73, L95, L97, L222, L240, L441, L442, L622, Lm1, Lmh, L11, L13, L14, L15, L16, L17, L18, L19, L21, L23, L25, L30, L31, L33, L36, L39, L41, L44, L48, L53, L54, L55, L57, L58, L59, L91, L93, L98, L99, L100, L105, L106, L112, L114, L115, L119, L122, L160, L180, L200, L255, L1440, L24880, L63, Lm2, pX10_set, e]) (inv_try hI (by show (0 : Int) ≤ 0 ∧ (0 : Int) ≤ 8; decide) (lih_ok tp).1 (lih_ok tp).2 (fun q => absurd (show (0 : Int) = 4 from q) (by decide)) (by omega) (by omega) hb)
theorem s_put {n : Nat} (hn : 25000 ≤ n) (lo : Nat) : lw_s_put n lo (lo + 2875) (SimP lo) := by
  intro t M ht h x1
  obtain ⟨tp, T, wd, ps, im, sc, rf, m, f, hM, hC, hm, hI, ho⟩ := h
  obtain ⟨x, rfl, hx⟩ := i32 x1
  have hb := hC.bnd
  exact sim_g (fun Z => pX10_put n Z (lo + 2875) (iI x)) ht hM ho (k_put (by omega) hC hI.1 (by omega) hx) (by omega) (fun M0 => by
    obtain ⟨m', e, g⟩ := m_tapeAct hn hm (by omega) hb (s := 1) (by omega) hx M0 (lo + 2875)
    refine ⟨m', ?_, g⟩
    simp (disch := (first | assumption | (refine sm_of ?_ ?_ <;> omega) | omega)) only [iI_add, iI_sub, iI_mul, iI_neg, iI_lt, iI_le, iI_eq, b1_s, b2_s, ↓reduceIte, mk_v, mk_gl23, mk_pl23, mk_gr1, mk_gr5, mk_gr6, mk_gr8, mk_gr9, mk_gr11, mk_gr13, mk_gr14, mk_gr15, mk_gr17, mk_gr18, mk_gr21, mk_gr24, mk_gr28, mk_gr30, mk_gr31, mk_gi0, mk_gi2, mk_gi3, mk_gi4, mk_gi7, mk_gi10, mk_gi12, mk_gi16, mk_gi19, mk_gi20, mk_gi22, mk_gi25, mk_gi26, mk_gi27, mk_gi29, mk_gi32, mk_pi0, mk_pi2, mk_pi3, mk_pi4, mk_pi7, mk_pi10, mk_pi12, mk_pi16, mk_pi19, mk_pi20, mk_pi22, mk_pi25, mk_pi26, mk_pi27, mk_pi29, mk_pi32, mk_ia1, mk_ia2, mk_ia3, mk_ia4, mk_ia5, mk_ia6, mk_ia7, mk_ia8, mk_ia9, mk_ia10, mk_ia11, mk_ia12, mk_ia13, mk_ia14, mk_ia15, mk_ia16, mk_is1, mk_is2, mk_is3, mk_is4, mk_is5, mk_is6, mk_is7, mk_is8, mk_is9, mk_is10, mk_is11, mk_is12, mk_is13, mk_is14, mk_is15, mk_is16, L0, L1, L2, L3, L4, L5, L6, L7, L8, L9, L10, L12, L20, L22, L24, L26, L27, L28, L32, L40, L60, L73, L95, L97, L222, L240, L441, L442, L622, Lm1, Lmh, L11, L13, L14, L15, L16, L17, L18, L19, L21, L23, L25, L30, L31, L33, L36, L39, L41, L44, L48, L53, L54, L55, L57, L58, L59, L91, L93, L98, L99, L100, L105, L106, L112, L114, L115, L119, L122, L160, L180, L200, L255, L1440, L24880, L63, Lm2, pX10_put, e]) (inv_try hI (by show (0 : Int) ≤ 1 ∧ (1 : Int) ≤ 8; decide) (lih_ok tp).1 (lih_ok tp).2 (fun q => absurd (show (1 : Int) = 4 from q) (by decide)) (by omega) (by omega) hb)
theorem s_take {n : Nat} (hn : 25000 ≤ n) (lo : Nat) : lw_s_take n lo (lo + 2875) (SimP lo) := by
  intro t M ht h x1
  obtain ⟨tp, T, wd, ps, im, sc, rf, m, f, hM, hC, hm, hI, ho⟩ := h
  obtain ⟨x, rfl, hx⟩ := i32 x1
  have hb := hC.bnd
  exact sim_g (fun Z => pX10_take n Z (lo + 2875) (iI x)) ht hM ho (k_take (by omega) hC (by omega) hx) (by omega) (fun M0 => by
    obtain ⟨m', e, g⟩ := m_wordAct hn hm (by omega) hb (s := 2) (x := x) (y := 0) (y' := (-1000000)) (by omega) (by omega) hx (sm_of (by omega) (by omega)) (Or.inr ⟨by decide, by decide⟩) M0 (lo + 2875)
    refine ⟨m', ?_, g⟩
    simp (disch := (first | assumption | (refine sm_of ?_ ?_ <;> omega) | omega)) only [iI_add, iI_sub, iI_mul, iI_neg, iI_lt, iI_le, iI_eq, b1_s, b2_s, ↓reduceIte, mk_v, mk_gl23, mk_pl23, mk_gr1, mk_gr5, mk_gr6, mk_gr8, mk_gr9, mk_gr11, mk_gr13, mk_gr14, mk_gr15, mk_gr17, mk_gr18, mk_gr21, mk_gr24, mk_gr28, mk_gr30, mk_gr31, mk_gi0, mk_gi2, mk_gi3, mk_gi4, mk_gi7, mk_gi10, mk_gi12, mk_gi16, mk_gi19, mk_gi20, mk_gi22, mk_gi25, mk_gi26, mk_gi27, mk_gi29, mk_gi32, mk_pi0, mk_pi2, mk_pi3, mk_pi4, mk_pi7, mk_pi10, mk_pi12, mk_pi16, mk_pi19, mk_pi20, mk_pi22, mk_pi25, mk_pi26, mk_pi27, mk_pi29, mk_pi32, mk_ia1, mk_ia2, mk_ia3, mk_ia4, mk_ia5, mk_ia6, mk_ia7, mk_ia8, mk_ia9, mk_ia10, mk_ia11, mk_ia12, mk_ia13, mk_ia14, mk_ia15, mk_ia16, mk_is1, mk_is2, mk_is3, mk_is4, mk_is5, mk_is6, mk_is7, mk_is8, mk_is9, mk_is10, mk_is11, mk_is12, mk_is13, mk_is14, mk_is15, mk_is16, L0, L1, L2, L3, L4, L5, L6, L7, L8, L9, L10, L12, L20, L22, L24, L26, L27, L28, L32, L40, L60, L73, L95, L97, L222, L240, L441, L442, L622, Lm1, Lmh, L11, L13, L14, L15, L16, L17, L18, L19, L21, L23, L25, L30, L31, L33, L36, L39, L41, L44, L48, L53, L54, L55, L57, L58, L59, L91, L93, L98, L99, L100, L105, L106, L112, L114, L115, L119, L122, L160, L180, L200, L255, L1440, L24880, L63, Lm2, pX10_take, e]) (inv_try hI (by show (0 : Int) ≤ 2 ∧ (2 : Int) ≤ 8; decide) (fun q hq => (by cases hq)) (show ([] : List Int).length ≤ 20 by decide) (fun q => absurd (show (2 : Int) = 4 from q) (by decide)) (by omega) (by omega) hb)
theorem s_swap {n : Nat} (hn : 25000 ≤ n) (lo : Nat) : lw_s_swap n lo (lo + 2875) (SimP lo) := by
  intro t M ht h x1 x2
  obtain ⟨tp, T, wd, ps, im, sc, rf, m, f, hM, hC, hm, hI, ho⟩ := h
  obtain ⟨x, rfl, hx⟩ := i32 x1
  obtain ⟨y, rfl, hy⟩ := i32 x2
  have hb := hC.bnd
  exact sim_g (fun Z => pX10_swap n Z (lo + 2875) (iI x) (iI y)) ht hM ho (k_swap (by omega) hC (by omega) hx hy) (by omega) (fun M0 => by
    obtain ⟨m', e, g⟩ := m_wordAct hn hm (by omega) hb (s := 3) (x := x) (y := y) (y' := y) (by omega) (by omega) hx hy (Or.inl rfl) M0 (lo + 2875)
    refine ⟨m', ?_, g⟩
    simp (disch := (first | assumption | (refine sm_of ?_ ?_ <;> omega) | omega)) only [iI_add, iI_sub, iI_mul, iI_neg, iI_lt, iI_le, iI_eq, b1_s, b2_s, ↓reduceIte, mk_v, mk_gl23, mk_pl23, mk_gr1, mk_gr5, mk_gr6, mk_gr8, mk_gr9, mk_gr11, mk_gr13, mk_gr14, mk_gr15, mk_gr17, mk_gr18, mk_gr21, mk_gr24, mk_gr28, mk_gr30, mk_gr31, mk_gi0, mk_gi2, mk_gi3, mk_gi4, mk_gi7, mk_gi10, mk_gi12, mk_gi16, mk_gi19, mk_gi20, mk_gi22, mk_gi25, mk_gi26, mk_gi27, mk_gi29, mk_gi32, mk_pi0, mk_pi2, mk_pi3, mk_pi4, mk_pi7, mk_pi10, mk_pi12, mk_pi16, mk_pi19, mk_pi20, mk_pi22, mk_pi25, mk_pi26, mk_pi27, mk_pi29, mk_pi32, mk_ia1, mk_ia2, mk_ia3, mk_ia4, mk_ia5, mk_ia6, mk_ia7, mk_ia8, mk_ia9, mk_ia10, mk_ia11, mk_ia12, mk_ia13, mk_ia14, mk_ia15, mk_ia16, mk_is1, mk_is2, mk_is3, mk_is4, mk_is5, mk_is6, mk_is7, mk_is8, mk_is9, mk_is10, mk_is11, mk_is12, mk_is13, mk_is14, mk_is15, mk_is16, L0, L1, L2, L3, L4, L5, L6, L7, L8, L9, L10, L12, L20, L22, L24, L26, L27, L28, L32, L40, L60, L73, L95, L97, L222, L240, L441, L442, L622, Lm1, Lmh, L11, L13, L14, L15, L16, L17, L18, L19, L21, L23, L25, L30, L31, L33, L36, L39, L41, L44, L48, L53, L54, L55, L57, L58, L59, L91, L93, L98, L99, L100, L105, L106, L112, L114, L115, L119, L122, L160, L180, L200, L255, L1440, L24880, L63, Lm2, pX10_swap, e]) (inv_try hI (by show (0 : Int) ≤ 3 ∧ (3 : Int) ≤ 8; decide) (fun q hq => (by cases hq)) (show ([] : List Int).length ≤ 20 by decide) (fun q => absurd (show (3 : Int) = 4 from q) (by decide)) (by omega) (by omega) hb)
theorem s_page {n : Nat} (hn : 25000 ≤ n) (lo : Nat) : lw_s_page n lo (lo + 2875) (SimP lo) := by
  intro t M ht h x1
  obtain ⟨tp, T, wd, ps, im, sc, rf, m, f, hM, hC, hm, hI, ho⟩ := h
  obtain ⟨x, rfl, hx⟩ := i32 x1
  have hb := hC.bnd
  exact sim_g (fun Z => pX10_page n Z (lo + 2875) (iI x)) ht hM ho (k_page (by omega) hC (by omega) hx) (by omega) (fun M0 => by
    obtain ⟨m', e, g⟩ := m_wordAct hn hm (by omega) hb (s := 5) (x := x) (y := 0) (y' := (-1000000)) (by omega) (by omega) hx (sm_of (by omega) (by omega)) (Or.inr ⟨by decide, by decide⟩) M0 (lo + 2875)
    refine ⟨m', ?_, g⟩
    simp (disch := (first | assumption | (refine sm_of ?_ ?_ <;> omega) | omega)) only [iI_add, iI_sub, iI_mul, iI_neg, iI_lt, iI_le, iI_eq, b1_s, b2_s, ↓reduceIte, mk_v, mk_gl23, mk_pl23, mk_gr1, mk_gr5, mk_gr6, mk_gr8, mk_gr9, mk_gr11, mk_gr13, mk_gr14, mk_gr15, mk_gr17, mk_gr18, mk_gr21, mk_gr24, mk_gr28, mk_gr30, mk_gr31, mk_gi0, mk_gi2, mk_gi3, mk_gi4, mk_gi7, mk_gi10, mk_gi12, mk_gi16, mk_gi19, mk_gi20, mk_gi22, mk_gi25, mk_gi26, mk_gi27, mk_gi29, mk_gi32, mk_pi0, mk_pi2, mk_pi3, mk_pi4, mk_pi7, mk_pi10, mk_pi12, mk_pi16, mk_pi19, mk_pi20, mk_pi22, mk_pi25, mk_pi26, mk_pi27, mk_pi29, mk_pi32, mk_ia1, mk_ia2, mk_ia3, mk_ia4, mk_ia5, mk_ia6, mk_ia7, mk_ia8, mk_ia9, mk_ia10, mk_ia11, mk_ia12, mk_ia13, mk_ia14, mk_ia15, mk_ia16, mk_is1, mk_is2, mk_is3, mk_is4, mk_is5, mk_is6, mk_is7, mk_is8, mk_is9, mk_is10, mk_is11, mk_is12, mk_is13, mk_is14, mk_is15, mk_is16, L0, L1, L2, L3, L4, L5, L6, L7, L8, L9, L10, L12, L20, L22, L24, L26, L27, L28, L32, L40, L60, L73, L95, L97, L222, L240, L441, L442, L622, Lm1, Lmh, L11, L13, L14, L15, L16, L17, L18, L19, L21, L23, L25, L30, L31, L33, L36, L39, L41, L44, L48, L53, L54, L55, L57, L58, L59, L91, L93, L98, L99, L100, L105, L106, L112, L114, L115, L119, L122, L160, L180, L200, L255, L1440, L24880, L63, Lm2, pX10_page, e]) (inv_try hI (by show (0 : Int) ≤ 5 ∧ (5 : Int) ≤ 8; decide) (fun q hq => (by cases hq)) (show ([] : List Int).length ≤ 20 by decide) (fun q => absurd (show (5 : Int) = 4 from q) (by decide)) (by omega) (by omega) hb)
theorem s_rewind {n : Nat} (hn : 25000 ≤ n) (lo : Nat) : lw_s_rewind n lo (lo + 2875) (SimP lo) := by
  intro t M ht h x1
  obtain ⟨tp, T, wd, ps, im, sc, rf, m, f, hM, hC, hm, hI, ho⟩ := h
  obtain ⟨x, rfl, hx⟩ := i32 x1
  have hb := hC.bnd
  exact sim_g (fun Z => pX10_rewind n Z (lo + 2875) (iI x)) ht hM ho (k_rewind (by omega) hC (by omega) hx) (by omega) (fun M0 => by
    obtain ⟨m', e, g⟩ := m_wordAct hn hm (by omega) hb (s := 6) (x := x) (y := 0) (y' := (-1000000)) (by omega) (by omega) hx (sm_of (by omega) (by omega)) (Or.inr ⟨by decide, by decide⟩) M0 (lo + 2875)
    refine ⟨m', ?_, g⟩
    simp (disch := (first | assumption | (refine sm_of ?_ ?_ <;> omega) | omega)) only [iI_add, iI_sub, iI_mul, iI_neg, iI_lt, iI_le, iI_eq, b1_s, b2_s, ↓reduceIte, mk_v, mk_gl23, mk_pl23, mk_gr1, mk_gr5, mk_gr6, mk_gr8, mk_gr9, mk_gr11, mk_gr13, mk_gr14, mk_gr15, mk_gr17, mk_gr18, mk_gr21, mk_gr24, mk_gr28, mk_gr30, mk_gr31, mk_gi0, mk_gi2, mk_gi3, mk_gi4, mk_gi7, mk_gi10, mk_gi12, mk_gi16, mk_gi19, mk_gi20, mk_gi22, mk_gi25, mk_gi26, mk_gi27, mk_gi29, mk_gi32, mk_pi0, mk_pi2, mk_pi3, mk_pi4, mk_pi7, mk_pi10, mk_pi12, mk_pi16, mk_pi19, mk_pi20, mk_pi22, mk_pi25, mk_pi26, mk_pi27, mk_pi29, mk_pi32, mk_ia1, mk_ia2, mk_ia3, mk_ia4, mk_ia5, mk_ia6, mk_ia7, mk_ia8, mk_ia9, mk_ia10, mk_ia11, mk_ia12, mk_ia13, mk_ia14, mk_ia15, mk_ia16, mk_is1, mk_is2, mk_is3, mk_is4, mk_is5, mk_is6, mk_is7, mk_is8, mk_is9, mk_is10, mk_is11, mk_is12, mk_is13, mk_is14, mk_is15, mk_is16, L0, L1, L2, L3, L4, L5, L6, L7, L8, L9, L10, L12, L20, L22, L24, L26, L27, L28, L32, L40, L60, L73, L95, L97, L222, L240, L441, L442, L622, Lm1, Lmh, L11, L13, L14, L15, L16, L17, L18, L19, L21, L23, L25, L30, L31, L33, L36, L39, L41, L44, L48, L53, L54, L55, L57, L58, L59, L91, L93, L98, L99, L100, L105, L106, L112, L114, L115, L119, L122, L160, L180, L200, L255, L1440, L24880, L63, Lm2, pX10_rewind, e]) (inv_try hI (by show (0 : Int) ≤ 6 ∧ (6 : Int) ≤ 8; decide) (fun q hq => (by cases hq)) (show ([] : List Int).length ≤ 20 by decide) (fun q => absurd (show (6 : Int) = 4 from q) (by decide)) (by omega) (by omega) hb)
theorem s_split {n : Nat} (hn : 25000 ≤ n) (lo : Nat) : lw_s_split n lo (lo + 2875) (SimP lo) := by
  intro t M ht h x1 x2
  obtain ⟨tp, T, wd, ps, im, sc, rf, m, f, hM, hC, hm, hI, ho⟩ := h
  obtain ⟨x, rfl, hx⟩ := i32 x1
  obtain ⟨y, rfl, hy⟩ := i32 x2
  have hb := hC.bnd
  exact sim_g (fun Z => pX10_split n Z (lo + 2875) (iI x) (iI y)) ht hM ho (k_split (by omega) hC (by omega) hx hy) (by omega) (fun M0 => by
    obtain ⟨m', e, g⟩ := m_wordAct hn hm (by omega) hb (s := 7) (x := x) (y := y) (y' := y) (by omega) (by omega) hx hy (Or.inl rfl) M0 (lo + 2875)
    refine ⟨m', ?_, g⟩
    simp (disch := (first | assumption | (refine sm_of ?_ ?_ <;> omega) | omega)) only [iI_add, iI_sub, iI_mul, iI_neg, iI_lt, iI_le, iI_eq, b1_s, b2_s, ↓reduceIte, mk_v, mk_gl23, mk_pl23, mk_gr1, mk_gr5, mk_gr6, mk_gr8, mk_gr9, mk_gr11, mk_gr13, mk_gr14, mk_gr15, mk_gr17, mk_gr18, mk_gr21, mk_gr24, mk_gr28, mk_gr30, mk_gr31, mk_gi0, mk_gi2, mk_gi3, mk_gi4, mk_gi7, mk_gi10, mk_gi12, mk_gi16, mk_gi19, mk_gi20, mk_gi22, mk_gi25, mk_gi26, mk_gi27, mk_gi29, mk_gi32, mk_pi0, mk_pi2, mk_pi3, mk_pi4, mk_pi7, mk_pi10, mk_pi12, mk_pi16, mk_pi19, mk_pi20, mk_pi22, mk_pi25, mk_pi26, mk_pi27, mk_pi29, mk_pi32, mk_ia1, mk_ia2, mk_ia3, mk_ia4, mk_ia5, mk_ia6, mk_ia7, mk_ia8, mk_ia9, mk_ia10, mk_ia11, mk_ia12, mk_ia13, mk_ia14, mk_ia15, mk_ia16, mk_is1, mk_is2, mk_is3, mk_is4, mk_is5, mk_is6, mk_is7, mk_is8, mk_is9, mk_is10, mk_is11, mk_is12, mk_is13, mk_is14, mk_is15, mk_is16, L0, L1, L2, L3, L4, L5, L6, L7, L8, L9, L10, L12, L20, L22, L24, L26, L27, L28, L32, L40, L60, L73, L95, L97, L222, L240, L441, L442, L622, Lm1, Lmh, L11, L13, L14, L15, L16, L17, L18, L19, L21, L23, L25, L30, L31, L33, L36, L39, L41, L44, L48, L53, L54, L55, L57, L58, L59, L91, L93, L98, L99, L100, L105, L106, L112, L114, L115, L119, L122, L160, L180, L200, L255, L1440, L24880, L63, Lm2, pX10_split, e]) (inv_try hI (by show (0 : Int) ≤ 7 ∧ (7 : Int) ≤ 8; decide) (fun q hq => (by cases hq)) (show ([] : List Int).length ≤ 20 by decide) (fun q => absurd (show (7 : Int) = 4 from q) (by decide)) (by omega) (by omega) hb)
theorem s_join {n : Nat} (hn : 25000 ≤ n) (lo : Nat) : lw_s_join n lo (lo + 2875) (SimP lo) := by
  intro t M ht h x1
  obtain ⟨tp, T, wd, ps, im, sc, rf, m, f, hM, hC, hm, hI, ho⟩ := h
  obtain ⟨x, rfl, hx⟩ := i32 x1
  have hb := hC.bnd
  exact sim_g (fun Z => pX10_join n Z (lo + 2875) (iI x)) ht hM ho (k_join (by omega) hC (by omega) hx) (by omega) (fun M0 => by
    obtain ⟨m', e, g⟩ := m_wordAct hn hm (by omega) hb (s := 8) (x := x) (y := 0) (y' := (-1000000)) (by omega) (by omega) hx (sm_of (by omega) (by omega)) (Or.inr ⟨by decide, by decide⟩) M0 (lo + 2875)
    refine ⟨m', ?_, g⟩
    simp (disch := (first | assumption | (refine sm_of ?_ ?_ <;> omega) | omega)) only [iI_add, iI_sub, iI_mul, iI_neg, iI_lt, iI_le, iI_eq, b1_s, b2_s, ↓reduceIte, mk_v, mk_gl23, mk_pl23, mk_gr1, mk_gr5, mk_gr6, mk_gr8, mk_gr9, mk_gr11, mk_gr13, mk_gr14, mk_gr15, mk_gr17, mk_gr18, mk_gr21, mk_gr24, mk_gr28, mk_gr30, mk_gr31, mk_gi0, mk_gi2, mk_gi3, mk_gi4, mk_gi7, mk_gi10, mk_gi12, mk_gi16, mk_gi19, mk_gi20, mk_gi22, mk_gi25, mk_gi26, mk_gi27, mk_gi29, mk_gi32, mk_pi0, mk_pi2, mk_pi3, mk_pi4, mk_pi7, mk_pi10, mk_pi12, mk_pi16, mk_pi19, mk_pi20, mk_pi22, mk_pi25, mk_pi26, mk_pi27, mk_pi29, mk_pi32, mk_ia1, mk_ia2, mk_ia3, mk_ia4, mk_ia5, mk_ia6, mk_ia7, mk_ia8, mk_ia9, mk_ia10, mk_ia11, mk_ia12, mk_ia13, mk_ia14, mk_ia15, mk_ia16, mk_is1, mk_is2, mk_is3, mk_is4, mk_is5, mk_is6, mk_is7, mk_is8, mk_is9, mk_is10, mk_is11, mk_is12, mk_is13, mk_is14, mk_is15, mk_is16, L0, L1, L2, L3, L4, L5, L6, L7, L8, L9, L10, L12, L20, L22, L24, L26, L27, L28, L32, L40, L60, L73, L95, L97, L222, L240, L441, L442, L622, Lm1, Lmh, L11, L13, L14, L15, L16, L17, L18, L19, L21, L23, L25, L30, L31, L33, L36, L39, L41, L44, L48, L53, L54, L55, L57, L58, L59, L91, L93, L98, L99, L100, L105, L106, L112, L114, L115, L119, L122, L160, L180, L200, L255, L1440, L24880, L63, Lm2, pX10_join, e]) (inv_try hI (by show (0 : Int) ≤ 8 ∧ (8 : Int) ≤ 8; decide) (fun q hq => (by cases hq)) (show ([] : List Int).length ≤ 20 by decide) (fun q => absurd (show (8 : Int) = 4 from q) (by decide)) (by omega) (by omega) hb)
theorem s_lay {n : Nat} (hn : 25000 ≤ n) (lo : Nat) : lw_s_lay n lo (lo + 2875) (SimP lo) := by
  intro t M ht h x1 x2
  obtain ⟨tp, T, wd, ps, im, sc, rf, m, f, hM, hC, hm, hI, ho⟩ := h
  obtain ⟨x, rfl, hx⟩ := i32 x1
  obtain ⟨y, rfl, hy⟩ := i32 x2
  have hb := hC.bnd
  exact sim_g (fun Z => pX10_lay n Z (lo + 2875) (iI x) (iI y)) ht hM ho (k_lay (by omega) hC (by omega) hx hy) (by omega) (fun M0 => m_layAct hn hm (by omega) hb hx hy M0 (lo + 2875)) (inv_try hI (by show (0 : Int) ≤ 4 ∧ (4 : Int) ≤ 8; decide) hI.2.1 (show wd.length ≤ 20 by have := hI.2.2.1; omega) (fun _ => hI.2.2.1) (by omega) (by omega) hb)
theorem s_undo {n : Nat} (hn : 25000 ≤ n) (lo : Nat) : lw_s_undo n lo (lo + 2875) (SimP lo) := by
  intro t M ht h u
  obtain ⟨tp, T, wd, ps, im, sc, rf, m, f, hM, hC, hm, hI, ho⟩ := h
  cases ps with
  | nil => exact sim_g (fun Z => pX10_undo n Z (lo + 2875) ) ht hM ho ⟨M, k_undo0 (ps := []) hC, hC, fr.rfl⟩ (by omega) (fun M0 => ⟨m, m_undo0 hm.2.2.1, hm⟩) hI
  | cons P ps =>
    have hp := hI.2.2.2.2.1 P List.mem_cons_self
    exact sim_g (fun Z => pX10_undo n Z (lo + 2875) ) ht hM ho (k_undo (by omega) hC) (by omega) (fun M0 => m_undoM hn hm hI M0 (lo + 2875)) ⟨hp.1, hI.2.1, hI.2.2.1, fun e => absurd e hp.2, fun Q hQ => hI.2.2.2.2.1 Q (List.mem_cons_of_mem _ hQ), hI.2.2.2.2.2.1, hI.2.2.2.2.2.2⟩
theorem s_image {n : Nat} (hn : 25000 ≤ n) (lo : Nat) : lw_s_image n lo (lo + 2875) (SimP lo) := by
  intro t M ht h u
  obtain ⟨tp, T, wd, ps, im, sc, rf, m, f, hM, hC, hm, hI, ho⟩ := h
  by_cases c : T.1.length = 0
  · exact sim_g (fun Z => pX10_image n Z (lo + 2875) ) ht hM ho ⟨M, k_imageN hC c, hC, fr.rfl⟩ (by omega) (fun M0 => ⟨m, m_imageN hm.2.1 c M0 (lo + 2875), hm⟩) hI
  · exact sim_g (fun Z => pX10_image n Z (lo + 2875) ) ht hM ho (k_image (by omega) hC c) (by omega) (fun M0 => m_imageM hn hm c M0 (lo + 2875)) ⟨hI.1, hI.2.1, hI.2.2.1, hI.2.2.2.1, hI.2.2.2.2.1, fun I hh => (by cases hh; exact ⟨hI.1, c⟩), hI.2.2.2.2.2.2⟩
theorem s_back {n : Nat} (hn : 25000 ≤ n) (lo : Nat) : lw_s_back n lo (lo + 2875) (SimP lo) := by
  intro t M ht h u
  obtain ⟨tp, T, wd, ps, im, sc, rf, m, f, hM, hC, hm, hI, ho⟩ := h
  cases im with
  | none => exact sim_g (fun Z => pX10_back n Z (lo + 2875) ) ht hM ho ⟨M, k_backN (im := none) hC, hC, fr.rfl⟩ (by omega) (fun M0 => ⟨m, m_backN (hm.2.2.2.1.1.trans (if_neg (by decide))) M0 (lo + 2875), hm⟩) hI
  | some I =>
    have hp := hI.2.2.2.2.2.1 I rfl
    exact sim_g (fun Z => pX10_back n Z (lo + 2875) ) ht hM ho (k_back (im := some I) (by omega) hC) (by omega) (fun M0 => m_backM hn hm hp M0 (lo + 2875)) ⟨hp.1, hI.2.1, hI.2.2.1, fun e => absurd e hp.2, fun Q hQ => (by cases hQ), hI.2.2.2.2.2.1, hI.2.2.2.2.2.2⟩
theorem s_run {n : Nat} (hn : 25000 ≤ n) (lo : Nat) : lw_s_run n lo (lo + 2875) (SimP lo) := by
  intro t M ht h x1 x2
  obtain ⟨tp, T, wd, ps, im, sc, rf, m, f, hM, hC, hm, hI, ho⟩ := h
  obtain ⟨x, rfl, hx⟩ := i32 x1
  obtain ⟨y, rfl, hy⟩ := i32 x2
  have hb := hC.bnd
  exact sim_g (fun Z => pX10_run n Z (lo + 2875) (iI x) (iI y)) ht hM ho (k_run (by omega) hC hI (by omega) hx hy) (by omega) (fun M0 => m_runM hn hm hI (by omega) (by omega) hb hx hy M0 (lo + 2875)) hI
theorem s_perform {n : Nat} (hn : 25000 ≤ n) (lo : Nat) : lw_s_perform n lo (lo + 2875) (SimP lo) := by
  intro t M ht h x1
  obtain ⟨tp, T, wd, ps, im, sc, rf, m, f, hM, hC, hm, hI, ho⟩ := h
  obtain ⟨x, rfl, hx⟩ := i32 x1
  have hb := hC.bnd
  by_cases c : 0 ≤ x ∧ x < sc.length ∧ T.1.length ≠ 0
  · obtain ⟨s, rfl⟩ := Int.eq_ofNat_of_zero_le c.1
    have hs : s < sc.length := by omega
    have l12 := (hm.2.2.2.2.1.2.2 s hs).1
    obtain ⟨p1, p2, p3⟩ := perN_ok (hI.2.2.2.2.2.2 s hs) hI.1 hI.2.2.2.2.1 c.2.2 (B := 80 * (t : Int)) (by omega) (by omega) hb
    exact sim_g (fun Z => pX10_perform n Z (lo + 2875) (iI s)) ht hM ho (k_perform (by omega) hC hI (by omega) (by omega) hs c.2.2) (by omega) (fun M0 => m_perform hn hm hI (by omega) (by omega) hb hs c.2.2 M0 (lo + 2875)) ⟨p1, hI.2.1, hI.2.2.1, fun e => absurd e p2, p3, hI.2.2.2.2.2.1, hI.2.2.2.2.2.2⟩
  · exact sim_g (fun Z => pX10_perform n Z (lo + 2875) (iI x)) ht hM ho ⟨M, k_performF hC hx c, hC, fr.rfl⟩ (by omega) (fun M0 => ⟨m, m_performF hm hx c M0 (lo + 2875), hm⟩) hI
theorem s_ways {n : Nat} (hn : 25000 ≤ n) (lo : Nat) : lw_s_ways n lo (lo + 2875) (SimP lo) := by
  intro t M ht h x1 d
  obtain ⟨tp, T, wd, ps, im, sc, rf, m, f, hM, hC, hm, hI, ho⟩ := h
  obtain ⟨x, rfl, hx⟩ := i32 x1
  have hb := hC.bnd
  by_cases c : T.1.length ≠ 0 ∧ 1 ≤ x ∧ x ≤ 40
  · obtain ⟨k, rfl⟩ := Int.eq_ofNat_of_zero_le (show 0 ≤ x by omega)
    have hc : 1 ≤ k ∧ k ≤ 40 := by omega
    have W := fun M0 => m_waysM hn (nx := nxD) (dn := drN) (fun d c h => drN_lt d h) (fun M am m c h1 h2 => m_draw h1 h2) hm hI (B := 80 * (t : Int)) (by omega) (by omega) hb hc c.1 d M0 (lo + 2875)
    obtain ⟨-, -, -, w1, w2, w3⟩ := W M
    exact sim_g (fun Z => pX10_ways n Z (lo + 2875) (iI k) d) ht hM ho (k_ways (by omega) (fun d c h => drN_lt d h) (drw_ok n lo) hC hI (by omega) (by omega) hc c.1 d) (by omega) (fun M0 => by
      obtain ⟨m', e, g, -⟩ := W M0
      exact ⟨m', e, g⟩) ⟨w1, hI.2.1, hI.2.2.1, fun e => absurd e w2, w3, hI.2.2.2.2.2.1, hI.2.2.2.2.2.2⟩
  · exact sim_g (fun Z => pX10_ways n Z (lo + 2875) (iI x) d) ht hM ho ⟨M, k_waysF hC hx d c, hC, fr.rfl⟩ (by omega) (fun M0 => ⟨m, m_waysF hm.2.1 hx d c M0 (lo + 2875), hm⟩) hI
theorem s_text {n : Nat} (hn : 25000 ≤ n) (lo : Nat) : lw_s_text n lo (lo + 2875) (SimP lo) := by
  intro t M ht h x1
  obtain ⟨tp, T, wd, ps, im, sc, rf, m, f, hM, hC, hm, hI, ho⟩ := h
  obtain ⟨x, rfl, hx⟩ := i32 x1
  have tl := hm.1.1
  by_cases c0 : x = 0
  · subst c0
    have sb := stF_bd tl 8 0 (by omega)
    by_cases c : (stF tp 8 0).1 = -1
    · obtain ⟨M1, C, e1, hU, hC1, f1⟩ := k_text0 (n := n) (by omega) hC (by omega) c
      obtain ⟨so1, so2⟩ := stF_ok tp 8 0
      obtain ⟨o1, o2⟩ := okT_new so2 (stF_ne c) so1 (C := C) (fun k _ => (hU k).1)
      exact sim_g (fun Z => pX10_text n Z (lo + 2875) (iI 0)) ht hM ho ⟨M1, e1, hC1, f1⟩ (by omega) (fun M0 => m_text0 hn hm c (fun k _ => hU k) M0 (lo + 2875)) ⟨o1, fun q hq => (by cases hq), by decide, fun _ => rfl, fun Q hQ => (by cases hQ), fun I hh => (by cases hh), hI.2.2.2.2.2.2⟩
    · exact sim_g (fun Z => pX10_text n Z (lo + 2875) (iI 0)) ht hM ho (k_text0F (by omega) hC (by omega) c) (by omega) (fun M0 => m_text0F hn hm c (by omega) M0 (lo + 2875)) hI
  · by_cases c1 : x = 1
    · subst c1
      have sb := scF_bd tl 12 0 (by omega)
      obtain ⟨M1, e1, hC1, f1⟩ := k_text1 (n := n) (by omega) hC
      have W := fun M0 => m_text1 hn hm hI (by omega) M0 (lo + 2875)
      by_cases c : sc.length < 4 ∧ (scF tp 12 0).1 = -1
      · simp only [if_pos c] at e1 hC1 W
        refine sim_g (fun Z => pX10_text n Z (lo + 2875) (iI 1)) ht hM ho ⟨M1, e1, hC1, f1⟩ (by omega) W ⟨hI.1, hI.2.1, hI.2.2.1, hI.2.2.2.1, hI.2.2.2.2.1, hI.2.2.2.2.2.1, fun k hk z hz => ?_⟩
        rw [List.length_append, List.length_singleton] at hk
        rw [List.getD_eq_getElem?_getD] at hz
        by_cases ck : k < sc.length
        · rw [List.getElem?_append_left ck, ← List.getD_eq_getElem?_getD] at hz
          exact hI.2.2.2.2.2.2 k ck z hz
        · rw [List.getElem?_append_right (by omega), show k - sc.length = 0 by omega] at hz
          exact (scF_ok tp 12 0).1 z hz
      · simp only [if_neg c] at e1 hC1 W
        exact sim_g (fun Z => pX10_text n Z (lo + 2875) (iI 1)) ht hM ho ⟨M1, e1, hC1, f1⟩ (by omega) W hI
    · exact sim_g (fun Z => pX10_text n Z (lo + 2875) (iI x)) ht hM ho ⟨M, k_text2 hC hx c0 c1, hC, fr.rfl⟩ (by omega) (fun M0 => ⟨m, m_text2 hx c0 c1 M0 (lo + 2875), hm⟩) hI
theorem s_word {n : Nat} (hn : 25000 ≤ n) (lo : Nat) : lw_s_word n lo (lo + 2875) (SimP lo) := by
  intro t M ht h u
  obtain ⟨tp, T, wd, ps, im, sc, rf, m, f, hM, hC, hm, hI, ho⟩ := h
  obtain ⟨M1, e1, hC1, f1⟩ := k_word (n := n) (by omega) hC hI
  have W := fun M0 => m_word hn hm M0 (lo + 2875)
  by_cases c : T.1.length = 0 ∨ rowF tp 6 ≠ -1
  · simp only [if_pos c] at e1 hC1 W
    exact sim_g (fun Z => pX10_word n Z (lo + 2875) ) ht hM ho ⟨M1, e1, hC1, f1⟩ (by omega) W hI
  · simp only [if_neg c] at e1 hC1 W
    exact sim_g (fun Z => pX10_word n Z (lo + 2875) ) ht hM ho ⟨M1, e1, hC1, f1⟩ (by omega) W ⟨hI.1, rds_ok tp 6 0, rds_len tp 6 0, fun e => absurd (Or.inl e) c, hI.2.2.2.2.1, hI.2.2.2.2.2.1, hI.2.2.2.2.2.2⟩
theorem s_line {n : Nat} (lo : Nat) : lw_s_line n lo (lo + 2875) (lo + 2892) (SimP lo) := by
  intro t M ht h x1 x2
  obtain ⟨tp, T, wd, ps, im, sc, rf, m, f, hM, hC, hm, hI, ho⟩ := h
  obtain ⟨x, rfl, hx⟩ := i32 x1
  obtain ⟨y, rfl, hy⟩ := i32 x2
  by_cases c : isLn T.1 x = true ∧ 0 ≤ y ∧ y ≤ 1
  · refine ⟨_, k_lineT hC hx hy c.1 c.2, fun v hv => ?_, fun z => (by cases z)⟩
    cases hv
    have e2 : ∀ w : Int64, mm_lst M (lo + 2892) 0 w = some (mm_set M (lo + 2892) (mm_al 1 (vp_updL f (0 : Int32).toNatClampNeg w))) := fun w => by
      unfold mm_lst
      rw [ho]
      exact if_neg (show ¬ ((0 : Int32) < 0 ∨ 1 ≤ (0 : Int32).toNatClampNeg) by decide)
    have f2 : ∀ E : mm_E, fr M (mm_set M (lo + 2892) E) (lo + 2892) 1 := fun E => fr.set (by omega)
    have s2 := set_eq M (lo + 2892) (mm_al 1 (vp_updL f (0 : Int32).toNatClampNeg (iI (if y = 0 then (ln T.1 x).1 else ((ln T.1 x).2.length : Int))).toInt64))
    have k2 := mk_keep hM (f2 (mm_al 1 (vp_updL f (0 : Int32).toNatClampNeg (iI (if y = 0 then (ln T.1 x).1 else ((ln T.1 x).2.length : Int))).toInt64))) (by omega)
    have c2 := hC.out (f2 (mm_al 1 (vp_updL f (0 : Int32).toNatClampNeg (iI (if y = 0 then (ln T.1 x).1 else ((ln T.1 x).2.length : Int))).toInt64))) (by omega)
    refine ⟨mm_set M (lo + 2892) (mm_al 1 (vp_updL f (0 : Int32).toNatClampNeg (iI (if y = 0 then (ln T.1 x).1 else ((ln T.1 x).2.length : Int))).toInt64)), ?_⟩
    have e2 := e2 (iI (if y = 0 then (ln T.1 x).1 else ((ln T.1 x).2.length : Int))).toInt64
    revert s2 k2 c2 e2
    generalize mm_set M (lo + 2892) (mm_al 1 (vp_updL f (0 : Int32).toNatClampNeg (iI (if y = 0 then (ln T.1 x).1 else ((ln T.1 x).2.length : Int))).toInt64)) = M2
    intro s2 k2 c2 e2
    obtain ⟨m', e3, e4, hm'⟩ := m_lineT (n := n) hm hx hy c.1 c.2 M2 (lo + 2875)
    exact ⟨mk M2 (lo + 2875) m', mk M2 (lo + 2875) m', _, e2, (congrArg (fun Z => pX10_line n Z (lo + 2875) (iI x) (iI y)) k2).trans e3, e4, (mk_fr1 M2 (lo + 2875) m').at s2 (by omega), by simp [vp_updL], sim_i (by omega) s2 c2 (by omega) hm' hI⟩
  · refine ⟨_, k_lineF hC hx hy c, fun v hv => (by cases hv), fun _ k => ?_⟩
    have c2 : Cls (k, M.2) lo (80 * (t : Int)) tp T wd ps im sc rf := hC
    have k2 : ((k, M.2) : mm_M) = mk (k, M.2) (lo + 2875) m := mk_of (fun q hq => mk_in hM hq)
    obtain ⟨m', e3, e4, hm'⟩ := m_lineF (n := n) hm hx hy c (k, M.2) (lo + 2875)
    exact ⟨_, _, mk (k, M.2) (lo + 2875) m', (congrArg (fun Z => pX10_line n Z (lo + 2875) (iI x) (iI y)) k2).trans e3, e4, sim_i (by omega) ho c2 (by omega) hm' hI⟩
theorem sim_skip (lo t : Nat) (M : mm_M) (ht : t < 512) (h : SimP lo t M) : SimP lo (t + 1) M := by
  obtain ⟨tp, T, wd, ps, im, sc, rf, m, f, hM, hC, hm, hI, ho⟩ := h
  exact ⟨tp, T, wd, ps, im, sc, rf, m, f, hM, hC.mono (by omega) (by omega), hm, hI, ho⟩
theorem pure_ok (lo : Nat) : lw_pure lo := by
  obtain ⟨M2, e2, c2, n2, -⟩ : ∃ M2, pX9_init 30000 (mm_new (lo, fun _ => none) (mm_ob 9 [.null, .null, .null, .null, .int 0, .null, .int 0, .int 0, .null, .null, .null, .null, .null, .int 0, .null, .null, .null, .long 0])) lo = some M2 ∧ Cls M2 lo 0 [] kT0 [] [] none [] (fun _ => 0) ∧ M2.1 = lo + 2875 ∧ ∀ q, (q < lo ∨ lo + 2875 ≤ q) → M2.2 q = (mm_new (lo, fun _ => none) (mm_ob 9 [.null, .null, .null, .null, .int 0, .null, .int 0, .int 0, .null, .null, .null, .null, .null, .int 0, .null, .null, .null, .long 0])).2 q := by
    rw [L0]
    exact i9 rfl (if_pos rfl)
  obtain ⟨M4, e4, k4, n4, f4⟩ : ∃ M4, pX10_init 30000 (mm_new M2 (mm_ob 10 [.int 0, .null, .int 0, .int 0, .int 0, .null, .null, .int 0, .null, .null, .int 0, .null, .int 0, .null, .null, .null, .int 0, .null, .null, .int 0, .int 0, .null, .int 0, .long 0, .null, .int 0, .int 0, .int 0, .null, .int 0, .null, .null, .int 0])) (lo + 2875) = some M4 ∧ M4 = mk M4 (lo + 2875) (fun _ _ => 0, 0) ∧ M4.1 = lo + 2875 + 17 ∧ ∀ q, (q < lo + 2875 ∨ lo + 2875 + 17 ≤ q) → M4.2 q = (mm_new M2 (mm_ob 10 [.int 0, .null, .int 0, .int 0, .int 0, .null, .null, .int 0, .null, .null, .int 0, .null, .int 0, .null, .null, .null, .int 0, .null, .null, .int 0, .int 0, .null, .int 0, .long 0, .null, .int 0, .int 0, .int 0, .null, .int 0, .null, .null, .int 0])).2 q := by
    rw [L0]
    exact i10 (congrArg (· + 1) n2) (if_pos n2.symm)
  refine ⟨30000, M2, M4, SimP lo, e2, ?_⟩
  rw [n2, show M4.1 = lo + 2892 from n4]
  refine ⟨e4, ?_, fun t M => sim_skip lo t M, s_line lo, s_feed (by omega) lo, s_end (by omega) lo, s_fault (by omega) lo, s_text (by omega) lo, s_word (by omega) lo, s_rule (by omega) lo, s_sign (by omega) lo, s_hit (by omega) lo, s_rank (by omega) lo, s_all (by omega) lo, s_twice (by omega) lo, s_unlike (by omega) lo, s_frequent (by omega) lo, s_few (by omega) lo, s_beside (by omega) lo, s_set (by omega) lo, s_put (by omega) lo, s_take (by omega) lo, s_swap (by omega) lo, s_lay (by omega) lo, s_page (by omega) lo, s_rewind (by omega) lo, s_cursor (by omega) lo, s_told (by omega) lo, s_split (by omega) lo, s_join (by omega) lo, s_ways (by omega) lo, s_status (by omega) lo, s_undo (by omega) lo, s_log (by omega) lo, s_spell (by omega) lo, s_would (by omega) lo, s_step (by omega) lo, s_run (by omega) lo, s_perform (by omega) lo, s_most (by omega) lo, s_image (by omega) lo, s_back (by omega) lo, s_count (by omega) lo⟩
  have g1 : ∀ q, q ≠ lo + 2892 → (mm_new M4 (mm_al 1 (fun _ => 0))).2 q = M4.2 q := fun q hq => if_neg (by rw [n4]; exact hq)
  refine ⟨[], kT0, [], [], none, [], fun _ => 0, (fun _ _ => 0, 0), fun _ => 0, mk_of (fun j hj => (g1 _ (by omega)).trans (mk_in k4 hj)), ?_, mdl_0, inv_0, if_pos n4.symm⟩
  have c3 : ∀ q, (q < lo + 2875 ∨ lo + 2875 + 18 ≤ q) → (mm_new M4 (mm_al 1 (fun _ => 0))).2 q = M2.2 q := fun q hq => (g1 q (by omega)).trans ((f4 q (by omega)).trans (if_neg (by omega)))
  generalize (mm_new M4 (mm_al 1 (fun _ => 0))) = N at c3 ⊢
  have c4 : Cls (M2.1, N.2) lo 0 [] kT0 [] [] none [] (fun _ => 0) := c2.out (b := lo + 2875) (k := 18) ⟨rfl, c3⟩ (by omega)
  exact (show Cls N lo 0 [] kT0 [] [] none [] (fun _ => 0) from c4).mono (by omega) (by omega)
