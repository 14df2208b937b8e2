theorem nb0 : nb 0 := ⟨by omega, by omega⟩
theorem m_rewinds {n : Nat} (hn : 300 ≤ n) {M : mm_M} {am : Nat} {m : mS} {ls : List kL} (hN : NwL (m.1 7) ls) (ho : okL ls) (hd : numD ls) {c : Nat} (hc : c < 3) {u : kU} (hU : NwU (m.1 7) (222 + 73 * c) u) (hk : okU u) (hsz : u.2.1 ≠ 0) : ∃ m', pX10_rewindsNow n (mk M am m) am (iI c) = some (iI (leftL ls (u.1, u.2.1, false, u.2.2.2.1, u.2.2.2.2.1, u.2.2.2.2.2.1, [], 0)), mk M am m') ∧ NwU (m'.1 7) (222 + 73 * c) (u.1, u.2.1, false, u.2.2.2.1, u.2.2.2.2.1, u.2.2.2.2.2.1, [], 0) ∧ (∀ q : Int, (q < 222 + 73 * c ∨ 222 + 73 * c + 73 ≤ q) → m'.1 7 q = m.1 7 q) ∧ sx7 m m' := by
  obtain ⟨w1, w2, w3⟩ := hk.2.2.1 hsz
  obtain ⟨u1, u2, u3, -⟩ := hU.2 hsz
  have loop : ∀ (q i : Nat) (f : Int → Int), 8 ≤ i → i ≤ 73 → 73 < i + q → (∀ z : Int, f z = if 222 + 73 * (c : Int) + 8 ≤ z ∧ z < 222 + 73 * c + i then 0 else m.1 7 z) → ∃ g, pX10_rewindsNow_l8 n q (mk M am (setA m 7 f)) am (iI c) (iI (222 + 73 * c)) (iI i) = mm_b2 (pX10_leftOf n (mk M am (setA m 7 g)) am (iI c)) (fun v1 M => some (v1, M)) ∧ ∀ z : Int, g z = if 222 + 73 * (c : Int) + 8 ≤ z ∧ z < 222 + 73 * c + 73 then 0 else m.1 7 z := by
    intro q
    induction q with
    | zero => intro i f h0 h1 h2; omega
    | succ q ih =>
      intro i f h0 h1 h2 h3
      show ∃ g, pX10_rewindsNow_l8b n (pX10_rewindsNow_l8 n q) (mk M am (setA m 7 f)) am _ _ _ = _ ∧ _
      by_cases d : (73 : Int) ≤ i
      · refine ⟨f, ?_, fun z => by rw [h3 z, show i = 73 by omega]; rfl⟩
        simp (disch := (first | assumption | (refine sm_of ?_ ?_ <;> omega) | omega)) only [iI_add, iI_sub, iI_mul, iI_neg, iI_lt, iI_le, iI_eq, b1_s, b2_s, ↓reduceIte, mk_v, mk_gl23, mk_pl23, mk_gr1, mk_gr5, mk_gr6, mk_gr8, mk_gr9, mk_gr11, mk_gr13, mk_gr14, mk_gr15, mk_gr17, mk_gr18, mk_gr21, mk_gr24, mk_gr28, mk_gr30, mk_gr31, mk_gi0, mk_gi2, mk_gi3, mk_gi4, mk_gi7, mk_gi10, mk_gi12, mk_gi16, mk_gi19, mk_gi20, mk_gi22, mk_gi25, mk_gi26, mk_gi27, mk_gi29, mk_gi32, mk_pi0, mk_pi2, mk_pi3, mk_pi4, mk_pi7, mk_pi10, mk_pi12, mk_pi16, mk_pi19, mk_pi20, mk_pi22, mk_pi25, mk_pi26, mk_pi27, mk_pi29, mk_pi32, mk_ia1, mk_ia2, mk_ia3, mk_ia4, mk_ia5, mk_ia6, mk_ia7, mk_ia8, mk_ia9, mk_ia10, mk_ia11, mk_ia12, mk_ia13, mk_ia14, mk_ia15, mk_ia16, mk_is1, mk_is2, mk_is3, mk_is4, mk_is5, mk_is6, mk_is7, mk_is8, mk_is9, mk_is10, mk_is11, mk_is12, mk_is13, mk_is14, mk_is15, mk_is16, L0, L1, L2, L3, L4, L5, L6, L7, L8, L9, L10, L12, L20, L22, L24, L26, L27, L28, L32, L40, L60, L73, L95, L97, L222, L240, L441, L442, L622, Lm1, Lmh, L11, L13, L14, L15, L16, L17, L18, L19, L21, L23, L25, L30, L31, L33, L36, L39, L41, L44, L48, L53, L54, L55, L57, L58, L59, L91, L93, L98, L99, L100, L105, L106, L112, L114, L115, L119, L122, L160, L180, L200, L255, L1440, L24880, L63, Lm2, pX10_rewindsNow_l8b, d]
      · obtain ⟨g, e1, r1⟩ := ih (i + 1) (upI f (222 + 73 * c + i) 0) (by omega) (by omega) (by omega) (fun z => by
          by_cases e : z = 222 + 73 * c + i
          · rw [e, upI_e, if_pos (by omega)]
          · rw [upI_n _ _ e, h3 z]
            by_cases g : 222 + 73 * (c : Int) + 8 ≤ z ∧ z < 222 + 73 * c + i
            · rw [if_pos g, if_pos (by omega)]
            · rw [if_neg g, if_neg (by omega)])
        refine ⟨g, ?_, r1⟩
        simp (disch := (first | assumption | (refine sm_of ?_ ?_ <;> omega) | omega)) only [iI_add, iI_sub, iI_mul, iI_neg, iI_lt, iI_le, iI_eq, b1_s, b2_s, ↓reduceIte, mk_v, mk_gl23, mk_pl23, mk_gr1, mk_gr5, mk_gr6, mk_gr8, mk_gr9, mk_gr11, mk_gr13, mk_gr14, mk_gr15, mk_gr17, mk_gr18, mk_gr21, mk_gr24, mk_gr28, mk_gr30, mk_gr31, mk_gi0, mk_gi2, mk_gi3, mk_gi4, mk_gi7, mk_gi10, mk_gi12, mk_gi16, mk_gi19, mk_gi20, mk_gi22, mk_gi25, mk_gi26, mk_gi27, mk_gi29, mk_gi32, mk_pi0, mk_pi2, mk_pi3, mk_pi4, mk_pi7, mk_pi10, mk_pi12, mk_pi16, mk_pi19, mk_pi20, mk_pi22, mk_pi25, mk_pi26, mk_pi27, mk_pi29, mk_pi32, mk_ia1, mk_ia2, mk_ia3, mk_ia4, mk_ia5, mk_ia6, mk_ia7, mk_ia8, mk_ia9, mk_ia10, mk_ia11, mk_ia12, mk_ia13, mk_ia14, mk_ia15, mk_ia16, mk_is1, mk_is2, mk_is3, mk_is4, mk_is5, mk_is6, mk_is7, mk_is8, mk_is9, mk_is10, mk_is11, mk_is12, mk_is13, mk_is14, mk_is15, mk_is16, L0, L1, L2, L3, L4, L5, L6, L7, L8, L9, L10, L12, L20, L22, L24, L26, L27, L28, L32, L40, L60, L73, L95, L97, L222, L240, L441, L442, L622, Lm1, Lmh, L11, L13, L14, L15, L16, L17, L18, L19, L21, L23, L25, L30, L31, L33, L36, L39, L41, L44, L48, L53, L54, L55, L57, L58, L59, L91, L93, L98, L99, L100, L105, L106, L112, L114, L115, L119, L122, L160, L180, L200, L255, L1440, L24880, L63, Lm2, pX10_rewindsNow_l8b, d, setA_e, setA_setA]
        rw [show ((i : Int) + 1) = ((i + 1 : Nat) : Int) by omega]
        exact e1
  obtain ⟨g, e1, r1⟩ := loop n 8 (m.1 7) (by omega) (by omega) (by omega) (fun z => by rw [if_neg (by omega)])
  rw [setA_self] at e1
  have hN1 : NwL ((setA m 7 g).1 7) ls := by rw [setA_e]; exact NwL_cg hN ho (fun q hq => by rw [r1, if_neg (by omega)])
  have gg : ∀ q : Int, q < 222 + 73 * c + 8 → g q = m.1 7 q := fun q hq => by rw [r1, if_neg (by omega)]
  have gz : ∀ q : Int, 222 + 73 * c + 8 ≤ q → q < 222 + 73 * c + 73 → g q = 0 := fun q h1 h2 => by rw [r1, if_pos (by omega)]
  have hU1 : NwU ((setA m 7 g).1 7) (222 + 73 * c) (u.1, u.2.1, false, u.2.2.2.1, u.2.2.2.2.1, u.2.2.2.2.2.1, [], 0) := by
    rw [setA_e]
    refine ⟨fun h => absurd h hsz, fun _ => ⟨?_, rowA_cg u2 (fun z hz => gg _ (by have : z < u.1.length := hz; omega)), ?_, ?_, ?_, ?_, fun i hi => ?_, fun h => ?_⟩⟩
    · rw [gg _ (by omega)]; exact u1
    · rw [gg _ (by omega)]; exact u3
    · rw [gz _ (by omega) (by omega)]; rfl
    · rw [gz _ (by omega) (by omega)]; rfl
    · rw [gz _ (by omega) (by omega)]
    · simp at hi
    · cases h
  have hk1 : okU (u.1, u.2.1, false, u.2.2.2.1, u.2.2.2.2.1, u.2.2.2.2.2.1, [], 0) := ⟨hk.1, hk.2.1, hk.2.2.1, fun h => (by cases h), by simp, nb0⟩
  obtain ⟨m1, e2, x1⟩ := m_left hn (M := M) (am := am) hN1 ho hd hc hU1 hk1 hsz
  have e7 : m1.1 7 = (setA m 7 g).1 7 := x1.2.1 7 (by decide) (by decide) (by decide)
  refine ⟨m1, ?_, by rw [e7]; exact hU1, fun q hq => ?_, (sx7_set m g).trans x1.w7⟩
  · simp (disch := (first | assumption | (refine sm_of ?_ ?_ <;> omega) | omega)) only [iI_add, iI_sub, iI_mul, iI_neg, iI_lt, iI_le, iI_eq, b1_s, b2_s, ↓reduceIte, mk_v, mk_gl23, mk_pl23, mk_gr1, mk_gr5, mk_gr6, mk_gr8, mk_gr9, mk_gr11, mk_gr13, mk_gr14, mk_gr15, mk_gr17, mk_gr18, mk_gr21, mk_gr24, mk_gr28, mk_gr30, mk_gr31, mk_gi0, mk_gi2, mk_gi3, mk_gi4, mk_gi7, mk_gi10, mk_gi12, mk_gi16, mk_gi19, mk_gi20, mk_gi22, mk_gi25, mk_gi26, mk_gi27, mk_gi29, mk_gi32, mk_pi0, mk_pi2, mk_pi3, mk_pi4, mk_pi7, mk_pi10, mk_pi12, mk_pi16, mk_pi19, mk_pi20, mk_pi22, mk_pi25, mk_pi26, mk_pi27, mk_pi29, mk_pi32, mk_ia1, mk_ia2, mk_ia3, mk_ia4, mk_ia5, mk_ia6, mk_ia7, mk_ia8, mk_ia9, mk_ia10, mk_ia11, mk_ia12, mk_ia13, mk_ia14, mk_ia15, mk_ia16, mk_is1, mk_is2, mk_is3, mk_is4, mk_is5, mk_is6, mk_is7, mk_is8, mk_is9, mk_is10, mk_is11, mk_is12, mk_is13, mk_is14, mk_is15, mk_is16, L0, L1, L2, L3, L4, L5, L6, L7, L8, L9, L10, L12, L20, L22, L24, L26, L27, L28, L32, L40, L60, L73, L95, L97, L222, L240, L441, L442, L622, Lm1, Lmh, L11, L13, L14, L15, L16, L17, L18, L19, L21, L23, L25, L30, L31, L33, L36, L39, L41, L44, L48, L53, L54, L55, L57, L58, L59, L91, L93, L98, L99, L100, L105, L106, L112, L114, L115, L119, L122, L160, L180, L200, L255, L1440, L24880, L63, Lm2, pX10_rewindsNow, pX10_cursorAt]
    rw [show (8 : Int) = ((8 : Nat) : Int) from rfl, e1, e2]; rfl
  · rw [e7, setA_e, r1, if_neg (by omega)]
theorem m_laysN {n : Nat} (hn : 300 ≤ n) {M : mm_M} {am : Nat} {m : mS} {ls : List kL} (hN : NwL (m.1 7) ls) (ho : okL ls) (hd : numD ls) {c : Nat} (hc : c < 3) {sz : Int} (hsz : 1 ≤ sz ∧ sz ≤ 9) {w : List Int} (hw : okS w) (hwl : 1 ≤ w.length ∧ w.length ≤ 6) {j : Nat} (hj0 : 0 < j) (hj : j < 17) (hj7 : j ≠ 7) {o : Int} (ho0 : 0 ≤ o) (ho1 : o + w.length ≤ mz j) (hz : mz j ≤ 100000) (hr : rowA (m.1 j) o w) (mn : Int) (mx : List Int) (mp : Nat) : ∃ m', pX10_laysNow n (mk M am m) am (iI c) (iI sz) (am + j) (iI o) (iI w.length) = some (iI (hitsL ls w), mk M am m') ∧ NwU (m'.1 7) (222 + 73 * c) (w, sz, false, mn, mx, mp, [], 0) ∧ (∀ q : Int, (q < 222 + 73 * c ∨ 222 + 73 * c + 73 ≤ q) → m'.1 7 q = m.1 7 q) ∧ sx7 m m' := by
  have loop : ∀ (q i : Nat) (f : Int → Int), i ≤ 73 → 73 < i + q → (∀ z : Int, f z = if 222 + 73 * (c : Int) ≤ z ∧ z < 222 + 73 * c + i then 0 else m.1 7 z) → ∃ g, pX10_laysNow_l9 n q (mk M am (setA m 7 f)) am (iI c) (iI sz) (am + j) (iI o) (iI w.length) (iI (222 + 73 * c)) (iI i) = pX10_laysNow_b33 n (mk M am (setA m 7 g)) am (iI c) (iI sz) (am + j) (iI o) (iI w.length) (iI (222 + 73 * c)) ∧ ∀ z : Int, g z = if 222 + 73 * (c : Int) ≤ z ∧ z < 222 + 73 * c + 73 then 0 else m.1 7 z := by
    intro q
    induction q with
    | zero => intro i f h1 h2; omega
    | succ q ih =>
      intro i f h1 h2 h3
      show ∃ g, pX10_laysNow_l9b n (pX10_laysNow_l9 n q) (mk M am (setA m 7 f)) am _ _ _ _ _ _ _ = _ ∧ _
      by_cases d : (73 : Int) ≤ i
      · refine ⟨f, ?_, fun z => by rw [h3 z, show i = 73 by omega]; rfl⟩
        simp (disch := (first | assumption | (refine sm_of ?_ ?_ <;> omega) | omega)) only [iI_add, iI_sub, iI_mul, iI_neg, iI_lt, iI_le, iI_eq, b1_s, b2_s, ↓reduceIte, mk_v, mk_gl23, mk_pl23, mk_gr1, mk_gr5, mk_gr6, mk_gr8, mk_gr9, mk_gr11, mk_gr13, mk_gr14, mk_gr15, mk_gr17, mk_gr18, mk_gr21, mk_gr24, mk_gr28, mk_gr30, mk_gr31, mk_gi0, mk_gi2, mk_gi3, mk_gi4, mk_gi7, mk_gi10, mk_gi12, mk_gi16, mk_gi19, mk_gi20, mk_gi22, mk_gi25, mk_gi26, mk_gi27, mk_gi29, mk_gi32, mk_pi0, mk_pi2, mk_pi3, mk_pi4, mk_pi7, mk_pi10, mk_pi12, mk_pi16, mk_pi19, mk_pi20, mk_pi22, mk_pi25, mk_pi26, mk_pi27, mk_pi29, mk_pi32, mk_ia1, mk_ia2, mk_ia3, mk_ia4, mk_ia5, mk_ia6, mk_ia7, mk_ia8, mk_ia9, mk_ia10, mk_ia11, mk_ia12, mk_ia13, mk_ia14, mk_ia15, mk_ia16, mk_is1, mk_is2, mk_is3, mk_is4, mk_is5, mk_is6, mk_is7, mk_is8, mk_is9, mk_is10, mk_is11, mk_is12, mk_is13, mk_is14, mk_is15, mk_is16, L0, L1, L2, L3, L4, L5, L6, L7, L8, L9, L10, L12, L20, L22, L24, L26, L27, L28, L32, L40, L60, L73, L95, L97, L222, L240, L441, L442, L622, Lm1, Lmh, L11, L13, L14, L15, L16, L17, L18, L19, L21, L23, L25, L30, L31, L33, L36, L39, L41, L44, L48, L53, L54, L55, L57, L58, L59, L91, L93, L98, L99, L100, L105, L106, L112, L114, L115, L119, L122, L160, L180, L200, L255, L1440, L24880, L63, Lm2, pX10_laysNow_l9b, d]
      · obtain ⟨g, e1, r1⟩ := ih (i + 1) (upI f (222 + 73 * c + i) 0) (by omega) (by omega) (fun z => by
          by_cases e : z = 222 + 73 * c + i
          · rw [e, upI_e, if_pos (by omega)]
          · rw [upI_n _ _ e, h3 z]
            by_cases g : 222 + 73 * (c : Int) ≤ z ∧ z < 222 + 73 * c + i
            · rw [if_pos g, if_pos (by omega)]
            · rw [if_neg g, if_neg (by omega)])
        refine ⟨g, ?_, r1⟩
        simp (disch := (first | assumption | (refine sm_of ?_ ?_ <;> omega) | omega)) only [iI_add, iI_sub, iI_mul, iI_neg, iI_lt, iI_le, iI_eq, b1_s, b2_s, ↓reduceIte, mk_v, mk_gl23, mk_pl23, mk_gr1, mk_gr5, mk_gr6, mk_gr8, mk_gr9, mk_gr11, mk_gr13, mk_gr14, mk_gr15, mk_gr17, mk_gr18, mk_gr21, mk_gr24, mk_gr28, mk_gr30, mk_gr31, mk_gi0, mk_gi2, mk_gi3, mk_gi4, mk_gi7, mk_gi10, mk_gi12, mk_gi16, mk_gi19, mk_gi20, mk_gi22, mk_gi25, mk_gi26, mk_gi27, mk_gi29, mk_gi32, mk_pi0, mk_pi2, mk_pi3, mk_pi4, mk_pi7, mk_pi10, mk_pi12, mk_pi16, mk_pi19, mk_pi20, mk_pi22, mk_pi25, mk_pi26, mk_pi27, mk_pi29, mk_pi32, mk_ia1, mk_ia2, mk_ia3, mk_ia4, mk_ia5, mk_ia6, mk_ia7, mk_ia8, mk_ia9, mk_ia10, mk_ia11, mk_ia12, mk_ia13, mk_ia14, mk_ia15, mk_ia16, mk_is1, mk_is2, mk_is3, mk_is4, mk_is5, mk_is6, mk_is7, mk_is8, mk_is9, mk_is10, mk_is11, mk_is12, mk_is13, mk_is14, mk_is15, mk_is16, L0, L1, L2, L3, L4, L5, L6, L7, L8, L9, L10, L12, L20, L22, L24, L26, L27, L28, L32, L40, L60, L73, L95, L97, L222, L240, L441, L442, L622, Lm1, Lmh, L11, L13, L14, L15, L16, L17, L18, L19, L21, L23, L25, L30, L31, L33, L36, L39, L41, L44, L48, L53, L54, L55, L57, L58, L59, L91, L93, L98, L99, L100, L105, L106, L112, L114, L115, L119, L122, L160, L180, L200, L255, L1440, L24880, L63, Lm2, pX10_laysNow_l9b, d, setA_e, setA_setA]
        rw [show ((i : Int) + 1) = ((i + 1 : Nat) : Int) by omega]
        exact e1
  obtain ⟨g, e1, r1⟩ := loop n 0 (m.1 7) (by omega) (by omega) (fun z => by rw [if_neg (by omega)])
  rw [setA_self] at e1
  have loop2 : ∀ (q i : Nat) (f : Int → Int), i ≤ w.length → w.length < i + q → (∀ z : Nat, z < i → f (222 + 73 * c + 1 + z) = dec (w.getD z 0)) → ∃ h, pX10_laysNow_l58 n q (mk M am (setA m 7 f)) am (iI c) (am + j) (iI o) (iI w.length) (iI (222 + 73 * c)) (iI i) = mm_b2 (pX10_leftOf n (mk M am (setA m 7 h)) am (iI c)) (fun v1 M => some (v1, M)) ∧ rowA h (222 + 73 * c + 1) w ∧ ∀ z : Int, ¬ (222 + 73 * (c : Int) + 1 ≤ z ∧ z < 222 + 73 * c + 7) → h z = f z := by
    intro q
    induction q with
    | zero => intro i f h1 h2; omega
    | succ q ih =>
      intro i f h1 h2 h3
      show ∃ h, pX10_laysNow_l58b n (pX10_laysNow_l58 n q) (mk M am (setA m 7 f)) am _ _ _ _ _ _ = _ ∧ _
      by_cases d : (w.length : Int) ≤ i
      · refine ⟨f, ?_, fun z hz => h3 z (by omega), fun _ _ => rfl⟩
        simp (disch := (first | assumption | (refine sm_of ?_ ?_ <;> omega) | omega)) only [iI_add, iI_sub, iI_mul, iI_neg, iI_lt, iI_le, iI_eq, b1_s, b2_s, ↓reduceIte, mk_v, mk_gl23, mk_pl23, mk_gr1, mk_gr5, mk_gr6, mk_gr8, mk_gr9, mk_gr11, mk_gr13, mk_gr14, mk_gr15, mk_gr17, mk_gr18, mk_gr21, mk_gr24, mk_gr28, mk_gr30, mk_gr31, mk_gi0, mk_gi2, mk_gi3, mk_gi4, mk_gi7, mk_gi10, mk_gi12, mk_gi16, mk_gi19, mk_gi20, mk_gi22, mk_gi25, mk_gi26, mk_gi27, mk_gi29, mk_gi32, mk_pi0, mk_pi2, mk_pi3, mk_pi4, mk_pi7, mk_pi10, mk_pi12, mk_pi16, mk_pi19, mk_pi20, mk_pi22, mk_pi25, mk_pi26, mk_pi27, mk_pi29, mk_pi32, mk_ia1, mk_ia2, mk_ia3, mk_ia4, mk_ia5, mk_ia6, mk_ia7, mk_ia8, mk_ia9, mk_ia10, mk_ia11, mk_ia12, mk_ia13, mk_ia14, mk_ia15, mk_ia16, mk_is1, mk_is2, mk_is3, mk_is4, mk_is5, mk_is6, mk_is7, mk_is8, mk_is9, mk_is10, mk_is11, mk_is12, mk_is13, mk_is14, mk_is15, mk_is16, L0, L1, L2, L3, L4, L5, L6, L7, L8, L9, L10, L12, L20, L22, L24, L26, L27, L28, L32, L40, L60, L73, L95, L97, L222, L240, L441, L442, L622, Lm1, Lmh, L11, L13, L14, L15, L16, L17, L18, L19, L21, L23, L25, L30, L31, L33, L36, L39, L41, L44, L48, L53, L54, L55, L57, L58, L59, L91, L93, L98, L99, L100, L105, L106, L112, L114, L115, L119, L122, L160, L180, L200, L255, L1440, L24880, L63, Lm2, pX10_laysNow_l58b, d]
      · have s2 := mk_ia M am (setA m 7 f) hj0 hj (i := o + i) (by omega) (by omega) (sm_of (by omega) (by omega))
        rw [setA_n _ _ hj7, hr i (by omega)] at s2
        obtain ⟨h, e2, r2, r3⟩ := ih (i + 1) (upI f (222 + 73 * c + 1 + i) (dec (w.getD i 0))) (by omega) (by omega) (fun z hz => by
          by_cases e : z = i
          · rw [e, upI_e]
          · rw [upI_n _ _ (by omega)]; exact h3 z (by omega))
        refine ⟨h, ?_, r2, fun z hz => by rw [r3 z hz, upI_n _ _ (by omega)]⟩
        simp (disch := (first | assumption | (refine sm_of ?_ ?_ <;> omega) | omega)) only [iI_add, iI_sub, iI_mul, iI_neg, iI_lt, iI_le, iI_eq, b1_s, b2_s, ↓reduceIte, mk_v, mk_gl23, mk_pl23, mk_gr1, mk_gr5, mk_gr6, mk_gr8, mk_gr9, mk_gr11, mk_gr13, mk_gr14, mk_gr15, mk_gr17, mk_gr18, mk_gr21, mk_gr24, mk_gr28, mk_gr30, mk_gr31, mk_gi0, mk_gi2, mk_gi3, mk_gi4, mk_gi7, mk_gi10, mk_gi12, mk_gi16, mk_gi19, mk_gi20, mk_gi22, mk_gi25, mk_gi26, mk_gi27, mk_gi29, mk_gi32, mk_pi0, mk_pi2, mk_pi3, mk_pi4, mk_pi7, mk_pi10, mk_pi12, mk_pi16, mk_pi19, mk_pi20, mk_pi22, mk_pi25, mk_pi26, mk_pi27, mk_pi29, mk_pi32, mk_ia1, mk_ia2, mk_ia3, mk_ia4, mk_ia5, mk_ia6, mk_ia7, mk_ia8, mk_ia9, mk_ia10, mk_ia11, mk_ia12, mk_ia13, mk_ia14, mk_ia15, mk_ia16, mk_is1, mk_is2, mk_is3, mk_is4, mk_is5, mk_is6, mk_is7, mk_is8, mk_is9, mk_is10, mk_is11, mk_is12, mk_is13, mk_is14, mk_is15, mk_is16, L0, L1, L2, L3, L4, L5, L6, L7, L8, L9, L10, L12, L20, L22, L24, L26, L27, L28, L32, L40, L60, L73, L95, L97, L222, L240, L441, L442, L622, Lm1, Lmh, L11, L13, L14, L15, L16, L17, L18, L19, L21, L23, L25, L30, L31, L33, L36, L39, L41, L44, L48, L53, L54, L55, L57, L58, L59, L91, L93, L98, L99, L100, L105, L106, L112, L114, L115, L119, L122, L160, L180, L200, L255, L1440, L24880, L63, Lm2, pX10_laysNow_l58b, d, s2, setA_e, setA_setA]
        rw [show ((i : Int) + 1) = ((i + 1 : Nat) : Int) by omega]
        exact e2
  obtain ⟨h, e2, r2, r3⟩ := loop2 n 0 (upI (upI g (222 + 73 * c) w.length) (222 + 73 * c + 7) sz) (by omega) (by omega) (fun z hz => by omega)
  have hh : ∀ q : Int, (q < 222 + 73 * c ∨ 222 + 73 * c + 73 ≤ q) → h q = m.1 7 q := fun q hq => by rw [r3 q (by omega), upI_n _ _ (by omega), upI_n _ _ (by omega), r1, if_neg (by omega)]
  have hz' : ∀ q : Int, 222 + 73 * c + 8 ≤ q → q < 222 + 73 * c + 73 → h q = 0 := fun q h1 h2 => by rw [r3 q (by omega), upI_n _ _ (by omega), upI_n _ _ (by omega), r1, if_pos (by omega)]
  have hN1 : NwL ((setA m 7 h).1 7) ls := by rw [setA_e]; exact NwL_cg hN ho (fun q hq => hh q (by omega))
  have hU1 : NwU ((setA m 7 h).1 7) (222 + 73 * c) (w, sz, false, mn, mx, mp, [], 0) := by
    rw [setA_e]
    refine ⟨fun z => (by have : sz = 0 := z; omega), fun _ => ⟨?_, r2, ?_, ?_, ?_, ?_, fun i hi => ?_, fun z => ?_⟩⟩
    · rw [r3 _ (by omega), upI_n _ _ (by omega), upI_e]
    · rw [r3 _ (by omega), upI_e]
    · rw [hz' _ (by omega) (by omega)]; rfl
    · rw [hz' _ (by omega) (by omega)]; rfl
    · rw [hz' _ (by omega) (by omega)]
    · simp at hi
    · cases z
  have hk1 : okU (w, sz, false, mn, mx, mp, [], 0) := ⟨by simp; omega, by simp; omega, fun _ => ⟨hwl.1, hwl.2, hw⟩, fun z => (by cases z), by simp, nb0⟩
  obtain ⟨m1, e3, x1⟩ := m_left hn (M := M) (am := am) hN1 ho hd hc hU1 hk1 (by show sz ≠ 0; omega)
  have e7 : m1.1 7 = (setA m 7 h).1 7 := x1.2.1 7 (by decide) (by decide) (by decide)
  have el : leftL ls (w, sz, false, mn, mx, mp, [], 0) = hitsL ls w := by
    unfold leftL hitsL cntA cnt ahU ahd
    simp
  rw [el] at e3
  refine ⟨m1, ?_, by rw [e7]; exact hU1, fun q hq => ?_, (sx7_set m h).trans x1.w7⟩
  · simp (disch := (first | assumption | (refine sm_of ?_ ?_ <;> omega) | omega)) only [iI_add, iI_sub, iI_mul, iI_neg, iI_lt, iI_le, iI_eq, b1_s, b2_s, ↓reduceIte, mk_v, mk_gl23, mk_pl23, mk_gr1, mk_gr5, mk_gr6, mk_gr8, mk_gr9, mk_gr11, mk_gr13, mk_gr14, mk_gr15, mk_gr17, mk_gr18, mk_gr21, mk_gr24, mk_gr28, mk_gr30, mk_gr31, mk_gi0, mk_gi2, mk_gi3, mk_gi4, mk_gi7, mk_gi10, mk_gi12, mk_gi16, mk_gi19, mk_gi20, mk_gi22, mk_gi25, mk_gi26, mk_gi27, mk_gi29, mk_gi32, mk_pi0, mk_pi2, mk_pi3, mk_pi4, mk_pi7, mk_pi10, mk_pi12, mk_pi16, mk_pi19, mk_pi20, mk_pi22, mk_pi25, mk_pi26, mk_pi27, mk_pi29, mk_pi32, mk_ia1, mk_ia2, mk_ia3, mk_ia4, mk_ia5, mk_ia6, mk_ia7, mk_ia8, mk_ia9, mk_ia10, mk_ia11, mk_ia12, mk_ia13, mk_ia14, mk_ia15, mk_ia16, mk_is1, mk_is2, mk_is3, mk_is4, mk_is5, mk_is6, mk_is7, mk_is8, mk_is9, mk_is10, mk_is11, mk_is12, mk_is13, mk_is14, mk_is15, mk_is16, L0, L1, L2, L3, L4, L5, L6, L7, L8, L9, L10, L12, L20, L22, L24, L26, L27, L28, L32, L40, L60, L73, L95, L97, L222, L240, L441, L442, L622, Lm1, Lmh, L11, L13, L14, L15, L16, L17, L18, L19, L21, L23, L25, L30, L31, L33, L36, L39, L41, L44, L48, L53, L54, L55, L57, L58, L59, L91, L93, L98, L99, L100, L105, L106, L112, L114, L115, L119, L122, L160, L180, L200, L255, L1440, L24880, L63, Lm2, pX10_laysNow, pX10_cursorAt]
    rw [show (0 : Int) = ((0 : Nat) : Int) from rfl, e1]
    simp (disch := (first | assumption | (refine sm_of ?_ ?_ <;> omega) | omega)) only [iI_add, iI_sub, iI_mul, iI_neg, iI_lt, iI_le, iI_eq, b1_s, b2_s, ↓reduceIte, mk_v, mk_gl23, mk_pl23, mk_gr1, mk_gr5, mk_gr6, mk_gr8, mk_gr9, mk_gr11, mk_gr13, mk_gr14, mk_gr15, mk_gr17, mk_gr18, mk_gr21, mk_gr24, mk_gr28, mk_gr30, mk_gr31, mk_gi0, mk_gi2, mk_gi3, mk_gi4, mk_gi7, mk_gi10, mk_gi12, mk_gi16, mk_gi19, mk_gi20, mk_gi22, mk_gi25, mk_gi26, mk_gi27, mk_gi29, mk_gi32, mk_pi0, mk_pi2, mk_pi3, mk_pi4, mk_pi7, mk_pi10, mk_pi12, mk_pi16, mk_pi19, mk_pi20, mk_pi22, mk_pi25, mk_pi26, mk_pi27, mk_pi29, mk_pi32, mk_ia1, mk_ia2, mk_ia3, mk_ia4, mk_ia5, mk_ia6, mk_ia7, mk_ia8, mk_ia9, mk_ia10, mk_ia11, mk_ia12, mk_ia13, mk_ia14, mk_ia15, mk_ia16, mk_is1, mk_is2, mk_is3, mk_is4, mk_is5, mk_is6, mk_is7, mk_is8, mk_is9, mk_is10, mk_is11, mk_is12, mk_is13, mk_is14, mk_is15, mk_is16, L0, L1, L2, L3, L4, L5, L6, L7, L8, L9, L10, L12, L20, L22, L24, L26, L27, L28, L32, L40, L60, L73, L95, L97, L222, L240, L441, L442, L622, Lm1, Lmh, L11, L13, L14, L15, L16, L17, L18, L19, L21, L23, L25, L30, L31, L33, L36, L39, L41, L44, L48, L53, L54, L55, L57, L58, L59, L91, L93, L98, L99, L100, L105, L106, L112, L114, L115, L119, L122, L160, L180, L200, L255, L1440, L24880, L63, Lm2, pX10_laysNow_b33, Int.add_zero, setA_e, setA_setA]
    rw [show (iI 0) = iI ((0 : Nat) : Int) from rfl, e2, e3]; rfl
  · rw [e7, setA_e]; exact hh q hq
