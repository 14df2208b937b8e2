/-! the reference: texts taken -/
theorem stF_ok (tp : List Int) (r i : Nat) : (∀ xs ∈ (stF tp r i).2, 1 ≤ xs.length ∧ xs.length ≤ 20 ∧ okS xs) ∧ (stF tp r i).2.length ≤ r := by
  induction r generalizing i with
  | zero => exact ⟨fun z hz => by simp [stF] at hz, by simp [stF]⟩
  | succ r ih =>
    simp only [stF]
    have l := rds_len tp 20 i
    have o := rds_ok tp 20 i
    by_cases c : (rds tp 20 i).1 = []
    · rw [if_pos c]; exact ⟨fun z hz => by simp at hz, by simp⟩
    · have l1 : 1 ≤ (rds tp 20 i).1.length := List.length_pos_iff.mpr c
      rw [if_neg c]
      by_cases d : pk tp (rds tp 20 i).2 = -1
      · rw [if_pos d]; exact ⟨fun z hz => by simp at hz; rw [hz]; exact ⟨l1, l, o⟩, by simp⟩
      · rw [if_neg d]
        by_cases e : r = 0 ∨ pk tp (rds tp 20 i).2 ≠ 59
        · rw [if_pos e]; exact ⟨fun z hz => by simp at hz; rw [hz]; exact ⟨l1, l, o⟩, by simp⟩
        · rw [if_neg e]
          obtain ⟨i1, i2⟩ := ih (skp tp (rds tp 20 i).2 + 1)
          refine ⟨fun z hz => ?_, by simp; omega⟩
          rcases List.mem_cons.mp hz with hz | hz
          · rw [hz]; exact ⟨l1, l, o⟩
          · exact i1 z hz
theorem stF_ne {tp : List Int} {r i : Nat} (h : (stF tp r i).1 = -1) : (stF tp r i).2 ≠ [] := by
  cases r with
  | zero => simp [stF] at h
  | succ r =>
    simp only [stF] at h ⊢
    by_cases c : (rds tp 20 i).1 = []
    · rw [if_pos c] at h; simp at h
    · rw [if_neg c]
      by_cases d : pk tp (rds tp 20 i).2 = -1
      · rw [if_pos d]; simp
      · rw [if_neg d]
        by_cases e : r = 0 ∨ pk tp (rds tp 20 i).2 ≠ 59
        · rw [if_pos e]; simp
        · rw [if_neg e]; simp
def numL (xss : List (List Int)) : List kL := (List.range xss.length).map (fun i : Nat => ((i : Int), xss.getD i []))
theorem numL_len (xss : List (List Int)) : (numL xss).length = xss.length := by simp [numL]
theorem numL_get {xss : List (List Int)} {i : Nat} (h : i < xss.length) : lnN (numL xss) i = ((i : Int), xss.getD i []) := by
  unfold lnN numL
  rw [List.getD_eq_getElem?_getD, List.getElem?_map, List.getElem?_range h]; rfl
theorem getD_memL {xss : List (List Int)} {i : Nat} (h : i < xss.length) : xss.getD i [] ∈ xss := by
  rw [List.getD_eq_getElem?_getD, List.getElem?_eq_getElem h]; exact List.getElem_mem h
theorem okT_new {xss : List (List Int)} (h8 : xss.length ≤ 8) (hne : xss ≠ []) (hx : ∀ xs ∈ xss, 1 ≤ xs.length ∧ xs.length ≤ 20 ∧ okS xs) {C : Nat → kU} (hC : ∀ c, c < 3 → okU (C c)) : okT (numL xss, (xss.length : Int), C, []) ∧ (numL xss).length ≠ 0 := by
  have l := numL_len xss
  have hl : xss.length ≠ 0 := fun z => hne (List.eq_nil_of_length_eq_zero z)
  refine ⟨⟨⟨by rw [l]; omega, fun i hi => ?_⟩, fun i j hi hj e => ?_, fun i hi => ?_, ⟨by show (0 : Int) ≤ xss.length; omega, by show (xss.length : Int) ≤ _; omega⟩, hC, by simp, fun z => ?_⟩, by omega⟩
  · have hi : i < xss.length := by have : i < (numL xss).length := hi; omega
    rw [numL_get hi]
    obtain ⟨a, b, c⟩ := hx _ (getD_memL hi)
    exact ⟨a, b, c, ⟨by show (0 : Int) ≤ i; omega, by show (i : Int) ≤ _; omega⟩⟩
  · have hi : i < xss.length := by have : i < (numL xss).length := hi; omega
    have hj : j < xss.length := by have : j < (numL xss).length := hj; omega
    rw [show lnN (numL xss, (xss.length : Int), C, ([] : List kG)).1 i = lnN (numL xss) i from rfl, show lnN (numL xss, (xss.length : Int), C, ([] : List kG)).1 j = lnN (numL xss) j from rfl, numL_get hi, numL_get hj] at e
    have e : (i : Int) = j := e
    omega
  · have hi : i < xss.length := by have : i < (numL xss).length := hi; omega
    show (lnN (numL xss) i).1 < xss.length
    rw [numL_get hi]
    show (i : Int) < _; omega
  · have z : (numL xss).length = 0 := z
    omega
theorem ts2 {n : Nat} {M : mm_M} {am : Nat} {m : mS} : ∀ (q i : Nat) (f : Int → Int), i ≤ 622 → 622 < i + q → (∀ z : Int, 0 ≤ z → z < i → f z = 0) → ∃ g, pX10_takeStore_l2 n q (mk M am (setA m 7 f)) am (iI i) = pX10_takeStore_b22 n (mk M am (setA m 7 g)) am ∧ ∀ z : Int, 0 ≤ z → z < 622 → g z = 0 := by
  intro q
  induction q with
  | zero => intro i f h1 h2; omega
  | succ q ih =>
    intro i f h1 h2 h3
    show ∃ g, pX10_takeStore_l2b n (pX10_takeStore_l2 n q) (mk M am (setA m 7 f)) am _ = _ ∧ _
    by_cases d : (622 : Int) ≤ i
    · refine ⟨f, ?_, fun z z0 z1 => h3 z z0 (by omega)⟩
      simp (disch := (first | assumption | (refine sm_of ?_ ?_ <;> omega) | omega)) only [iI_add, iI_sub, iI_mul, iI_neg, iI_lt, iI_le, iI_eq, b1_s, b2_s, ↓reduceIte, mk_v, mk_gl23, mk_pl23, mk_gr1, mk_gr5, mk_gr6, mk_gr8, mk_gr9, mk_gr11, mk_gr13, mk_gr14, mk_gr15, mk_gr17, mk_gr18, mk_gr21, mk_gr24, mk_gr28, mk_gr30, mk_gr31, mk_gi0, mk_gi2, mk_gi3, mk_gi4, mk_gi7, mk_gi10, mk_gi12, mk_gi16, mk_gi19, mk_gi20, mk_gi22, mk_gi25, mk_gi26, mk_gi27, mk_gi29, mk_gi32, mk_pi0, mk_pi2, mk_pi3, mk_pi4, mk_pi7, mk_pi10, mk_pi12, mk_pi16, mk_pi19, mk_pi20, mk_pi22, mk_pi25, mk_pi26, mk_pi27, mk_pi29, mk_pi32, mk_ia1, mk_ia2, mk_ia3, mk_ia4, mk_ia5, mk_ia6, mk_ia7, mk_ia8, mk_ia9, mk_ia10, mk_ia11, mk_ia12, mk_ia13, mk_ia14, mk_ia15, mk_ia16, mk_is1, mk_is2, mk_is3, mk_is4, mk_is5, mk_is6, mk_is7, mk_is8, mk_is9, mk_is10, mk_is11, mk_is12, mk_is13, mk_is14, mk_is15, mk_is16, L0, L1, L2, L3, L4, L5, L6, L7, L8, L9, L10, L12, L20, L22, L24, L26, L27, L28, L32, L40, L60, L73, L95, L97, L222, L240, L441, L442, L622, Lm1, Lmh, L11, L13, L14, L15, L16, L17, L18, L19, L21, L23, L25, L30, L31, L33, L36, L39, L41, L44, L48, L53, L54, L55, L57, L58, L59, L91, L93, L98, L99, L100, L105, L106, L112, L114, L115, L119, L122, L160, L180, L200, L255, L1440, L24880, L63, Lm2, pX10_takeStore_l2b, d]
    · obtain ⟨g, e1, r1⟩ := ih (i + 1) (upI f i 0) (by omega) (by omega) (fun z z0 z1 => by
        by_cases e : z = i
        · rw [e, upI_e]
        · rw [upI_n _ _ e]; exact h3 z z0 (by omega))
      refine ⟨g, ?_, r1⟩
      simp (disch := (first | assumption | (refine sm_of ?_ ?_ <;> omega) | omega)) only [iI_add, iI_sub, iI_mul, iI_neg, iI_lt, iI_le, iI_eq, b1_s, b2_s, ↓reduceIte, mk_v, mk_gl23, mk_pl23, mk_gr1, mk_gr5, mk_gr6, mk_gr8, mk_gr9, mk_gr11, mk_gr13, mk_gr14, mk_gr15, mk_gr17, mk_gr18, mk_gr21, mk_gr24, mk_gr28, mk_gr30, mk_gr31, mk_gi0, mk_gi2, mk_gi3, mk_gi4, mk_gi7, mk_gi10, mk_gi12, mk_gi16, mk_gi19, mk_gi20, mk_gi22, mk_gi25, mk_gi26, mk_gi27, mk_gi29, mk_gi32, mk_pi0, mk_pi2, mk_pi3, mk_pi4, mk_pi7, mk_pi10, mk_pi12, mk_pi16, mk_pi19, mk_pi20, mk_pi22, mk_pi25, mk_pi26, mk_pi27, mk_pi29, mk_pi32, mk_ia1, mk_ia2, mk_ia3, mk_ia4, mk_ia5, mk_ia6, mk_ia7, mk_ia8, mk_ia9, mk_ia10, mk_ia11, mk_ia12, mk_ia13, mk_ia14, mk_ia15, mk_ia16, mk_is1, mk_is2, mk_is3, mk_is4, mk_is5, mk_is6, mk_is7, mk_is8, mk_is9, mk_is10, mk_is11, mk_is12, mk_is13, mk_is14, mk_is15, mk_is16, L0, L1, L2, L3, L4, L5, L6, L7, L8, L9, L10, L12, L20, L22, L24, L26, L27, L28, L32, L40, L60, L73, L95, L97, L222, L240, L441, L442, L622, Lm1, Lmh, L11, L13, L14, L15, L16, L17, L18, L19, L21, L23, L25, L30, L31, L33, L36, L39, L41, L44, L48, L53, L54, L55, L57, L58, L59, L91, L93, L98, L99, L100, L105, L106, L112, L114, L115, L119, L122, L160, L180, L200, L255, L1440, L24880, L63, Lm2, pX10_takeStore_l2b, d, setA_e, setA_setA]
      rw [show ((i : Int) + 1) = ((i + 1 : Nat) : Int) by omega]
      exact e1
theorem m_tstore {n : Nat} (hn : 25000 ≤ n) {M : mm_M} {am : Nat} {m : mS} {xss : List (List Int)} (h8 : xss.length ≤ 8) (hx : ∀ xs ∈ xss, 1 ≤ xs.length ∧ xs.length ≤ 20 ∧ okS xs) (h7 : m.1 0 7 = xss.length) (hr : ∀ q : Nat, q < xss.length → m.1 2 q = (xss.getD q []).length ∧ rowA (m.1 3) (20 * q) (xss.getD q [])) {C : Nat → kU} (hC : ∀ c, c < 3 → (C c).2.1 = 0) : ∃ m', pX10_takeStore n (mk M am m) am = some (iI xss.length, mk M am m') ∧ NwT (m'.1 7) (numL xss, (xss.length : Int), C, []) ∧ m'.1 0 16 = 0 ∧ m'.1 0 22 = 0 ∧ m'.1 0 32 = 0 ∧ (∀ j, j ≠ 0 → j ≠ 7 → m'.1 j = m.1 j) ∧ ∀ x, x ≠ 16 → x ≠ 22 → x ≠ 32 → m'.1 0 x = m.1 0 x := by
  obtain ⟨g, e1, r1⟩ := ts2 (n := n) (M := M) (am := am) (m := m) n 0 (m.1 7) (by omega) (by omega) (fun z z0 z1 => by omega)
  rw [setA_self] at e1
  have ll := numL_len xss
  have l44 : ∀ (q k : Nat) (f : Int → Int), k ≤ xss.length → xss.length < k + q → f 0 = xss.length → f 1 = xss.length → (∀ z : Int, 222 ≤ z → z < 622 → f z = 0) → (∀ i, i < k → f (2 + 22 * i) = i ∧ f (2 + 22 * i + 1) = (xss.getD i []).length ∧ rowA f (2 + 22 * i + 2) (xss.getD i [])) → ∃ m', pX10_takeStore_l44 n q (mk M am (setA m 7 f)) am (iI k) = some (iI xss.length, mk M am m') ∧ NwT (m'.1 7) (numL xss, (xss.length : Int), C, []) ∧ m'.1 0 16 = 0 ∧ m'.1 0 22 = 0 ∧ m'.1 0 32 = 0 ∧ (∀ j, j ≠ 0 → j ≠ 7 → m'.1 j = m.1 j) ∧ ∀ x, x ≠ 16 → x ≠ 22 → x ≠ 32 → m'.1 0 x = m.1 0 x := by
    intro q
    induction q with
    | zero => intro k f a b; omega
    | succ q ih =>
      intro k f k1 k2 f0 f1 fz fl
      show ∃ m', pX10_takeStore_l44b n (pX10_takeStore_l44 n q) (mk M am (setA m 7 f)) am _ = _ ∧ _
      by_cases d : (xss.length : Int) ≤ k
      · have ek : k = xss.length := by omega
        refine ⟨setA (setA m 7 f) 0 (upI (upI (upI (m.1 0) 16 0) 22 0) 32 0), ?_, ?_, ?_, ?_, ?_, fun j j0 j7 => ?_, fun x a b c => ?_⟩
        · have z := mk_pz32 M am (setA (setA m 7 f) 0 (upI (upI (m.1 0) 16 0) 22 0)) (v := 0) (Or.inl rfl)
          rw [setA_setA, setA_e] at z
          simp (disch := (first | assumption | (refine sm_of ?_ ?_ <;> omega) | omega)) only [iI_add, iI_sub, iI_mul, iI_neg, iI_lt, iI_le, iI_eq, b1_s, b2_s, ↓reduceIte, mk_v, mk_gl23, mk_pl23, mk_gr1, mk_gr5, mk_gr6, mk_gr8, mk_gr9, mk_gr11, mk_gr13, mk_gr14, mk_gr15, mk_gr17, mk_gr18, mk_gr21, mk_gr24, mk_gr28, mk_gr30, mk_gr31, mk_gi0, mk_gi2, mk_gi3, mk_gi4, mk_gi7, mk_gi10, mk_gi12, mk_gi16, mk_gi19, mk_gi20, mk_gi22, mk_gi25, mk_gi26, mk_gi27, mk_gi29, mk_gi32, mk_pi0, mk_pi2, mk_pi3, mk_pi4, mk_pi7, mk_pi10, mk_pi12, mk_pi16, mk_pi19, mk_pi20, mk_pi22, mk_pi25, mk_pi26, mk_pi27, mk_pi29, mk_pi32, mk_ia1, mk_ia2, mk_ia3, mk_ia4, mk_ia5, mk_ia6, mk_ia7, mk_ia8, mk_ia9, mk_ia10, mk_ia11, mk_ia12, mk_ia13, mk_ia14, mk_ia15, mk_ia16, mk_is1, mk_is2, mk_is3, mk_is4, mk_is5, mk_is6, mk_is7, mk_is8, mk_is9, mk_is10, mk_is11, mk_is12, mk_is13, mk_is14, mk_is15, mk_is16, L0, L1, L2, L3, L4, L5, L6, L7, L8, L9, L10, L12, L20, L22, L24, L26, L27, L28, L32, L40, L60, L73, L95, L97, L222, L240, L441, L442, L622, Lm1, Lmh, L11, L13, L14, L15, L16, L17, L18, L19, L21, L23, L25, L30, L31, L33, L36, L39, L41, L44, L48, L53, L54, L55, L57, L58, L59, L91, L93, L98, L99, L100, L105, L106, L112, L114, L115, L119, L122, L160, L180, L200, L255, L1440, L24880, L63, Lm2, pX10_takeStore_l44b, setA_n, h7, d, pX10_takeStore_b89, setA_e, setA_setA, z, upI_n]
        · rw [setA_n _ _ (by decide), setA_e]
          refine ⟨⟨by show f 0 = ((numL xss).length : Int); rw [ll]; exact f0, fun i hi => ?_⟩, f1, fun c hc => ⟨fun _ => fz _ (by omega) (by omega), fun z => absurd (hC c hc) z⟩, by rw [fz 441 (by omega) (by omega)]; rfl, fun i hi => by simp at hi⟩
          have hi : i < xss.length := by have : i < (numL xss).length := hi; omega
          show f (2 + 22 * (i : Int)) = (lnN (numL xss) i).1 ∧ f (2 + 22 * (i : Int) + 1) = ((lnN (numL xss) i).2.length : Int) ∧ rowA f (2 + 22 * i + 2) (lnN (numL xss) i).2
          rw [numL_get hi]
          exact fl i (by omega)
        · rw [setA_e, upI_n _ _ (by decide), upI_n _ _ (by decide), upI_e]
        · rw [setA_e, upI_n _ _ (by decide), upI_e]
        · rw [setA_e, upI_e]
        · rw [setA_n _ _ j0, setA_n _ _ j7]
        · rw [setA_e, upI_n _ _ c, upI_n _ _ b, upI_n _ _ a]
      · have hk : k < xss.length := by omega
        obtain ⟨a1, a2⟩ := hr k hk
        obtain ⟨b1, b2, b3⟩ := hx _ (getD_memL hk)
        obtain ⟨nw, e3, n1, n2, n3⟩ := m_laysS (show 60 ≤ n by omega) (M := M) (am := am) (m := setA m 7 (upI f (2 + 22 * k) k)) b2 (j := 3) (by decide) (by decide) (o := 20 * k) (by omega) (by have : mz 3 = 160 := rfl; rw [this]; omega) (by simp [mz]) (k := k) (by omega) (fun f' _ => by rw [setA_n _ _ (by decide), setA_n _ _ (by decide)]; exact a2)
        rw [setA_setA] at e3
        rw [setA_e] at n3
        obtain ⟨m2, e2, r2⟩ := ih (k + 1) nw (by omega) (by omega) (by rw [n3 _ (by omega), upI_n _ _ (by omega)]; exact f0) (by rw [n3 _ (by omega), upI_n _ _ (by omega)]; exact f1) (fun z z0 z1 => by rw [n3 _ (by omega), upI_n _ _ (by omega)]; exact fz z z0 z1) (fun i hi => by
          by_cases e : i = k
          · subst e
            exact ⟨by rw [n3 _ (by omega), upI_e], n1, n2⟩
          · obtain ⟨c1, c2, c3⟩ := fl i (by omega)
            have l20 := (hx _ (getD_memL (show i < xss.length by omega))).2.1
            exact ⟨by rw [n3 _ (by omega), upI_n _ _ (by omega)]; exact c1, by rw [n3 _ (by omega), upI_n _ _ (by omega)]; exact c2, rowA_cg c3 (fun z hz => by rw [n3 _ (by omega), upI_n _ _ (by omega)])⟩)
        refine ⟨m2, ?_, r2⟩
        simp (disch := (first | assumption | (refine sm_of ?_ ?_ <;> omega) | omega)) only [iI_add, iI_sub, iI_mul, iI_neg, iI_lt, iI_le, iI_eq, b1_s, b2_s, ↓reduceIte, mk_v, mk_gl23, mk_pl23, mk_gr1, mk_gr5, mk_gr6, mk_gr8, mk_gr9, mk_gr11, mk_gr13, mk_gr14, mk_gr15, mk_gr17, mk_gr18, mk_gr21, mk_gr24, mk_gr28, mk_gr30, mk_gr31, mk_gi0, mk_gi2, mk_gi3, mk_gi4, mk_gi7, mk_gi10, mk_gi12, mk_gi16, mk_gi19, mk_gi20, mk_gi22, mk_gi25, mk_gi26, mk_gi27, mk_gi29, mk_gi32, mk_pi0, mk_pi2, mk_pi3, mk_pi4, mk_pi7, mk_pi10, mk_pi12, mk_pi16, mk_pi19, mk_pi20, mk_pi22, mk_pi25, mk_pi26, mk_pi27, mk_pi29, mk_pi32, mk_ia1, mk_ia2, mk_ia3, mk_ia4, mk_ia5, mk_ia6, mk_ia7, mk_ia8, mk_ia9, mk_ia10, mk_ia11, mk_ia12, mk_ia13, mk_ia14, mk_ia15, mk_ia16, mk_is1, mk_is2, mk_is3, mk_is4, mk_is5, mk_is6, mk_is7, mk_is8, mk_is9, mk_is10, mk_is11, mk_is12, mk_is13, mk_is14, mk_is15, mk_is16, L0, L1, L2, L3, L4, L5, L6, L7, L8, L9, L10, L12, L20, L22, L24, L26, L27, L28, L32, L40, L60, L73, L95, L97, L222, L240, L441, L442, L622, Lm1, Lmh, L11, L13, L14, L15, L16, L17, L18, L19, L21, L23, L25, L30, L31, L33, L36, L39, L41, L44, L48, L53, L54, L55, L57, L58, L59, L91, L93, L98, L99, L100, L105, L106, L112, L114, L115, L119, L122, L160, L180, L200, L255, L1440, L24880, L63, Lm2, pX10_takeStore_l44b, setA_n, h7, d, pX10_lineAt, Int.add_zero, setA_e, setA_setA, a1, e3]
        rw [show ((k : Int) + 1) = ((k + 1 : Nat) : Int) by omega]
        exact e2
  obtain ⟨m2, e2, r2⟩ := l44 n 0 (upI (upI g 0 xss.length) 1 xss.length) (by omega) (by omega) (by rw [upI_n _ _ (by omega), upI_e]) (by rw [upI_e]) (fun z z0 z1 => by rw [upI_n _ _ (by omega), upI_n _ _ (by omega)]; exact r1 z (by omega) z1) (fun i hi => by omega)
  refine ⟨m2, ?_, r2⟩
  simp only [pX10_takeStore, mk_v, L0]
  rw [show (iI 0) = iI ((0 : Nat) : Int) from rfl, e1]
  simp (disch := (first | assumption | (refine sm_of ?_ ?_ <;> omega) | omega)) only [iI_add, iI_sub, iI_mul, iI_neg, iI_lt, iI_le, iI_eq, b1_s, b2_s, ↓reduceIte, mk_v, mk_gl23, mk_pl23, mk_gr1, mk_gr5, mk_gr6, mk_gr8, mk_gr9, mk_gr11, mk_gr13, mk_gr14, mk_gr15, mk_gr17, mk_gr18, mk_gr21, mk_gr24, mk_gr28, mk_gr30, mk_gr31, mk_gi0, mk_gi2, mk_gi3, mk_gi4, mk_gi7, mk_gi10, mk_gi12, mk_gi16, mk_gi19, mk_gi20, mk_gi22, mk_gi25, mk_gi26, mk_gi27, mk_gi29, mk_gi32, mk_pi0, mk_pi2, mk_pi3, mk_pi4, mk_pi7, mk_pi10, mk_pi12, mk_pi16, mk_pi19, mk_pi20, mk_pi22, mk_pi25, mk_pi26, mk_pi27, mk_pi29, mk_pi32, mk_ia1, mk_ia2, mk_ia3, mk_ia4, mk_ia5, mk_ia6, mk_ia7, mk_ia8, mk_ia9, mk_ia10, mk_ia11, mk_ia12, mk_ia13, mk_ia14, mk_ia15, mk_ia16, mk_is1, mk_is2, mk_is3, mk_is4, mk_is5, mk_is6, mk_is7, mk_is8, mk_is9, mk_is10, mk_is11, mk_is12, mk_is13, mk_is14, mk_is15, mk_is16, L0, L1, L2, L3, L4, L5, L6, L7, L8, L9, L10, L12, L20, L22, L24, L26, L27, L28, L32, L40, L60, L73, L95, L97, L222, L240, L441, L442, L622, Lm1, Lmh, L11, L13, L14, L15, L16, L17, L18, L19, L21, L23, L25, L30, L31, L33, L36, L39, L41, L44, L48, L53, L54, L55, L57, L58, L59, L91, L93, L98, L99, L100, L105, L106, L112, L114, L115, L119, L122, L160, L180, L200, L255, L1440, L24880, L63, Lm2, pX10_takeStore_b22, setA_n, h7, setA_e, setA_setA]
  exact e2
theorem m_text0 {n : Nat} (hn : 25000 ≤ n) {m : mS} {tp : List Int} {T : kT} {wd : List Int} {ps : List kT} {im : Option kT} {sc : List (List kS)} {rf : Nat → Int} (h : Mdl m tp T wd ps im sc rf) (h1 : (stF tp 8 0).1 = -1) {C : Nat → kU} (hC : ∀ c, c < 3 → okU (C c) ∧ (C c).2.1 = 0) (M : mm_M) (am : Nat) : ∃ m', pX10_text n (mk M am m) am (iI 0) = some (iI (stF tp 8 0).2.length, mk M am m') ∧ Mdl m' [] (numL (stF tp 8 0).2, ((stF tp 8 0).2.length : Int), C, []) [] [] none sc rf := by
  obtain ⟨m1, e1, r1, f1⟩ := m_rdStore (show 300 ≤ n by omega) (M := M) (am := am) h.1
  obtain ⟨q7, qr⟩ := r1 h1
  obtain ⟨o1, o2⟩ := stF_ok tp 8 0
  have hM := h.sk f1.k
  obtain ⟨g1, g2, g3, g4, g5, g6⟩ := hM
  have ne := stF_ne h1
  have okn := okT_new o2 ne o1 (C := C) (fun c hc => (hC c hc).1)
  obtain ⟨m3, e3, t3, c16, c22, c32, cj, cx⟩ := m_tstore hn (M := M) (am := am) (m := setA m1 0 (upI (m1.1 0) 2 0)) (xss := (stF tp 8 0).2) o2 o1 (by rw [setA_e, upI_n _ _ (by decide)]; exact q7) (fun q hq => by rw [setA_n _ _ (by decide), setA_n _ _ (by decide)]; exact qr q hq) (C := C) (fun c hc => (hC c hc).2)
  refine ⟨m3, ?_, ⟨⟨by simp, fun x hx => by simp at hx, by rw [cx 2 (by decide) (by decide) (by decide), setA_e, upI_e]; rfl, fun i hi => by simp at hi⟩, ⟨t3, okn.1, by rw [c16]; rfl, fun i hi => by simp at hi, okS_nil, by simp, fun _ => rfl⟩, ⟨by simp, by rw [c22]; rfl, fun i hi => by simp at hi⟩, ⟨by rw [c32]; rfl, fun I hI => by cases hI⟩, ⟨g5.1, by rw [cx 10 (by decide) (by decide) (by decide), setA_e, upI_n _ _ (by decide)]; exact g5.2.1, fun k hk => (g5.2.2 k hk).cg (by rw [cj 4 (by decide) (by decide), setA_n _ _ (by decide)]) (by rw [cj 5 (by decide) (by decide), setA_n _ _ (by decide)])⟩, by rw [cj 8 (by decide) (by decide), setA_n _ _ (by decide)]; exact g6⟩⟩
  rw [h1] at e1
  simp (disch := (first | assumption | (refine sm_of ?_ ?_ <;> omega) | omega)) only [iI_add, iI_sub, iI_mul, iI_neg, iI_lt, iI_le, iI_eq, b1_s, b2_s, ↓reduceIte, mk_v, mk_gl23, mk_pl23, mk_gr1, mk_gr5, mk_gr6, mk_gr8, mk_gr9, mk_gr11, mk_gr13, mk_gr14, mk_gr15, mk_gr17, mk_gr18, mk_gr21, mk_gr24, mk_gr28, mk_gr30, mk_gr31, mk_gi0, mk_gi2, mk_gi3, mk_gi4, mk_gi7, mk_gi10, mk_gi12, mk_gi16, mk_gi19, mk_gi20, mk_gi22, mk_gi25, mk_gi26, mk_gi27, mk_gi29, mk_gi32, mk_pi0, mk_pi2, mk_pi3, mk_pi4, mk_pi7, mk_pi10, mk_pi12, mk_pi16, mk_pi19, mk_pi20, mk_pi22, mk_pi25, mk_pi26, mk_pi27, mk_pi29, mk_pi32, mk_ia1, mk_ia2, mk_ia3, mk_ia4, mk_ia5, mk_ia6, mk_ia7, mk_ia8, mk_ia9, mk_ia10, mk_ia11, mk_ia12, mk_ia13, mk_ia14, mk_ia15, mk_ia16, mk_is1, mk_is2, mk_is3, mk_is4, mk_is5, mk_is6, mk_is7, mk_is8, mk_is9, mk_is10, mk_is11, mk_is12, mk_is13, mk_is14, mk_is15, mk_is16, L0, L1, L2, L3, L4, L5, L6, L7, L8, L9, L10, L12, L20, L22, L24, L26, L27, L28, L32, L40, L60, L73, L95, L97, L222, L240, L441, L442, L622, Lm1, Lmh, L11, L13, L14, L15, L16, L17, L18, L19, L21, L23, L25, L30, L31, L33, L36, L39, L41, L44, L48, L53, L54, L55, L57, L58, L59, L91, L93, L98, L99, L100, L105, L106, L112, L114, L115, L119, L122, L160, L180, L200, L255, L1440, L24880, L63, Lm2, pX10_text, e1, e3]
theorem m_text0F {n : Nat} (hn : 25000 ≤ n) {m : mS} {tp : List Int} {T : kT} {wd : List Int} {ps : List kT} {im : Option kT} {sc : List (List kS)} {rf : Nat → Int} (h : Mdl m tp T wd ps im sc rf) (h1 : (stF tp 8 0).1 ≠ -1) (hb : -1 ≤ (stF tp 8 0).1 ∧ (stF tp 8 0).1 ≤ 1000) (M : mm_M) (am : Nat) : ∃ m', pX10_text n (mk M am m) am (iI 0) = some (iI (-1), mk M am m') ∧ Mdl m' tp T wd ps im sc rf := by
  obtain ⟨m1, e1, r1, f1⟩ := m_rdStore (show 300 ≤ n by omega) (M := M) (am := am) h.1
  refine ⟨m1, ?_, h.sk f1.k⟩
  simp (disch := (first | assumption | (refine sm_of ?_ ?_ <;> omega) | omega)) only [iI_add, iI_sub, iI_mul, iI_neg, iI_lt, iI_le, iI_eq, b1_s, b2_s, ↓reduceIte, mk_v, mk_gl23, mk_pl23, mk_gr1, mk_gr5, mk_gr6, mk_gr8, mk_gr9, mk_gr11, mk_gr13, mk_gr14, mk_gr15, mk_gr17, mk_gr18, mk_gr21, mk_gr24, mk_gr28, mk_gr30, mk_gr31, mk_gi0, mk_gi2, mk_gi3, mk_gi4, mk_gi7, mk_gi10, mk_gi12, mk_gi16, mk_gi19, mk_gi20, mk_gi22, mk_gi25, mk_gi26, mk_gi27, mk_gi29, mk_gi32, mk_pi0, mk_pi2, mk_pi3, mk_pi4, mk_pi7, mk_pi10, mk_pi12, mk_pi16, mk_pi19, mk_pi20, mk_pi22, mk_pi25, mk_pi26, mk_pi27, mk_pi29, mk_pi32, mk_ia1, mk_ia2, mk_ia3, mk_ia4, mk_ia5, mk_ia6, mk_ia7, mk_ia8, mk_ia9, mk_ia10, mk_ia11, mk_ia12, mk_ia13, mk_ia14, mk_ia15, mk_ia16, mk_is1, mk_is2, mk_is3, mk_is4, mk_is5, mk_is6, mk_is7, mk_is8, mk_is9, mk_is10, mk_is11, mk_is12, mk_is13, mk_is14, mk_is15, mk_is16, L0, L1, L2, L3, L4, L5, L6, L7, L8, L9, L10, L12, L20, L22, L24, L26, L27, L28, L32, L40, L60, L73, L95, L97, L222, L240, L441, L442, L622, Lm1, Lmh, L11, L13, L14, L15, L16, L17, L18, L19, L21, L23, L25, L30, L31, L33, L36, L39, L41, L44, L48, L53, L54, L55, L57, L58, L59, L91, L93, L98, L99, L100, L105, L106, L112, L114, L115, L119, L122, L160, L180, L200, L255, L1440, L24880, L63, Lm2, pX10_text, e1, h1, pX10_text_b22, Int.reduceEq]
theorem m_text1 {n : Nat} (hn : 25000 ≤ n) {m : mS} {tp : List Int} {T : kT} {wd : List Int} {ps : List kT} {im : Option kT} {sc : List (List kS)} {rf : Nat → Int} (h : Mdl m tp T wd ps im sc rf) (hI : Inv T wd ps im sc) (hb : -1 ≤ (scF tp 12 0).1 ∧ (scF tp 12 0).1 ≤ 1000) (M : mm_M) (am : Nat) : ∃ m', pX10_text n (mk M am m) am (iI 1) = some (iI (if sc.length < 4 ∧ (scF tp 12 0).1 = -1 then (sc.length : Int) else -1), mk M am m') ∧ (if sc.length < 4 ∧ (scF tp 12 0).1 = -1 then Mdl m' [] T wd ps im (sc ++ [(scF tp 12 0).2]) rf else Mdl m' tp T wd ps im sc rf) := by
  have l4 := h.2.2.2.2.1.1
  have h10 := h.2.2.2.2.1.2.1
  by_cases c4 : sc.length < 4
  · obtain ⟨m1, e1, r1, y4, y5, f1⟩ := m_rdScript (show 300 ≤ n by omega) (M := M) (am := am) h.1 (s := sc.length) l4
    have old : ∀ k, k < sc.length → NwZ m1 k (sc.getD k []) := fun k hk => by
      obtain ⟨z1, z2, z3⟩ := h.2.2.2.2.1.2.2 k hk
      refine ⟨z1, by rw [y5 _ (by omega)]; exact z2, fun i hi => ?_⟩
      obtain ⟨v1, v2, v3, v4, v5⟩ := z3 i hi
      have l20 := (hI.2.2.2.2.2.2 k hk _ (getD_mem' hi)).2.2.2.2.2.2.1
      refine ⟨by rw [y4 _ (by omega)]; exact v1, by rw [y4 _ (by omega)]; exact v2, by rw [y4 _ (by omega)]; exact v3, by rw [y4 _ (by omega)]; exact v4, fun j hj => ?_⟩
      have hj : j < ((sc.getD k []).getD i kS0).2.2.2.length := hj
      rw [y4 _ (by omega)]
      exact v5 j hj
    obtain ⟨g1, g2, g3, g4, g5, g6⟩ := h
    obtain ⟨a1, a2, a3, a4, a5, a6, a7⟩ := g2
    have q2 : Mq m1 T wd := ⟨by rw [f1.2.1 7 (by decide) (by decide) (by decide)]; exact a1, a2, by rw [f1.2.2 16 (by decide) (by decide)]; exact a3, by rw [f1.2.1 9 (by decide) (by decide) (by decide)]; exact a4, a5, a6, a7⟩
    have b10 : m1.1 0 10 = sc.length := by rw [f1.2.2 10 (by decide) (by decide)]; exact h10
    by_cases c1 : (scF tp 12 0).1 = -1
    · have cc : sc.length < 4 ∧ (scF tp 12 0).1 = -1 := ⟨c4, c1⟩
      simp only [if_pos cc]
      obtain ⟨n1, n2⟩ := r1 c1
      have lz := (scF_ok tp 12 0).2
      refine ⟨setA m1 0 (upI (upI (m1.1 0) 2 0) 10 (sc.length + 1)), ?_, ⟨⟨by simp, fun x hx => by simp at hx, by rw [setA_e, upI_n _ _ (by decide), upI_e]; rfl, fun i hi => by simp at hi⟩, ?_, ?_, ?_, ⟨by simp; omega, by rw [setA_e, upI_e]; simp, fun k hk => ?_⟩, ?_⟩⟩
      · rw [c1] at e1
        simp (disch := (first | assumption | (refine sm_of ?_ ?_ <;> omega) | omega)) only [iI_add, iI_sub, iI_mul, iI_neg, iI_lt, iI_le, iI_eq, b1_s, b2_s, ↓reduceIte, mk_v, mk_gl23, mk_pl23, mk_gr1, mk_gr5, mk_gr6, mk_gr8, mk_gr9, mk_gr11, mk_gr13, mk_gr14, mk_gr15, mk_gr17, mk_gr18, mk_gr21, mk_gr24, mk_gr28, mk_gr30, mk_gr31, mk_gi0, mk_gi2, mk_gi3, mk_gi4, mk_gi7, mk_gi10, mk_gi12, mk_gi16, mk_gi19, mk_gi20, mk_gi22, mk_gi25, mk_gi26, mk_gi27, mk_gi29, mk_gi32, mk_pi0, mk_pi2, mk_pi3, mk_pi4, mk_pi7, mk_pi10, mk_pi12, mk_pi16, mk_pi19, mk_pi20, mk_pi22, mk_pi25, mk_pi26, mk_pi27, mk_pi29, mk_pi32, mk_ia1, mk_ia2, mk_ia3, mk_ia4, mk_ia5, mk_ia6, mk_ia7, mk_ia8, mk_ia9, mk_ia10, mk_ia11, mk_ia12, mk_ia13, mk_ia14, mk_ia15, mk_ia16, mk_is1, mk_is2, mk_is3, mk_is4, mk_is5, mk_is6, mk_is7, mk_is8, mk_is9, mk_is10, mk_is11, mk_is12, mk_is13, mk_is14, mk_is15, mk_is16, L0, L1, L2, L3, L4, L5, L6, L7, L8, L9, L10, L12, L20, L22, L24, L26, L27, L28, L32, L40, L60, L73, L95, L97, L222, L240, L441, L442, L622, Lm1, Lmh, L11, L13, L14, L15, L16, L17, L18, L19, L21, L23, L25, L30, L31, L33, L36, L39, L41, L44, L48, L53, L54, L55, L57, L58, L59, L91, L93, L98, L99, L100, L105, L106, L112, L114, L115, L119, L122, L160, L180, L200, L255, L1440, L24880, L63, Lm2, pX10_text, Int.reduceEq, pX10_text_b22, h10, show ¬ (4 : Int) ≤ sc.length by omega, e1, setA_e, setA_setA, upI_n, b10, upI_e]
        congr 3; omega
      · obtain ⟨p1, p2, p3, p4, p5, p6, p7⟩ := q2
        exact ⟨by rw [setA_n _ _ (by decide)]; exact p1, p2, by rw [setA_e, upI_n _ _ (by decide), upI_n _ _ (by decide)]; exact p3, by rw [setA_n _ _ (by decide)]; exact p4, p5, p6, p7⟩
      · exact g3.cg (by rw [setA_e, upI_n _ _ (by decide), upI_n _ _ (by decide)]; exact f1.2.2 22 (by decide) (by decide)) (by rw [setA_n _ _ (by decide)]; exact f1.2.1 12 (by decide) (by decide) (by decide))
      · exact ⟨by rw [setA_e, upI_n _ _ (by decide), upI_n _ _ (by decide), f1.2.2 32 (by decide) (by decide)]; exact g4.1, by rw [setA_n _ _ (by decide), f1.2.1 16 (by decide) (by decide) (by decide)]; exact g4.2⟩
      · refine NwZ.cg (m := m1) ?_ (setA_n _ _ (by decide)) (setA_n _ _ (by decide))
        simp at hk
        by_cases e : k = sc.length
        · subst e
          have eg : (sc ++ [(scF tp 12 0).2]).getD sc.length [] = (scF tp 12 0).2 := by simp
          rw [eg]
          exact ⟨lz, n1, fun i hi => n2 i hi⟩
        · have eg : (sc ++ [(scF tp 12 0).2]).getD k [] = sc.getD k [] := by
            rw [List.getD_eq_getElem?_getD, List.getElem?_append_left (by omega), List.getD_eq_getElem?_getD]
          rw [eg]
          exact old k (by omega)
      · rw [setA_n _ _ (by decide), f1.2.1 8 (by decide) (by decide) (by decide)]; exact g6
    · have cc : ¬ (sc.length < 4 ∧ (scF tp 12 0).1 = -1) := fun z => c1 z.2
      simp only [if_neg cc]
      refine ⟨m1, ?_, ⟨⟨g1.1, g1.2.1, by rw [f1.2.2 2 (by decide) (by decide)]; exact g1.2.2.1, by rw [f1.2.1 1 (by decide) (by decide) (by decide)]; exact g1.2.2.2⟩, q2, g3.cg (f1.2.2 22 (by decide) (by decide)) (f1.2.1 12 (by decide) (by decide) (by decide)), ⟨by rw [f1.2.2 32 (by decide) (by decide)]; exact g4.1, by rw [f1.2.1 16 (by decide) (by decide) (by decide)]; exact g4.2⟩, ⟨l4, b10, old⟩, by rw [f1.2.1 8 (by decide) (by decide) (by decide)]; exact g6⟩⟩
      simp (disch := (first | assumption | (refine sm_of ?_ ?_ <;> omega) | omega)) only [iI_add, iI_sub, iI_mul, iI_neg, iI_lt, iI_le, iI_eq, b1_s, b2_s, ↓reduceIte, mk_v, mk_gl23, mk_pl23, mk_gr1, mk_gr5, mk_gr6, mk_gr8, mk_gr9, mk_gr11, mk_gr13, mk_gr14, mk_gr15, mk_gr17, mk_gr18, mk_gr21, mk_gr24, mk_gr28, mk_gr30, mk_gr31, mk_gi0, mk_gi2, mk_gi3, mk_gi4, mk_gi7, mk_gi10, mk_gi12, mk_gi16, mk_gi19, mk_gi20, mk_gi22, mk_gi25, mk_gi26, mk_gi27, mk_gi29, mk_gi32, mk_pi0, mk_pi2, mk_pi3, mk_pi4, mk_pi7, mk_pi10, mk_pi12, mk_pi16, mk_pi19, mk_pi20, mk_pi22, mk_pi25, mk_pi26, mk_pi27, mk_pi29, mk_pi32, mk_ia1, mk_ia2, mk_ia3, mk_ia4, mk_ia5, mk_ia6, mk_ia7, mk_ia8, mk_ia9, mk_ia10, mk_ia11, mk_ia12, mk_ia13, mk_ia14, mk_ia15, mk_ia16, mk_is1, mk_is2, mk_is3, mk_is4, mk_is5, mk_is6, mk_is7, mk_is8, mk_is9, mk_is10, mk_is11, mk_is12, mk_is13, mk_is14, mk_is15, mk_is16, L0, L1, L2, L3, L4, L5, L6, L7, L8, L9, L10, L12, L20, L22, L24, L26, L27, L28, L32, L40, L60, L73, L95, L97, L222, L240, L441, L442, L622, Lm1, Lmh, L11, L13, L14, L15, L16, L17, L18, L19, L21, L23, L25, L30, L31, L33, L36, L39, L41, L44, L48, L53, L54, L55, L57, L58, L59, L91, L93, L98, L99, L100, L105, L106, L112, L114, L115, L119, L122, L160, L180, L200, L255, L1440, L24880, L63, Lm2, pX10_text, Int.reduceEq, pX10_text_b22, h10, show ¬ (4 : Int) ≤ sc.length by omega, e1, c1]
  · have cc : ¬ (sc.length < 4 ∧ (scF tp 12 0).1 = -1) := fun z => c4 z.1
    simp only [if_neg cc]
    refine ⟨m, ?_, h⟩
    simp (disch := (first | assumption | (refine sm_of ?_ ?_ <;> omega) | omega)) only [iI_add, iI_sub, iI_mul, iI_neg, iI_lt, iI_le, iI_eq, b1_s, b2_s, ↓reduceIte, mk_v, mk_gl23, mk_pl23, mk_gr1, mk_gr5, mk_gr6, mk_gr8, mk_gr9, mk_gr11, mk_gr13, mk_gr14, mk_gr15, mk_gr17, mk_gr18, mk_gr21, mk_gr24, mk_gr28, mk_gr30, mk_gr31, mk_gi0, mk_gi2, mk_gi3, mk_gi4, mk_gi7, mk_gi10, mk_gi12, mk_gi16, mk_gi19, mk_gi20, mk_gi22, mk_gi25, mk_gi26, mk_gi27, mk_gi29, mk_gi32, mk_pi0, mk_pi2, mk_pi3, mk_pi4, mk_pi7, mk_pi10, mk_pi12, mk_pi16, mk_pi19, mk_pi20, mk_pi22, mk_pi25, mk_pi26, mk_pi27, mk_pi29, mk_pi32, mk_ia1, mk_ia2, mk_ia3, mk_ia4, mk_ia5, mk_ia6, mk_ia7, mk_ia8, mk_ia9, mk_ia10, mk_ia11, mk_ia12, mk_ia13, mk_ia14, mk_ia15, mk_ia16, mk_is1, mk_is2, mk_is3, mk_is4, mk_is5, mk_is6, mk_is7, mk_is8, mk_is9, mk_is10, mk_is11, mk_is12, mk_is13, mk_is14, mk_is15, mk_is16, L0, L1, L2, L3, L4, L5, L6, L7, L8, L9, L10, L12, L20, L22, L24, L26, L27, L28, L32, L40, L60, L73, L95, L97, L222, L240, L441, L442, L622, Lm1, Lmh, L11, L13, L14, L15, L16, L17, L18, L19, L21, L23, L25, L30, L31, L33, L36, L39, L41, L44, L48, L53, L54, L55, L57, L58, L59, L91, L93, L98, L99, L100, L105, L106, L112, L114, L115, L119, L122, L160, L180, L200, L255, L1440, L24880, L63, Lm2, pX10_text, Int.reduceEq, pX10_text_b22, h10, show (4 : Int) ≤ sc.length by omega]
theorem m_text2 {n : Nat} {m : mS} {y : Int} (hy : sm y) (h0 : y ≠ 0) (h1 : y ≠ 1) (M : mm_M) (am : Nat) : pX10_text n (mk M am m) am (iI y) = some (iI (-1), mk M am m) := by
  simp (disch := (first | assumption | (refine sm_of ?_ ?_ <;> omega) | omega)) only [iI_add, iI_sub, iI_mul, iI_neg, iI_lt, iI_le, iI_eq, b1_s, b2_s, ↓reduceIte, mk_v, mk_gl23, mk_pl23, mk_gr1, mk_gr5, mk_gr6, mk_gr8, mk_gr9, mk_gr11, mk_gr13, mk_gr14, mk_gr15, mk_gr17, mk_gr18, mk_gr21, mk_gr24, mk_gr28, mk_gr30, mk_gr31, mk_gi0, mk_gi2, mk_gi3, mk_gi4, mk_gi7, mk_gi10, mk_gi12, mk_gi16, mk_gi19, mk_gi20, mk_gi22, mk_gi25, mk_gi26, mk_gi27, mk_gi29, mk_gi32, mk_pi0, mk_pi2, mk_pi3, mk_pi4, mk_pi7, mk_pi10, mk_pi12, mk_pi16, mk_pi19, mk_pi20, mk_pi22, mk_pi25, mk_pi26, mk_pi27, mk_pi29, mk_pi32, mk_ia1, mk_ia2, mk_ia3, mk_ia4, mk_ia5, mk_ia6, mk_ia7, mk_ia8, mk_ia9, mk_ia10, mk_ia11, mk_ia12, mk_ia13, mk_ia14, mk_ia15, mk_ia16, mk_is1, mk_is2, mk_is3, mk_is4, mk_is5, mk_is6, mk_is7, mk_is8, mk_is9, mk_is10, mk_is11, mk_is12, mk_is13, mk_is14, mk_is15, mk_is16, L0, L1, L2, L3, L4, L5, L6, L7, L8, L9, L10, L12, L20, L22, L24, L26, L27, L28, L32, L40, L60, L73, L95, L97, L222, L240, L441, L442, L622, Lm1, Lmh, L11, L13, L14, L15, L16, L17, L18, L19, L21, L23, L25, L30, L31, L33, L36, L39, L41, L44, L48, L53, L54, L55, L57, L58, L59, L91, L93, L98, L99, L100, L105, L106, L112, L114, L115, L119, L122, L160, L180, L200, L255, L1440, L24880, L63, Lm2, pX10_text, h0, h1, pX10_text_b22]
