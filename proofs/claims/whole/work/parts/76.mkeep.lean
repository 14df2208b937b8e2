/-! the reference: states kept, the log -/
def kU0 : kU := ([], 0, false, 0, [], 0, [], 0)
def kT0 : kT := ([], 0, fun _ => kU0, [])
theorem apI {f : Int → Int} {a b : Int} (h : a = b) : f a = f b := by rw [h]
/-- the states kept, the latest one first -/
def Kp (m : mS) (ps : List kT) : Prop := ps.length ≤ 40 ∧ m.1 0 22 = ps.length ∧ ∀ i : Nat, i < ps.length → okT (ps.getD i kT0) ∧ NwT (fun q => m.1 12 (622 * ((ps.length : Int) - 1 - i) + q)) (ps.getD i kT0)
theorem keep54 {n : Nat} {M : mm_M} {am : Nat} {m : mS} {c : Nat} (hc : c < 40) (h22 : m.1 0 22 = c) : ∀ (q i : Nat) (f : Int → Int), i ≤ 622 → 622 < i + q → ∃ g, pX10_keep_l54 n q (mk M am (setA m 12 f)) am (iI i) = some (mk M am (setA (setA m 12 g) 0 (upI (m.1 0) 22 (c + 1)))) ∧ ∀ z : Int, g z = if 622 * (c : Int) + i ≤ z ∧ z < 622 * c + 622 then m.1 7 (z - 622 * c) else f z := by
  intro q
  induction q with
  | zero => intro i f h1 h2; omega
  | succ q ih =>
    intro i f h1 h2
    show ∃ g, pX10_keep_l54b n (pX10_keep_l54 n q) (mk M am (setA m 12 f)) am _ = _ ∧ _
    by_cases d : (622 : Int) ≤ i
    · refine ⟨f, ?_, fun z => by rw [if_neg (by omega)]⟩
      simp (disch := (first | assumption | (refine sm_of ?_ ?_ <;> omega) | omega)) only [iI_add, iI_sub, iI_mul, iI_neg, iI_lt, iI_le, iI_eq, b1_s, b2_s, ↓reduceIte, mk_v, mk_gl23, mk_pl23, mk_gr1, mk_gr5, mk_gr6, mk_gr8, mk_gr9, mk_gr11, mk_gr13, mk_gr14, mk_gr15, mk_gr17, mk_gr18, mk_gr21, mk_gr24, mk_gr28, mk_gr30, mk_gr31, mk_gi0, mk_gi2, mk_gi3, mk_gi4, mk_gi7, mk_gi10, mk_gi12, mk_gi16, mk_gi19, mk_gi20, mk_gi22, mk_gi25, mk_gi26, mk_gi27, mk_gi29, mk_gi32, mk_pi0, mk_pi2, mk_pi3, mk_pi4, mk_pi7, mk_pi10, mk_pi12, mk_pi16, mk_pi19, mk_pi20, mk_pi22, mk_pi25, mk_pi26, mk_pi27, mk_pi29, mk_pi32, mk_ia1, mk_ia2, mk_ia3, mk_ia4, mk_ia5, mk_ia6, mk_ia7, mk_ia8, mk_ia9, mk_ia10, mk_ia11, mk_ia12, mk_ia13, mk_ia14, mk_ia15, mk_ia16, mk_is1, mk_is2, mk_is3, mk_is4, mk_is5, mk_is6, mk_is7, mk_is8, mk_is9, mk_is10, mk_is11, mk_is12, mk_is13, mk_is14, mk_is15, mk_is16, L0, L1, L2, L3, L4, L5, L6, L7, L8, L9, L10, L12, L20, L22, L24, L26, L27, L28, L32, L40, L60, L73, L95, L97, L222, L240, L441, L442, L622, Lm1, Lmh, L11, L13, L14, L15, L16, L17, L18, L19, L21, L23, L25, L30, L31, L33, L36, L39, L41, L44, L48, L53, L54, L55, L57, L58, L59, L91, L93, L98, L99, L100, L105, L106, L112, L114, L115, L119, L122, L160, L180, L200, L255, L1440, L24880, L63, Lm2, pX10_keep_l54b, d, pX10_keep_b88, setA_n, h22]
    · obtain ⟨g, e1, r1⟩ := ih (i + 1) (upI f (622 * c + i) (m.1 7 i)) (by omega) (by omega)
      refine ⟨g, ?_, fun z => ?_⟩
      · simp (disch := (first | assumption | (refine sm_of ?_ ?_ <;> omega) | omega)) only [iI_add, iI_sub, iI_mul, iI_neg, iI_lt, iI_le, iI_eq, b1_s, b2_s, ↓reduceIte, mk_v, mk_gl23, mk_pl23, mk_gr1, mk_gr5, mk_gr6, mk_gr8, mk_gr9, mk_gr11, mk_gr13, mk_gr14, mk_gr15, mk_gr17, mk_gr18, mk_gr21, mk_gr24, mk_gr28, mk_gr30, mk_gr31, mk_gi0, mk_gi2, mk_gi3, mk_gi4, mk_gi7, mk_gi10, mk_gi12, mk_gi16, mk_gi19, mk_gi20, mk_gi22, mk_gi25, mk_gi26, mk_gi27, mk_gi29, mk_gi32, mk_pi0, mk_pi2, mk_pi3, mk_pi4, mk_pi7, mk_pi10, mk_pi12, mk_pi16, mk_pi19, mk_pi20, mk_pi22, mk_pi25, mk_pi26, mk_pi27, mk_pi29, mk_pi32, mk_ia1, mk_ia2, mk_ia3, mk_ia4, mk_ia5, mk_ia6, mk_ia7, mk_ia8, mk_ia9, mk_ia10, mk_ia11, mk_ia12, mk_ia13, mk_ia14, mk_ia15, mk_ia16, mk_is1, mk_is2, mk_is3, mk_is4, mk_is5, mk_is6, mk_is7, mk_is8, mk_is9, mk_is10, mk_is11, mk_is12, mk_is13, mk_is14, mk_is15, mk_is16, L0, L1, L2, L3, L4, L5, L6, L7, L8, L9, L10, L12, L20, L22, L24, L26, L27, L28, L32, L40, L60, L73, L95, L97, L222, L240, L441, L442, L622, Lm1, Lmh, L11, L13, L14, L15, L16, L17, L18, L19, L21, L23, L25, L30, L31, L33, L36, L39, L41, L44, L48, L53, L54, L55, L57, L58, L59, L91, L93, L98, L99, L100, L105, L106, L112, L114, L115, L119, L122, L160, L180, L200, L255, L1440, L24880, L63, Lm2, pX10_keep_l54b, d, setA_e, setA_setA, setA_n, h22]
        rw [show ((i : Int) + 1) = ((i + 1 : Nat) : Int) by omega]
        exact e1
      · rw [r1 z]
        by_cases e : z = 622 * c + i
        · rw [if_neg (by omega), e, upI_e, if_pos (by omega)]; exact apI (by omega)
        · rw [upI_n _ _ e]
          by_cases g : 622 * (c : Int) + i ≤ z ∧ z < 622 * c + 622
          · rw [if_pos g, if_pos (by omega)]
          · rw [if_neg g, if_neg (by omega)]
theorem keep13 {n : Nat} {M : mm_M} {am : Nat} {m : mS} (h22 : m.1 0 22 = 40) : ∀ (q i : Nat) (f : Int → Int), 622 ≤ i → i ≤ 24880 → 24880 < i + q → (∀ z : Int, f z = if 0 ≤ z ∧ z < (i : Int) - 622 then m.1 12 (z + 622) else m.1 12 z) → ∃ g, pX10_keep_l13 n q (mk M am (setA m 12 f)) am (iI i) = pX10_keep_l54 n n (mk M am (setA (setA m 0 (upI (m.1 0) 22 39)) 12 g)) am (iI 0) ∧ ∀ z : Int, 0 ≤ z → z < 24258 → g z = m.1 12 (z + 622) := by
  intro q
  induction q with
  | zero => intro i f h0 h1 h2; omega
  | succ q ih =>
    intro i f h0 h1 h2 h3
    show ∃ g, pX10_keep_l13b n (pX10_keep_l13 n q) (mk M am (setA m 12 f)) am _ = _ ∧ _
    by_cases d : (24880 : Int) ≤ i
    · refine ⟨f, ?_, fun z z0 z1 => by rw [h3, if_pos (by omega)]⟩
      simp (disch := (first | assumption | (refine sm_of ?_ ?_ <;> omega) | omega)) only [iI_add, iI_sub, iI_mul, iI_neg, iI_lt, iI_le, iI_eq, b1_s, b2_s, ↓reduceIte, mk_v, mk_gl23, mk_pl23, mk_gr1, mk_gr5, mk_gr6, mk_gr8, mk_gr9, mk_gr11, mk_gr13, mk_gr14, mk_gr15, mk_gr17, mk_gr18, mk_gr21, mk_gr24, mk_gr28, mk_gr30, mk_gr31, mk_gi0, mk_gi2, mk_gi3, mk_gi4, mk_gi7, mk_gi10, mk_gi12, mk_gi16, mk_gi19, mk_gi20, mk_gi22, mk_gi25, mk_gi26, mk_gi27, mk_gi29, mk_gi32, mk_pi0, mk_pi2, mk_pi3, mk_pi4, mk_pi7, mk_pi10, mk_pi12, mk_pi16, mk_pi19, mk_pi20, mk_pi22, mk_pi25, mk_pi26, mk_pi27, mk_pi29, mk_pi32, mk_ia1, mk_ia2, mk_ia3, mk_ia4, mk_ia5, mk_ia6, mk_ia7, mk_ia8, mk_ia9, mk_ia10, mk_ia11, mk_ia12, mk_ia13, mk_ia14, mk_ia15, mk_ia16, mk_is1, mk_is2, mk_is3, mk_is4, mk_is5, mk_is6, mk_is7, mk_is8, mk_is9, mk_is10, mk_is11, mk_is12, mk_is13, mk_is14, mk_is15, mk_is16, L0, L1, L2, L3, L4, L5, L6, L7, L8, L9, L10, L12, L20, L22, L24, L26, L27, L28, L32, L40, L60, L73, L95, L97, L222, L240, L441, L442, L622, Lm1, Lmh, L11, L13, L14, L15, L16, L17, L18, L19, L21, L23, L25, L30, L31, L33, L36, L39, L41, L44, L48, L53, L54, L55, L57, L58, L59, L91, L93, L98, L99, L100, L105, L106, L112, L114, L115, L119, L122, L160, L180, L200, L255, L1440, L24880, L63, Lm2, pX10_keep_l13b, d, setA_n, h22]
      rw [setA_cm _ _ _ (by decide)]; rfl
    · obtain ⟨g, e1, r1⟩ := ih (i + 1) (upI f (i - 622) (m.1 12 i)) (by omega) (by omega) (by omega) (fun z => by
        by_cases e : z = (i : Int) - 622
        · rw [e, upI_e, if_pos (by omega)]; exact apI (by omega)
        · rw [upI_n _ _ e, h3 z]
          by_cases g : 0 ≤ z ∧ z < (i : Int) - 622
          · rw [if_pos g, if_pos (by omega)]
          · rw [if_neg g, if_neg (by omega)])
      refine ⟨g, ?_, r1⟩
      have fi : f i = m.1 12 i := by rw [h3, if_neg (by omega)]
      simp (disch := (first | assumption | (refine sm_of ?_ ?_ <;> omega) | omega)) only [iI_add, iI_sub, iI_mul, iI_neg, iI_lt, iI_le, iI_eq, b1_s, b2_s, ↓reduceIte, mk_v, mk_gl23, mk_pl23, mk_gr1, mk_gr5, mk_gr6, mk_gr8, mk_gr9, mk_gr11, mk_gr13, mk_gr14, mk_gr15, mk_gr17, mk_gr18, mk_gr21, mk_gr24, mk_gr28, mk_gr30, mk_gr31, mk_gi0, mk_gi2, mk_gi3, mk_gi4, mk_gi7, mk_gi10, mk_gi12, mk_gi16, mk_gi19, mk_gi20, mk_gi22, mk_gi25, mk_gi26, mk_gi27, mk_gi29, mk_gi32, mk_pi0, mk_pi2, mk_pi3, mk_pi4, mk_pi7, mk_pi10, mk_pi12, mk_pi16, mk_pi19, mk_pi20, mk_pi22, mk_pi25, mk_pi26, mk_pi27, mk_pi29, mk_pi32, mk_ia1, mk_ia2, mk_ia3, mk_ia4, mk_ia5, mk_ia6, mk_ia7, mk_ia8, mk_ia9, mk_ia10, mk_ia11, mk_ia12, mk_ia13, mk_ia14, mk_ia15, mk_ia16, mk_is1, mk_is2, mk_is3, mk_is4, mk_is5, mk_is6, mk_is7, mk_is8, mk_is9, mk_is10, mk_is11, mk_is12, mk_is13, mk_is14, mk_is15, mk_is16, L0, L1, L2, L3, L4, L5, L6, L7, L8, L9, L10, L12, L20, L22, L24, L26, L27, L28, L32, L40, L60, L73, L95, L97, L222, L240, L441, L442, L622, Lm1, Lmh, L11, L13, L14, L15, L16, L17, L18, L19, L21, L23, L25, L30, L31, L33, L36, L39, L41, L44, L48, L53, L54, L55, L57, L58, L59, L91, L93, L98, L99, L100, L105, L106, L112, L114, L115, L119, L122, L160, L180, L200, L255, L1440, L24880, L63, Lm2, pX10_keep_l13b, d, setA_e, setA_setA, fi]
      rw [show ((i : Int) + 1) = ((i + 1 : Nat) : Int) by omega]
      exact e1
def sxa (m m' : mS) : Prop := m'.2 = m.2 ∧ (∀ j, j ≠ 0 → j ≠ 7 → j ≠ 10 → j ≠ 11 → j ≠ 12 → m'.1 j = m.1 j) ∧ ∀ x, x ≠ 19 → x ≠ 20 → x ≠ 22 → m'.1 0 x = m.1 0 x
theorem sxa.rfl {m : mS} : sxa m m := ⟨Eq.refl _, fun _ _ _ _ _ _ => Eq.refl _, fun _ _ _ _ => Eq.refl _⟩
theorem sxa.trans {m m1 m2 : mS} (h : sxa m m1) (g : sxa m1 m2) : sxa m m2 := ⟨g.1.trans h.1, fun j a b c d e => (g.2.1 j a b c d e).trans (h.2.1 j a b c d e), fun x a b c => (g.2.2 x a b c).trans (h.2.2 x a b c)⟩
theorem sx7.a {m m' : mS} (h : sx7 m m') : sxa m m' := ⟨h.1, fun j a b c d _ => h.2.1 j a b c d, fun x a b _ => h.2.2 x a b⟩
theorem m_keep {n : Nat} (hn : 25000 ≤ n) {M : mm_M} {am : Nat} {m : mS} {T : kT} {ps : List kT} (hT : NwT (m.1 7) T) (ho : okT T) (hK : Kp m ps) : ∃ m', pX10_keep n (mk M am m) am = some (mk M am m') ∧ Kp m' ((T :: ps).take 40) ∧ m'.1 7 = m.1 7 ∧ sxa m m' := by
  obtain ⟨k1, k2, k3⟩ := hK
  by_cases c : ps.length = 40
  · have h40 : m.1 0 22 = 40 := by rw [k2, c]; rfl
    obtain ⟨g, e1, r1⟩ := keep13 (n := n) (M := M) (am := am) h40 n 622 (m.1 12) (by omega) (by omega) (by omega) (fun z => by rw [if_neg (by omega)])
    obtain ⟨g2, e2, r2⟩ := keep54 (n := n) (M := M) (am := am) (m := setA m 0 (upI (m.1 0) 22 39)) (c := 39) (by omega) (by rw [setA_e, upI_e]; rfl) n 0 g (by omega) (by omega)
    rw [setA_self] at e1
    have e2 : pX10_keep_l54 n n (mk M am (setA (setA m 0 (upI (m.1 0) 22 39)) 12 g)) am (iI 0) = _ := e2
    refine ⟨setA (setA (setA m 0 (upI (m.1 0) 22 39)) 12 g2) 0 (upI ((setA m 0 (upI (m.1 0) 22 39)).1 0) 22 (((39 : Nat) : Int) + 1)), ?_, ⟨?_, ?_, fun i hi => ?_⟩, ?_, ?_⟩
    rotate_left
    · simp; omega
    · rw [setA_e, upI_e, List.length_take, List.length_cons, c]; rfl
    · rw [List.length_take, List.length_cons, c] at hi
      rw [List.length_take, List.length_cons, c]
      cases i with
      | zero =>
        refine ⟨by simpa using ho, ?_⟩
        have : (List.take 40 (T :: ps)).getD 0 kT0 = T := by simp
        rw [this]
        refine NwT_cg hT ho (fun q q0 q1 => ?_)
        show (setA (setA (setA m 0 (upI (m.1 0) 22 39)) 12 g2) 0 _).1 12 _ = _
        rw [setA_n _ _ (by decide), setA_e, r2, if_pos (by omega), setA_n _ _ (by decide)]
        exact apI (by omega)
      | succ i =>
        have : (List.take 40 (T :: ps)).getD (i + 1) kT0 = ps.getD i kT0 := by
          rw [List.getD_eq_getElem?_getD, List.getElem?_take, if_pos (by omega), List.getElem?_cons_succ, List.getD_eq_getElem?_getD]
        rw [this]
        obtain ⟨p1, p2⟩ := k3 i (by omega)
        refine ⟨p1, NwT_cg p2 p1 (fun q q0 q1 => ?_)⟩
        show (setA (setA (setA m 0 (upI (m.1 0) 22 39)) 12 g2) 0 _).1 12 _ = m.1 12 _
        rw [setA_n _ _ (by decide), setA_e, r2, if_neg (by omega), r1 _ (by omega) (by omega)]
        exact apI (by omega)
    · rw [setA_n _ _ (by decide), setA_n _ _ (by decide), setA_n _ _ (by decide)]
    · refine ⟨rfl, fun j a b c d e => ?_, fun x a b c => ?_⟩
      · rw [setA_n _ _ a, setA_n _ _ e, setA_n _ _ a]
      · rw [setA_e, upI_n _ _ c, setA_e, upI_n _ _ c]
    · simp (disch := (first | assumption | (refine sm_of ?_ ?_ <;> omega) | omega)) only [iI_add, iI_sub, iI_mul, iI_neg, iI_lt, iI_le, iI_eq, b1_s, b2_s, ↓reduceIte, mk_v, mk_gl23, mk_pl23, mk_gr1, mk_gr5, mk_gr6, mk_gr8, mk_gr9, mk_gr11, mk_gr13, mk_gr14, mk_gr15, mk_gr17, mk_gr18, mk_gr21, mk_gr24, mk_gr28, mk_gr30, mk_gr31, mk_gi0, mk_gi2, mk_gi3, mk_gi4, mk_gi7, mk_gi10, mk_gi12, mk_gi16, mk_gi19, mk_gi20, mk_gi22, mk_gi25, mk_gi26, mk_gi27, mk_gi29, mk_gi32, mk_pi0, mk_pi2, mk_pi3, mk_pi4, mk_pi7, mk_pi10, mk_pi12, mk_pi16, mk_pi19, mk_pi20, mk_pi22, mk_pi25, mk_pi26, mk_pi27, mk_pi29, mk_pi32, mk_ia1, mk_ia2, mk_ia3, mk_ia4, mk_ia5, mk_ia6, mk_ia7, mk_ia8, mk_ia9, mk_ia10, mk_ia11, mk_ia12, mk_ia13, mk_ia14, mk_ia15, mk_ia16, mk_is1, mk_is2, mk_is3, mk_is4, mk_is5, mk_is6, mk_is7, mk_is8, mk_is9, mk_is10, mk_is11, mk_is12, mk_is13, mk_is14, mk_is15, mk_is16, L0, L1, L2, L3, L4, L5, L6, L7, L8, L9, L10, L12, L20, L22, L24, L26, L27, L28, L32, L40, L60, L73, L95, L97, L222, L240, L441, L442, L622, Lm1, Lmh, L11, L13, L14, L15, L16, L17, L18, L19, L21, L23, L25, L30, L31, L33, L36, L39, L41, L44, L48, L53, L54, L55, L57, L58, L59, L91, L93, L98, L99, L100, L105, L106, L112, L114, L115, L119, L122, L160, L180, L200, L255, L1440, L24880, L63, Lm2, pX10_keep, h40]
      rw [show (622 : Int) = ((622 : Nat) : Int) from rfl, e1]
      exact e2
  · obtain ⟨g2, e2, r2⟩ := keep54 (n := n) (M := M) (am := am) (m := m) (c := ps.length) (by omega) k2 n 0 (m.1 12) (by omega) (by omega)
    rw [setA_self] at e2
    have e2 : pX10_keep_l54 n n (mk M am m) am (iI 0) = _ := e2
    have ln' : (List.take 40 (T :: ps)).length = ps.length + 1 := by simp; omega
    refine ⟨setA (setA m 12 g2) 0 (upI (m.1 0) 22 ((ps.length : Int) + 1)), ?_, ⟨?_, ?_, fun i hi => ?_⟩, ?_, ?_⟩
    rotate_left
    · rw [ln']; omega
    · rw [setA_e, upI_e, ln']; omega
    · rw [ln'] at hi ⊢
      cases i with
      | zero =>
        have : (List.take 40 (T :: ps)).getD 0 kT0 = T := by simp
        rw [this]
        refine ⟨ho, NwT_cg hT ho (fun q q0 q1 => ?_)⟩
        show (setA (setA m 12 g2) 0 _).1 12 _ = _
        rw [setA_n _ _ (by decide), setA_e, r2, if_pos (by omega)]
        exact apI (by omega)
      | succ i =>
        have : (List.take 40 (T :: ps)).getD (i + 1) kT0 = ps.getD i kT0 := by
          rw [List.getD_eq_getElem?_getD, List.getElem?_take, if_pos (by omega), List.getElem?_cons_succ, List.getD_eq_getElem?_getD]
        rw [this]
        obtain ⟨p1, p2⟩ := k3 i (by omega)
        refine ⟨p1, NwT_cg p2 p1 (fun q q0 q1 => ?_)⟩
        show (setA (setA m 12 g2) 0 _).1 12 _ = m.1 12 _
        rw [setA_n _ _ (by decide), setA_e, r2, if_neg (by omega)]
        exact apI (by omega)
    · rw [setA_n _ _ (by decide), setA_n _ _ (by decide)]
    · refine ⟨rfl, fun j a b c d e => ?_, fun x a b c => ?_⟩
      · rw [setA_n _ _ a, setA_n _ _ e]
      · rw [setA_e, upI_n _ _ c]
    · have c' : ¬ (ps.length : Int) = 40 := by omega
      simp (disch := (first | assumption | (refine sm_of ?_ ?_ <;> omega) | omega)) only [iI_add, iI_sub, iI_mul, iI_neg, iI_lt, iI_le, iI_eq, b1_s, b2_s, ↓reduceIte, mk_v, mk_gl23, mk_pl23, mk_gr1, mk_gr5, mk_gr6, mk_gr8, mk_gr9, mk_gr11, mk_gr13, mk_gr14, mk_gr15, mk_gr17, mk_gr18, mk_gr21, mk_gr24, mk_gr28, mk_gr30, mk_gr31, mk_gi0, mk_gi2, mk_gi3, mk_gi4, mk_gi7, mk_gi10, mk_gi12, mk_gi16, mk_gi19, mk_gi20, mk_gi22, mk_gi25, mk_gi26, mk_gi27, mk_gi29, mk_gi32, mk_pi0, mk_pi2, mk_pi3, mk_pi4, mk_pi7, mk_pi10, mk_pi12, mk_pi16, mk_pi19, mk_pi20, mk_pi22, mk_pi25, mk_pi26, mk_pi27, mk_pi29, mk_pi32, mk_ia1, mk_ia2, mk_ia3, mk_ia4, mk_ia5, mk_ia6, mk_ia7, mk_ia8, mk_ia9, mk_ia10, mk_ia11, mk_ia12, mk_ia13, mk_ia14, mk_ia15, mk_ia16, mk_is1, mk_is2, mk_is3, mk_is4, mk_is5, mk_is6, mk_is7, mk_is8, mk_is9, mk_is10, mk_is11, mk_is12, mk_is13, mk_is14, mk_is15, mk_is16, L0, L1, L2, L3, L4, L5, L6, L7, L8, L9, L10, L12, L20, L22, L24, L26, L27, L28, L32, L40, L60, L73, L95, L97, L222, L240, L441, L442, L622, Lm1, Lmh, L11, L13, L14, L15, L16, L17, L18, L19, L21, L23, L25, L30, L31, L33, L36, L39, L41, L44, L48, L53, L54, L55, L57, L58, L59, L91, L93, L98, L99, L100, L105, L106, L112, L114, L115, L119, L122, L160, L180, L200, L255, L1440, L24880, L63, Lm2, pX10_keep, k2, c']
      exact e2
def logK (T : kT) (s num : Int) : List kG := ((s, num, (allS T.1 : Int)) :: T.2.2.2).take 60
theorem note15 {n : Nat} {M : mm_M} {am : Nat} {m : mS} {x1 x2 : Int32} : ∀ (q i : Nat) (f : Int → Int), 3 ≤ i → i ≤ 180 → 180 < i + q → (∀ z : Int, f z = if 442 ≤ z ∧ z < 439 + (i : Int) then m.1 7 (z + 3) else m.1 7 z) → ∃ g, pX10_note_l15 n q (mk M am (setA m 7 f)) am x1 x2 (iI i) = pX10_note_b50 n (mk M am (setA m 7 g)) am x1 x2 ∧ ∀ z : Int, g z = if 442 ≤ z ∧ z < 619 then m.1 7 (z + 3) else m.1 7 z := by
  intro q
  induction q with
  | zero => intro i f h0 h1 h2; omega
  | succ q ih =>
    intro i f h0 h1 h2 h3
    show ∃ g, pX10_note_l15b n (pX10_note_l15 n q) (mk M am (setA m 7 f)) am _ _ _ = _ ∧ _
    by_cases d : (180 : Int) ≤ i
    · refine ⟨f, ?_, fun z => by rw [h3 z, show i = 180 by omega]; rfl⟩
      simp (disch := (first | assumption | (refine sm_of ?_ ?_ <;> omega) | omega)) only [iI_add, iI_sub, iI_mul, iI_neg, iI_lt, iI_le, iI_eq, b1_s, b2_s, ↓reduceIte, mk_v, mk_gl23, mk_pl23, mk_gr1, mk_gr5, mk_gr6, mk_gr8, mk_gr9, mk_gr11, mk_gr13, mk_gr14, mk_gr15, mk_gr17, mk_gr18, mk_gr21, mk_gr24, mk_gr28, mk_gr30, mk_gr31, mk_gi0, mk_gi2, mk_gi3, mk_gi4, mk_gi7, mk_gi10, mk_gi12, mk_gi16, mk_gi19, mk_gi20, mk_gi22, mk_gi25, mk_gi26, mk_gi27, mk_gi29, mk_gi32, mk_pi0, mk_pi2, mk_pi3, mk_pi4, mk_pi7, mk_pi10, mk_pi12, mk_pi16, mk_pi19, mk_pi20, mk_pi22, mk_pi25, mk_pi26, mk_pi27, mk_pi29, mk_pi32, mk_ia1, mk_ia2, mk_ia3, mk_ia4, mk_ia5, mk_ia6, mk_ia7, mk_ia8, mk_ia9, mk_ia10, mk_ia11, mk_ia12, mk_ia13, mk_ia14, mk_ia15, mk_ia16, mk_is1, mk_is2, mk_is3, mk_is4, mk_is5, mk_is6, mk_is7, mk_is8, mk_is9, mk_is10, mk_is11, mk_is12, mk_is13, mk_is14, mk_is15, mk_is16, L0, L1, L2, L3, L4, L5, L6, L7, L8, L9, L10, L12, L20, L22, L24, L26, L27, L28, L32, L40, L60, L73, L95, L97, L222, L240, L441, L442, L622, Lm1, Lmh, L11, L13, L14, L15, L16, L17, L18, L19, L21, L23, L25, L30, L31, L33, L36, L39, L41, L44, L48, L53, L54, L55, L57, L58, L59, L91, L93, L98, L99, L100, L105, L106, L112, L114, L115, L119, L122, L160, L180, L200, L255, L1440, L24880, L63, Lm2, pX10_note_l15b, d]
    · obtain ⟨g, e1, r1⟩ := ih (i + 1) (upI f (442 + i - 3) (m.1 7 (442 + i))) (by omega) (by omega) (by omega) (fun z => by
        by_cases e : z = 442 + (i : Int) - 3
        · rw [e, upI_e, if_pos (by omega)]; exact apI (by omega)
        · rw [upI_n _ _ e, h3 z]
          by_cases g : 442 ≤ z ∧ z < 439 + (i : Int)
          · rw [if_pos g, if_pos (by omega)]
          · rw [if_neg g, if_neg (by omega)])
      refine ⟨g, ?_, r1⟩
      have fi : f (442 + i) = m.1 7 (442 + i) := by rw [h3, if_neg (by omega)]
      simp (disch := (first | assumption | (refine sm_of ?_ ?_ <;> omega) | omega)) only [iI_add, iI_sub, iI_mul, iI_neg, iI_lt, iI_le, iI_eq, b1_s, b2_s, ↓reduceIte, mk_v, mk_gl23, mk_pl23, mk_gr1, mk_gr5, mk_gr6, mk_gr8, mk_gr9, mk_gr11, mk_gr13, mk_gr14, mk_gr15, mk_gr17, mk_gr18, mk_gr21, mk_gr24, mk_gr28, mk_gr30, mk_gr31, mk_gi0, mk_gi2, mk_gi3, mk_gi4, mk_gi7, mk_gi10, mk_gi12, mk_gi16, mk_gi19, mk_gi20, mk_gi22, mk_gi25, mk_gi26, mk_gi27, mk_gi29, mk_gi32, mk_pi0, mk_pi2, mk_pi3, mk_pi4, mk_pi7, mk_pi10, mk_pi12, mk_pi16, mk_pi19, mk_pi20, mk_pi22, mk_pi25, mk_pi26, mk_pi27, mk_pi29, mk_pi32, mk_ia1, mk_ia2, mk_ia3, mk_ia4, mk_ia5, mk_ia6, mk_ia7, mk_ia8, mk_ia9, mk_ia10, mk_ia11, mk_ia12, mk_ia13, mk_ia14, mk_ia15, mk_ia16, mk_is1, mk_is2, mk_is3, mk_is4, mk_is5, mk_is6, mk_is7, mk_is8, mk_is9, mk_is10, mk_is11, mk_is12, mk_is13, mk_is14, mk_is15, mk_is16, L0, L1, L2, L3, L4, L5, L6, L7, L8, L9, L10, L12, L20, L22, L24, L26, L27, L28, L32, L40, L60, L73, L95, L97, L222, L240, L441, L442, L622, Lm1, Lmh, L11, L13, L14, L15, L16, L17, L18, L19, L21, L23, L25, L30, L31, L33, L36, L39, L41, L44, L48, L53, L54, L55, L57, L58, L59, L91, L93, L98, L99, L100, L105, L106, L112, L114, L115, L119, L122, L160, L180, L200, L255, L1440, L24880, L63, Lm2, pX10_note_l15b, d, setA_e, setA_setA, fi]
      rw [show ((i : Int) + 1) = ((i + 1 : Nat) : Int) by omega]
      exact e1
theorem note62 {n : Nat} (hn : 60 ≤ n) {M : mm_M} {am : Nat} {m : mS} {ls : List kL} (hN : NwL (m.1 7) ls) (ho : okL ls) {k : Nat} (hk : k < 60) (h441 : m.1 7 441 = k) (s num : Int) : pX10_note_b62 n (mk M am m) am (iI s) (iI num) = some (mk M am (setA m 7 (upI (upI (upI (upI (m.1 7) (442 + 3 * k) s) (442 + 3 * k + 1) num) (442 + 3 * k + 2) (allS ls)) 441 (k + 1)))) := by
  have q := m_all hn (M := M) (am := am) (m := setA m 7 (upI (upI (m.1 7) (442 + 3 * k) s) (442 + 3 * k + 1) num)) (by rw [setA_e]; exact NwL_cg hN ho (fun q hq => by rw [upI_n _ _ (by omega), upI_n _ _ (by omega)])) ho
  have u1 : upI (upI (upI (m.1 7) (442 + 3 * k) s) (442 + 3 * k + 1) num) (442 + 3 * k + 2) (allS ls) 441 = k := by rw [upI_n _ _ (by omega), upI_n _ _ (by omega), upI_n _ _ (by omega), h441]
  simp (disch := (first | assumption | (refine sm_of ?_ ?_ <;> omega) | omega)) only [iI_add, iI_sub, iI_mul, iI_neg, iI_lt, iI_le, iI_eq, b1_s, b2_s, ↓reduceIte, mk_v, mk_gl23, mk_pl23, mk_gr1, mk_gr5, mk_gr6, mk_gr8, mk_gr9, mk_gr11, mk_gr13, mk_gr14, mk_gr15, mk_gr17, mk_gr18, mk_gr21, mk_gr24, mk_gr28, mk_gr30, mk_gr31, mk_gi0, mk_gi2, mk_gi3, mk_gi4, mk_gi7, mk_gi10, mk_gi12, mk_gi16, mk_gi19, mk_gi20, mk_gi22, mk_gi25, mk_gi26, mk_gi27, mk_gi29, mk_gi32, mk_pi0, mk_pi2, mk_pi3, mk_pi4, mk_pi7, mk_pi10, mk_pi12, mk_pi16, mk_pi19, mk_pi20, mk_pi22, mk_pi25, mk_pi26, mk_pi27, mk_pi29, mk_pi32, mk_ia1, mk_ia2, mk_ia3, mk_ia4, mk_ia5, mk_ia6, mk_ia7, mk_ia8, mk_ia9, mk_ia10, mk_ia11, mk_ia12, mk_ia13, mk_ia14, mk_ia15, mk_ia16, mk_is1, mk_is2, mk_is3, mk_is4, mk_is5, mk_is6, mk_is7, mk_is8, mk_is9, mk_is10, mk_is11, mk_is12, mk_is13, mk_is14, mk_is15, mk_is16, L0, L1, L2, L3, L4, L5, L6, L7, L8, L9, L10, L12, L20, L22, L24, L26, L27, L28, L32, L40, L60, L73, L95, L97, L222, L240, L441, L442, L622, Lm1, Lmh, L11, L13, L14, L15, L16, L17, L18, L19, L21, L23, L25, L30, L31, L33, L36, L39, L41, L44, L48, L53, L54, L55, L57, L58, L59, L91, L93, L98, L99, L100, L105, L106, L112, L114, L115, L119, L122, L160, L180, L200, L255, L1440, L24880, L63, Lm2, pX10_note_b62, h441, setA_e, setA_setA, q, u1]
theorem m_note {n : Nat} (hn : 300 ≤ n) {M : mm_M} {am : Nat} {m : mS} {T : kT} (hT : NwT (m.1 7) T) (ho : okT T) (s num : Int) : ∃ nw, pX10_note n (mk M am m) am (iI s) (iI num) = some (mk M am (setA m 7 nw)) ∧ NwT nw (T.1, T.2.1, T.2.2.1, logK T s num) := by
  obtain ⟨h1, h2, h3, h4, h5⟩ := hT
  have l := ho.2.2.2.2.2.1
  have h0 := ho.1
  by_cases c : T.2.2.2.length = 60
  · have h60 : m.1 7 441 = 60 := by rw [h4, c]; rfl
    obtain ⟨g, e1, r1⟩ := note15 (n := n) (M := M) (am := am) (m := m) (x1 := iI s) (x2 := iI num) n 3 (m.1 7) (by omega) (by omega) (by omega) (fun z => by rw [if_neg (by omega)])
    rw [setA_self] at e1
    have g441 : g 441 = 60 := by rw [r1, if_neg (by omega), h60]
    have e2 := note62 (show 60 ≤ n by omega) (M := M) (am := am) (m := setA m 7 (upI g 441 59)) (ls := T.1) (by rw [setA_e]; exact NwL_cg h1 h0 (fun q hq => by rw [upI_n _ _ (by omega), r1, if_neg (by omega)])) h0 (k := 59) (by omega) (by rw [setA_e, upI_e]; rfl) s num
    rw [setA_setA, setA_e] at e2
    refine ⟨upI (upI (upI (upI (upI g 441 59) (442 + 3 * ((59 : Nat) : Int)) s) (442 + 3 * ((59 : Nat) : Int) + 1) num) (442 + 3 * ((59 : Nat) : Int) + 2) (allS T.1)) 441 (((59 : Nat) : Int) + 1), ?_, ?_⟩
    rotate_left
    · generalize hf : upI (upI (upI (upI (upI g 441 59) _ s) _ num) _ _) 441 _ = f
      have fo : ∀ q : Int, q < 441 → f q = m.1 7 q := fun q hq => by rw [← hf, upI_n _ _ (by omega), upI_n _ _ (by omega), upI_n _ _ (by omega), upI_n _ _ (by omega), upI_n _ _ (by omega), r1, if_neg (by omega)]
      have fl : ∀ q : Int, 442 ≤ q → q < 619 → f q = m.1 7 (q + 3) := fun q h h' => by rw [← hf, upI_n _ _ (by omega), upI_n _ _ (by omega), upI_n _ _ (by omega), upI_n _ _ (by omega), upI_n _ _ (by omega), r1, if_pos (by omega)]
      have ll : (logK T s num).length = 60 := by simp [logK]; omega
      refine ⟨NwL_cg h1 h0 (fun q hq => fo q (by omega)), by rw [fo _ (by omega)]; exact h2, fun d hd => NwU_cg (h3 d hd) (ho.2.2.2.2.1 d hd) (fun q a b => fo q (by omega)), ?_, fun i hi => ?_⟩
      · show f 441 = ((logK T s num).length : Int)
        rw [ll, ← hf, upI_e]; rfl
      · have hi : i < (logK T s num).length := hi
        show f (442 + 3 * (((logK T s num).length : Int) - 1 - i)) = _ ∧ f (442 + 3 * (((logK T s num).length : Int) - 1 - i) + 1) = _ ∧ f (442 + 3 * (((logK T s num).length : Int) - 1 - i) + 2) = _
        rw [ll] at hi ⊢
        cases i with
        | zero =>
          have : (logK T s num).getD 0 (0, 0, 0) = (s, num, (allS T.1 : Int)) := by simp [logK]
          rw [this]
          refine ⟨?_, ?_, ?_⟩
          · rw [← hf, upI_n _ _ (by omega), upI_n _ _ (by omega), upI_n _ _ (by omega)]
            rw [show (442 + 3 * (((60 : Nat) : Int) - 1 - ((0 : Nat) : Int)) : Int) = 442 + 3 * ((59 : Nat) : Int) by omega, upI_e]
          · rw [← hf, upI_n _ _ (by omega), upI_n _ _ (by omega)]
            rw [show (442 + 3 * (((60 : Nat) : Int) - 1 - ((0 : Nat) : Int)) + 1 : Int) = 442 + 3 * ((59 : Nat) : Int) + 1 by omega, upI_e]
          · rw [← hf, upI_n _ _ (by omega)]
            rw [show (442 + 3 * (((60 : Nat) : Int) - 1 - ((0 : Nat) : Int)) + 2 : Int) = 442 + 3 * ((59 : Nat) : Int) + 2 by omega, upI_e]
        | succ i =>
          have : (logK T s num).getD (i + 1) (0, 0, 0) = T.2.2.2.getD i (0, 0, 0) := by
            unfold logK
            rw [List.getD_eq_getElem?_getD, List.getElem?_take, if_pos (by omega), List.getElem?_cons_succ, List.getD_eq_getElem?_getD]
          rw [this]
          have := h5 i (by omega)
          rw [c] at this
          rw [fl _ (by omega) (by omega), fl _ (by omega) (by omega), fl _ (by omega) (by omega)]
          rw [show (442 + 3 * (((60 : Nat) : Int) - 1 - ((i + 1 : Nat) : Int)) + 3 : Int) = 442 + 3 * (((60 : Nat) : Int) - 1 - (i : Int)) by omega, show (442 + 3 * (((60 : Nat) : Int) - 1 - ((i + 1 : Nat) : Int)) + 1 + 3 : Int) = 442 + 3 * (((60 : Nat) : Int) - 1 - (i : Int)) + 1 by omega, show (442 + 3 * (((60 : Nat) : Int) - 1 - ((i + 1 : Nat) : Int)) + 2 + 3 : Int) = 442 + 3 * (((60 : Nat) : Int) - 1 - (i : Int)) + 2 by omega]
          exact this
    · simp (disch := (first | assumption | (refine sm_of ?_ ?_ <;> omega) | omega)) only [iI_add, iI_sub, iI_mul, iI_neg, iI_lt, iI_le, iI_eq, b1_s, b2_s, ↓reduceIte, mk_v, mk_gl23, mk_pl23, mk_gr1, mk_gr5, mk_gr6, mk_gr8, mk_gr9, mk_gr11, mk_gr13, mk_gr14, mk_gr15, mk_gr17, mk_gr18, mk_gr21, mk_gr24, mk_gr28, mk_gr30, mk_gr31, mk_gi0, mk_gi2, mk_gi3, mk_gi4, mk_gi7, mk_gi10, mk_gi12, mk_gi16, mk_gi19, mk_gi20, mk_gi22, mk_gi25, mk_gi26, mk_gi27, mk_gi29, mk_gi32, mk_pi0, mk_pi2, mk_pi3, mk_pi4, mk_pi7, mk_pi10, mk_pi12, mk_pi16, mk_pi19, mk_pi20, mk_pi22, mk_pi25, mk_pi26, mk_pi27, mk_pi29, mk_pi32, mk_ia1, mk_ia2, mk_ia3, mk_ia4, mk_ia5, mk_ia6, mk_ia7, mk_ia8, mk_ia9, mk_ia10, mk_ia11, mk_ia12, mk_ia13, mk_ia14, mk_ia15, mk_ia16, mk_is1, mk_is2, mk_is3, mk_is4, mk_is5, mk_is6, mk_is7, mk_is8, mk_is9, mk_is10, mk_is11, mk_is12, mk_is13, mk_is14, mk_is15, mk_is16, L0, L1, L2, L3, L4, L5, L6, L7, L8, L9, L10, L12, L20, L22, L24, L26, L27, L28, L32, L40, L60, L73, L95, L97, L222, L240, L441, L442, L622, Lm1, Lmh, L11, L13, L14, L15, L16, L17, L18, L19, L21, L23, L25, L30, L31, L33, L36, L39, L41, L44, L48, L53, L54, L55, L57, L58, L59, L91, L93, L98, L99, L100, L105, L106, L112, L114, L115, L119, L122, L160, L180, L200, L255, L1440, L24880, L63, Lm2, pX10_note, h60]
      rw [show (3 : Int) = ((3 : Nat) : Int) from rfl, e1]
      simp (disch := (first | assumption | (refine sm_of ?_ ?_ <;> omega) | omega)) only [iI_add, iI_sub, iI_mul, iI_neg, iI_lt, iI_le, iI_eq, b1_s, b2_s, ↓reduceIte, mk_v, mk_gl23, mk_pl23, mk_gr1, mk_gr5, mk_gr6, mk_gr8, mk_gr9, mk_gr11, mk_gr13, mk_gr14, mk_gr15, mk_gr17, mk_gr18, mk_gr21, mk_gr24, mk_gr28, mk_gr30, mk_gr31, mk_gi0, mk_gi2, mk_gi3, mk_gi4, mk_gi7, mk_gi10, mk_gi12, mk_gi16, mk_gi19, mk_gi20, mk_gi22, mk_gi25, mk_gi26, mk_gi27, mk_gi29, mk_gi32, mk_pi0, mk_pi2, mk_pi3, mk_pi4, mk_pi7, mk_pi10, mk_pi12, mk_pi16, mk_pi19, mk_pi20, mk_pi22, mk_pi25, mk_pi26, mk_pi27, mk_pi29, mk_pi32, mk_ia1, mk_ia2, mk_ia3, mk_ia4, mk_ia5, mk_ia6, mk_ia7, mk_ia8, mk_ia9, mk_ia10, mk_ia11, mk_ia12, mk_ia13, mk_ia14, mk_ia15, mk_ia16, mk_is1, mk_is2, mk_is3, mk_is4, mk_is5, mk_is6, mk_is7, mk_is8, mk_is9, mk_is10, mk_is11, mk_is12, mk_is13, mk_is14, mk_is15, mk_is16, L0, L1, L2, L3, L4, L5, L6, L7, L8, L9, L10, L12, L20, L22, L24, L26, L27, L28, L32, L40, L60, L73, L95, L97, L222, L240, L441, L442, L622, Lm1, Lmh, L11, L13, L14, L15, L16, L17, L18, L19, L21, L23, L25, L30, L31, L33, L36, L39, L41, L44, L48, L53, L54, L55, L57, L58, L59, L91, L93, L98, L99, L100, L105, L106, L112, L114, L115, L119, L122, L160, L180, L200, L255, L1440, L24880, L63, Lm2, pX10_note_b50, setA_e, setA_setA, g441]
      exact e2
  · have e2 := note62 (show 60 ≤ n by omega) (M := M) (am := am) (m := m) (ls := T.1) h1 h0 (k := T.2.2.2.length) (by omega) h4 s num
    have ll : (logK T s num).length = T.2.2.2.length + 1 := by simp [logK]; omega
    refine ⟨upI (upI (upI (upI (m.1 7) (442 + 3 * (T.2.2.2.length : Int)) s) (442 + 3 * (T.2.2.2.length : Int) + 1) num) (442 + 3 * (T.2.2.2.length : Int) + 2) (allS T.1)) 441 ((T.2.2.2.length : Int) + 1), ?_, ?_⟩
    rotate_left
    · generalize hf : upI (upI (upI (upI (m.1 7) _ s) _ num) _ _) 441 _ = f
      have fo : ∀ q : Int, q ≠ 441 → q < 442 + 3 * T.2.2.2.length → f q = m.1 7 q := fun q h hq => by rw [← hf, upI_n _ _ (by omega), upI_n _ _ (by omega), upI_n _ _ (by omega), upI_n _ _ (by omega)]
      refine ⟨NwL_cg h1 h0 (fun q hq => fo q (by omega) (by omega)), by rw [fo _ (by omega) (by omega)]; exact h2, fun d hd => NwU_cg (h3 d hd) (ho.2.2.2.2.1 d hd) (fun q a b => fo q (by omega) (by omega)), ?_, fun i hi => ?_⟩
      · show f 441 = ((logK T s num).length : Int)
        rw [ll, ← hf, upI_e]; omega
      · have hi : i < (logK T s num).length := hi
        show f (442 + 3 * (((logK T s num).length : Int) - 1 - i)) = _ ∧ f (442 + 3 * (((logK T s num).length : Int) - 1 - i) + 1) = _ ∧ f (442 + 3 * (((logK T s num).length : Int) - 1 - i) + 2) = _
        rw [ll] at hi ⊢
        cases i with
        | zero =>
          have : (logK T s num).getD 0 (0, 0, 0) = (s, num, (allS T.1 : Int)) := by simp [logK]
          rw [this]
          refine ⟨?_, ?_, ?_⟩
          · rw [← hf, upI_n _ _ (by omega), upI_n _ _ (by omega), upI_n _ _ (by omega)]
            rw [show (442 + 3 * (((T.2.2.2.length + 1 : Nat) : Int) - 1 - ((0 : Nat) : Int)) : Int) = 442 + 3 * (T.2.2.2.length : Int) by omega, upI_e]
          · rw [← hf, upI_n _ _ (by omega), upI_n _ _ (by omega)]
            rw [show (442 + 3 * (((T.2.2.2.length + 1 : Nat) : Int) - 1 - ((0 : Nat) : Int)) + 1 : Int) = 442 + 3 * (T.2.2.2.length : Int) + 1 by omega, upI_e]
          · rw [← hf, upI_n _ _ (by omega)]
            rw [show (442 + 3 * (((T.2.2.2.length + 1 : Nat) : Int) - 1 - ((0 : Nat) : Int)) + 2 : Int) = 442 + 3 * (T.2.2.2.length : Int) + 2 by omega, upI_e]
        | succ i =>
          have : (logK T s num).getD (i + 1) (0, 0, 0) = T.2.2.2.getD i (0, 0, 0) := by
            unfold logK
            rw [List.getD_eq_getElem?_getD, List.getElem?_take, if_pos (by omega), List.getElem?_cons_succ, List.getD_eq_getElem?_getD]
          rw [this]
          have := h5 i (by omega)
          rw [fo _ (by omega) (by omega), fo _ (by omega) (by omega), fo _ (by omega) (by omega)]
          rw [show (442 + 3 * (((T.2.2.2.length + 1 : Nat) : Int) - 1 - ((i + 1 : Nat) : Int)) : Int) = 442 + 3 * ((T.2.2.2.length : Int) - 1 - (i : Int)) by omega]
          exact this
    · have c' : ¬ (T.2.2.2.length : Int) = 60 := by omega
      simp (disch := (first | assumption | (refine sm_of ?_ ?_ <;> omega) | omega)) only [iI_add, iI_sub, iI_mul, iI_neg, iI_lt, iI_le, iI_eq, b1_s, b2_s, ↓reduceIte, mk_v, mk_gl23, mk_pl23, mk_gr1, mk_gr5, mk_gr6, mk_gr8, mk_gr9, mk_gr11, mk_gr13, mk_gr14, mk_gr15, mk_gr17, mk_gr18, mk_gr21, mk_gr24, mk_gr28, mk_gr30, mk_gr31, mk_gi0, mk_gi2, mk_gi3, mk_gi4, mk_gi7, mk_gi10, mk_gi12, mk_gi16, mk_gi19, mk_gi20, mk_gi22, mk_gi25, mk_gi26, mk_gi27, mk_gi29, mk_gi32, mk_pi0, mk_pi2, mk_pi3, mk_pi4, mk_pi7, mk_pi10, mk_pi12, mk_pi16, mk_pi19, mk_pi20, mk_pi22, mk_pi25, mk_pi26, mk_pi27, mk_pi29, mk_pi32, mk_ia1, mk_ia2, mk_ia3, mk_ia4, mk_ia5, mk_ia6, mk_ia7, mk_ia8, mk_ia9, mk_ia10, mk_ia11, mk_ia12, mk_ia13, mk_ia14, mk_ia15, mk_ia16, mk_is1, mk_is2, mk_is3, mk_is4, mk_is5, mk_is6, mk_is7, mk_is8, mk_is9, mk_is10, mk_is11, mk_is12, mk_is13, mk_is14, mk_is15, mk_is16, L0, L1, L2, L3, L4, L5, L6, L7, L8, L9, L10, L12, L20, L22, L24, L26, L27, L28, L32, L40, L60, L73, L95, L97, L222, L240, L441, L442, L622, Lm1, Lmh, L11, L13, L14, L15, L16, L17, L18, L19, L21, L23, L25, L30, L31, L33, L36, L39, L41, L44, L48, L53, L54, L55, L57, L58, L59, L91, L93, L98, L99, L100, L105, L106, L112, L114, L115, L119, L122, L160, L180, L200, L255, L1440, L24880, L63, Lm2, pX10_note, h4, c']
      exact e2
