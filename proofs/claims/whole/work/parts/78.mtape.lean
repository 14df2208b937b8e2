/-! the reference: the tape and its reading -/
def Tm (m : mS) (tp : List Int) : Prop := tp.length ≤ 240 ∧ bd tp ∧ m.1 0 2 = tp.length ∧ ∀ i : Nat, i < tp.length → m.1 1 i = tp.getD i 0
def Rd (m : mS) (tp : List Int) (i : Nat) (w : Int) : Prop := Tm m tp ∧ i ≤ tp.length ∧ m.1 0 3 = i ∧ m.1 0 4 = w
/-- but for the row j (0: no row) and the fields 3, 4 nothing changes -/
def srj (j : Nat) (m m' : mS) : Prop := m'.2 = m.2 ∧ (∀ k, k ≠ 0 → k ≠ j → m'.1 k = m.1 k) ∧ ∀ x, x ≠ 3 → x ≠ 4 → m'.1 0 x = m.1 0 x
theorem srj.rfl {j : Nat} {m : mS} : srj j m m := ⟨Eq.refl _, fun _ _ _ => Eq.refl _, fun _ _ _ => Eq.refl _⟩
theorem srj.trans {j : Nat} {m m1 m2 : mS} (h : srj j m m1) (g : srj j m1 m2) : srj j m m2 := ⟨g.1.trans h.1, fun k a b => (g.2.1 k a b).trans (h.2.1 k a b), fun x a b => (g.2.2 x a b).trans (h.2.2 x a b)⟩
theorem srj.of0 {j : Nat} {m m' : mS} (h : srj 0 m m') : srj j m m' := ⟨h.1, fun k a _ => h.2.1 k a a, h.2.2⟩
theorem srj_f3 (m : mS) (v : Int) : srj 0 m (setA m 0 (upI (m.1 0) 3 v)) := ⟨rfl, fun k a _ => setA_n _ _ a, fun x a b => by rw [setA_e, upI_n _ _ a]⟩
theorem srj_f4 (m : mS) (v : Int) : srj 0 m (setA m 0 (upI (m.1 0) 4 v)) := ⟨rfl, fun k a _ => setA_n _ _ a, fun x a b => by rw [setA_e, upI_n _ _ b]⟩
theorem Tm.sr {j : Nat} {m m' : mS} {tp : List Int} (h : Tm m tp) (g : srj j m m') (hj : j ≠ 1) : Tm m' tp := ⟨h.1, h.2.1, by rw [g.2.2 2 (by decide) (by decide)]; exact h.2.2.1, by rw [g.2.1 1 (by decide) hj.symm]; exact h.2.2.2⟩
theorem rd_f3 {m : mS} {tp : List Int} {i : Nat} {w : Int} (h : Rd m tp i w) {k : Nat} (hk : k ≤ tp.length) : Rd (setA m 0 (upI (m.1 0) 3 k)) tp k w := ⟨h.1.sr (srj_f3 m k) (by decide), hk, by rw [setA_e, upI_e], by rw [setA_e, upI_n _ _ (by decide)]; exact h.2.2.2⟩
theorem rd_f4 {m : mS} {tp : List Int} {i : Nat} {w : Int} (h : Rd m tp i w) (v : Int) : Rd (setA m 0 (upI (m.1 0) 4 v)) tp i v := ⟨h.1.sr (srj_f4 m v) (by decide), h.2.1, by rw [setA_e, upI_n _ _ (by decide)]; exact h.2.2.1, by rw [setA_e, upI_e]⟩
theorem rd_b38 {n : Nat} {M : mm_M} {am : Nat} {m : mS} {tp : List Int} {i : Nat} {w : Int} (h : Rd m tp i w) : pX10_ahead_b38 n (mk M am m) am = some (iI (atL tp i), mk M am m) := by
  obtain ⟨⟨h1, h2, h3, h4⟩, h5, h6, h7⟩ := h
  unfold atL
  simp (disch := (first | assumption | (refine sm_of ?_ ?_ <;> omega) | omega)) only [iI_add, iI_sub, iI_mul, iI_neg, iI_lt, iI_le, iI_eq, b1_s, b2_s, ↓reduceIte, mk_v, mk_gl23, mk_pl23, mk_gr1, mk_gr5, mk_gr6, mk_gr8, mk_gr9, mk_gr11, mk_gr13, mk_gr14, mk_gr15, mk_gr17, mk_gr18, mk_gr21, mk_gr24, mk_gr28, mk_gr30, mk_gr31, mk_gi0, mk_gi2, mk_gi3, mk_gi4, mk_gi7, mk_gi10, mk_gi12, mk_gi16, mk_gi19, mk_gi20, mk_gi22, mk_gi25, mk_gi26, mk_gi27, mk_gi29, mk_gi32, mk_pi0, mk_pi2, mk_pi3, mk_pi4, mk_pi7, mk_pi10, mk_pi12, mk_pi16, mk_pi19, mk_pi20, mk_pi22, mk_pi25, mk_pi26, mk_pi27, mk_pi29, mk_pi32, mk_ia1, mk_ia2, mk_ia3, mk_ia4, mk_ia5, mk_ia6, mk_ia7, mk_ia8, mk_ia9, mk_ia10, mk_ia11, mk_ia12, mk_ia13, mk_ia14, mk_ia15, mk_ia16, mk_is1, mk_is2, mk_is3, mk_is4, mk_is5, mk_is6, mk_is7, mk_is8, mk_is9, mk_is10, mk_is11, mk_is12, mk_is13, mk_is14, mk_is15, mk_is16, L0, L1, L2, L3, L4, L5, L6, L7, L8, L9, L10, L12, L20, L22, L24, L26, L27, L28, L32, L40, L60, L73, L95, L97, L222, L240, L441, L442, L622, Lm1, Lmh, L11, L13, L14, L15, L16, L17, L18, L19, L21, L23, L25, L30, L31, L33, L36, L39, L41, L44, L48, L53, L54, L55, L57, L58, L59, L91, L93, L98, L99, L100, L105, L106, L112, L114, L115, L119, L122, L160, L180, L200, L255, L1440, L24880, L63, Lm2, pX10_ahead_b38, h3, h6]
  by_cases c : (tp.length : Int) ≤ i
  · rw [if_pos c, if_neg (by omega)]
  · rw [if_neg c, if_pos (by omega), mk_ia1 M am m (by omega) (by omega), b1_s, h4 i (by omega), Int.toNat_natCast]
theorem rd_al {n : Nat} {M : mm_M} {am : Nat} {tp : List Int} {w : Int} : ∀ (k i : Nat) (m : mS), Rd m tp i w → tp.length < i + k → ∃ m', pX10_ahead_l0 n k (mk M am m) am = some (iI (pk tp i), mk M am m') ∧ Rd m' tp (skp tp i) w ∧ srj 0 m m' := by
  intro k
  induction k with
  | zero => intro i m h hk; have := h.2.1; omega
  | succ k ih =>
    intro i m h hk
    have hh := h
    have q := rd_b38 (n := n) (M := M) (am := am) h
    obtain ⟨⟨h1, h2, h3, h4⟩, h5, h6, h7⟩ := h
    by_cases c : i < tp.length ∧ tp.getD i 0 = 32
    · obtain ⟨m2, e2, t2, f2⟩ := ih (i + 1) (setA m 0 (upI (m.1 0) 3 ((i + 1 : Nat) : Int))) (rd_f3 hh (by omega)) (by omega)
      have p1 : pk tp i = pk tp (i + 1) := by unfold pk; rw [skp_b c.1 c.2]
      rw [p1, skp_b c.1 c.2]
      refine ⟨m2, ?_, t2, (srj_f3 m _).trans f2⟩
      show pX10_ahead_l0b n (pX10_ahead_l0 n k) (mk M am m) am = _
      have t := h4 i c.1
      rw [c.2] at t
      simp (disch := (first | assumption | (refine sm_of ?_ ?_ <;> omega) | omega)) only [iI_add, iI_sub, iI_mul, iI_neg, iI_lt, iI_le, iI_eq, b1_s, b2_s, ↓reduceIte, mk_v, mk_gl23, mk_pl23, mk_gr1, mk_gr5, mk_gr6, mk_gr8, mk_gr9, mk_gr11, mk_gr13, mk_gr14, mk_gr15, mk_gr17, mk_gr18, mk_gr21, mk_gr24, mk_gr28, mk_gr30, mk_gr31, mk_gi0, mk_gi2, mk_gi3, mk_gi4, mk_gi7, mk_gi10, mk_gi12, mk_gi16, mk_gi19, mk_gi20, mk_gi22, mk_gi25, mk_gi26, mk_gi27, mk_gi29, mk_gi32, mk_pi0, mk_pi2, mk_pi3, mk_pi4, mk_pi7, mk_pi10, mk_pi12, mk_pi16, mk_pi19, mk_pi20, mk_pi22, mk_pi25, mk_pi26, mk_pi27, mk_pi29, mk_pi32, mk_ia1, mk_ia2, mk_ia3, mk_ia4, mk_ia5, mk_ia6, mk_ia7, mk_ia8, mk_ia9, mk_ia10, mk_ia11, mk_ia12, mk_ia13, mk_ia14, mk_ia15, mk_ia16, mk_is1, mk_is2, mk_is3, mk_is4, mk_is5, mk_is6, mk_is7, mk_is8, mk_is9, mk_is10, mk_is11, mk_is12, mk_is13, mk_is14, mk_is15, mk_is16, L0, L1, L2, L3, L4, L5, L6, L7, L8, L9, L10, L12, L20, L22, L24, L26, L27, L28, L32, L40, L60, L73, L95, L97, L222, L240, L441, L442, L622, Lm1, Lmh, L11, L13, L14, L15, L16, L17, L18, L19, L21, L23, L25, L30, L31, L33, L36, L39, L41, L44, L48, L53, L54, L55, L57, L58, L59, L91, L93, L98, L99, L100, L105, L106, L112, L114, L115, L119, L122, L160, L180, L200, L255, L1440, L24880, L63, Lm2, pX10_ahead_l0b, h3, h6, show ¬ (tp.length : Int) ≤ i by omega, t]
      rw [show ((i : Int) + 1) = ((i + 1 : Nat) : Int) by omega]
      exact e2
    · have p1 : pk tp i = atL tp i := by unfold pk; rw [skp_n c]
      rw [p1, skp_n c]
      refine ⟨m, ?_, hh, srj.rfl⟩
      show pX10_ahead_l0b n (pX10_ahead_l0 n k) (mk M am m) am = _
      by_cases d : (tp.length : Int) ≤ i
      · simp (disch := (first | assumption | (refine sm_of ?_ ?_ <;> omega) | omega)) only [iI_add, iI_sub, iI_mul, iI_neg, iI_lt, iI_le, iI_eq, b1_s, b2_s, ↓reduceIte, mk_v, mk_gl23, mk_pl23, mk_gr1, mk_gr5, mk_gr6, mk_gr8, mk_gr9, mk_gr11, mk_gr13, mk_gr14, mk_gr15, mk_gr17, mk_gr18, mk_gr21, mk_gr24, mk_gr28, mk_gr30, mk_gr31, mk_gi0, mk_gi2, mk_gi3, mk_gi4, mk_gi7, mk_gi10, mk_gi12, mk_gi16, mk_gi19, mk_gi20, mk_gi22, mk_gi25, mk_gi26, mk_gi27, mk_gi29, mk_gi32, mk_pi0, mk_pi2, mk_pi3, mk_pi4, mk_pi7, mk_pi10, mk_pi12, mk_pi16, mk_pi19, mk_pi20, mk_pi22, mk_pi25, mk_pi26, mk_pi27, mk_pi29, mk_pi32, mk_ia1, mk_ia2, mk_ia3, mk_ia4, mk_ia5, mk_ia6, mk_ia7, mk_ia8, mk_ia9, mk_ia10, mk_ia11, mk_ia12, mk_ia13, mk_ia14, mk_ia15, mk_ia16, mk_is1, mk_is2, mk_is3, mk_is4, mk_is5, mk_is6, mk_is7, mk_is8, mk_is9, mk_is10, mk_is11, mk_is12, mk_is13, mk_is14, mk_is15, mk_is16, L0, L1, L2, L3, L4, L5, L6, L7, L8, L9, L10, L12, L20, L22, L24, L26, L27, L28, L32, L40, L60, L73, L95, L97, L222, L240, L441, L442, L622, Lm1, Lmh, L11, L13, L14, L15, L16, L17, L18, L19, L21, L23, L25, L30, L31, L33, L36, L39, L41, L44, L48, L53, L54, L55, L57, L58, L59, L91, L93, L98, L99, L100, L105, L106, L112, L114, L115, L119, L122, L160, L180, L200, L255, L1440, L24880, L63, Lm2, pX10_ahead_l0b, h3, h6, d, q]
      · have t := h4 i (by omega)
        have b := h2.get (i := i) (by omega)
        simp (disch := (first | assumption | (refine sm_of ?_ ?_ <;> omega) | omega)) only [iI_add, iI_sub, iI_mul, iI_neg, iI_lt, iI_le, iI_eq, b1_s, b2_s, ↓reduceIte, mk_v, mk_gl23, mk_pl23, mk_gr1, mk_gr5, mk_gr6, mk_gr8, mk_gr9, mk_gr11, mk_gr13, mk_gr14, mk_gr15, mk_gr17, mk_gr18, mk_gr21, mk_gr24, mk_gr28, mk_gr30, mk_gr31, mk_gi0, mk_gi2, mk_gi3, mk_gi4, mk_gi7, mk_gi10, mk_gi12, mk_gi16, mk_gi19, mk_gi20, mk_gi22, mk_gi25, mk_gi26, mk_gi27, mk_gi29, mk_gi32, mk_pi0, mk_pi2, mk_pi3, mk_pi4, mk_pi7, mk_pi10, mk_pi12, mk_pi16, mk_pi19, mk_pi20, mk_pi22, mk_pi25, mk_pi26, mk_pi27, mk_pi29, mk_pi32, mk_ia1, mk_ia2, mk_ia3, mk_ia4, mk_ia5, mk_ia6, mk_ia7, mk_ia8, mk_ia9, mk_ia10, mk_ia11, mk_ia12, mk_ia13, mk_ia14, mk_ia15, mk_ia16, mk_is1, mk_is2, mk_is3, mk_is4, mk_is5, mk_is6, mk_is7, mk_is8, mk_is9, mk_is10, mk_is11, mk_is12, mk_is13, mk_is14, mk_is15, mk_is16, L0, L1, L2, L3, L4, L5, L6, L7, L8, L9, L10, L12, L20, L22, L24, L26, L27, L28, L32, L40, L60, L73, L95, L97, L222, L240, L441, L442, L622, Lm1, Lmh, L11, L13, L14, L15, L16, L17, L18, L19, L21, L23, L25, L30, L31, L33, L36, L39, L41, L44, L48, L53, L54, L55, L57, L58, L59, L91, L93, L98, L99, L100, L105, L106, L112, L114, L115, L119, L122, L160, L180, L200, L255, L1440, L24880, L63, Lm2, pX10_ahead_l0b, h3, h6, d, t, show ¬ tp.getD i 0 = 32 from fun z => c ⟨by omega, z⟩, q]
theorem m_ahead {n : Nat} (hn : 300 ≤ n) {M : mm_M} {am : Nat} {m : mS} {tp : List Int} {i : Nat} {w : Int} (h : Rd m tp i w) : ∃ m', pX10_ahead n (mk M am m) am = some (iI (pk tp i), mk M am m') ∧ Rd m' tp (skp tp i) w ∧ srj 0 m m' := by
  have := h.1.1
  obtain ⟨m', e, t, f⟩ := rd_al (n := n) (M := M) (am := am) n i m h (by omega)
  exact ⟨m', by simp only [pX10_ahead, mk_v]; exact e, t, f⟩
theorem m_bad {n : Nat} {M : mm_M} {am : Nat} {m : mS} {tp : List Int} {i : Nat} {w : Int} (h : Rd m tp i w) (hw : -1 ≤ w ∧ w ≤ 1000) : ∃ m', pX10_bad n (mk M am m) am = some (mk M am m') ∧ Rd m' tp i (if w = -1 then (i : Int) else w) ∧ srj 0 m m' := by
  have h6 := h.2.2.1
  have h7 := h.2.2.2
  by_cases c : w = -1
  · refine ⟨setA m 0 (upI (m.1 0) 4 i), ?_, by rw [if_pos c]; exact rd_f4 h _, srj_f4 m _⟩
    subst c
    simp (disch := (first | assumption | (refine sm_of ?_ ?_ <;> omega) | omega)) only [iI_add, iI_sub, iI_mul, iI_neg, iI_lt, iI_le, iI_eq, b1_s, b2_s, ↓reduceIte, mk_v, mk_gl23, mk_pl23, mk_gr1, mk_gr5, mk_gr6, mk_gr8, mk_gr9, mk_gr11, mk_gr13, mk_gr14, mk_gr15, mk_gr17, mk_gr18, mk_gr21, mk_gr24, mk_gr28, mk_gr30, mk_gr31, mk_gi0, mk_gi2, mk_gi3, mk_gi4, mk_gi7, mk_gi10, mk_gi12, mk_gi16, mk_gi19, mk_gi20, mk_gi22, mk_gi25, mk_gi26, mk_gi27, mk_gi29, mk_gi32, mk_pi0, mk_pi2, mk_pi3, mk_pi4, mk_pi7, mk_pi10, mk_pi12, mk_pi16, mk_pi19, mk_pi20, mk_pi22, mk_pi25, mk_pi26, mk_pi27, mk_pi29, mk_pi32, mk_ia1, mk_ia2, mk_ia3, mk_ia4, mk_ia5, mk_ia6, mk_ia7, mk_ia8, mk_ia9, mk_ia10, mk_ia11, mk_ia12, mk_ia13, mk_ia14, mk_ia15, mk_ia16, mk_is1, mk_is2, mk_is3, mk_is4, mk_is5, mk_is6, mk_is7, mk_is8, mk_is9, mk_is10, mk_is11, mk_is12, mk_is13, mk_is14, mk_is15, mk_is16, L0, L1, L2, L3, L4, L5, L6, L7, L8, L9, L10, L12, L20, L22, L24, L26, L27, L28, L32, L40, L60, L73, L95, L97, L222, L240, L441, L442, L622, Lm1, Lmh, L11, L13, L14, L15, L16, L17, L18, L19, L21, L23, L25, L30, L31, L33, L36, L39, L41, L44, L48, L53, L54, L55, L57, L58, L59, L91, L93, L98, L99, L100, L105, L106, L112, L114, L115, L119, L122, L160, L180, L200, L255, L1440, L24880, L63, Lm2, pX10_bad, h6, h7]
  · refine ⟨setA m 0 (upI (m.1 0) 4 w), ?_, by rw [if_neg c]; exact rd_f4 h _, srj_f4 m _⟩
    simp (disch := (first | assumption | (refine sm_of ?_ ?_ <;> omega) | omega)) only [iI_add, iI_sub, iI_mul, iI_neg, iI_lt, iI_le, iI_eq, b1_s, b2_s, ↓reduceIte, mk_v, mk_gl23, mk_pl23, mk_gr1, mk_gr5, mk_gr6, mk_gr8, mk_gr9, mk_gr11, mk_gr13, mk_gr14, mk_gr15, mk_gr17, mk_gr18, mk_gr21, mk_gr24, mk_gr28, mk_gr30, mk_gr31, mk_gi0, mk_gi2, mk_gi3, mk_gi4, mk_gi7, mk_gi10, mk_gi12, mk_gi16, mk_gi19, mk_gi20, mk_gi22, mk_gi25, mk_gi26, mk_gi27, mk_gi29, mk_gi32, mk_pi0, mk_pi2, mk_pi3, mk_pi4, mk_pi7, mk_pi10, mk_pi12, mk_pi16, mk_pi19, mk_pi20, mk_pi22, mk_pi25, mk_pi26, mk_pi27, mk_pi29, mk_pi32, mk_ia1, mk_ia2, mk_ia3, mk_ia4, mk_ia5, mk_ia6, mk_ia7, mk_ia8, mk_ia9, mk_ia10, mk_ia11, mk_ia12, mk_ia13, mk_ia14, mk_ia15, mk_ia16, mk_is1, mk_is2, mk_is3, mk_is4, mk_is5, mk_is6, mk_is7, mk_is8, mk_is9, mk_is10, mk_is11, mk_is12, mk_is13, mk_is14, mk_is15, mk_is16, L0, L1, L2, L3, L4, L5, L6, L7, L8, L9, L10, L12, L20, L22, L24, L26, L27, L28, L32, L40, L60, L73, L95, L97, L222, L240, L441, L442, L622, Lm1, Lmh, L11, L13, L14, L15, L16, L17, L18, L19, L21, L23, L25, L30, L31, L33, L36, L39, L41, L44, L48, L53, L54, L55, L57, L58, L59, L91, L93, L98, L99, L100, L105, L106, L112, L114, L115, L119, L122, L160, L180, L200, L255, L1440, L24880, L63, Lm2, pX10_bad, h7, c]
def sgn (b : Int) : Int := if isSg b = true then dec b else -1
theorem sgn_bd (b : Int) : -1 ≤ sgn b ∧ sgn b ≤ 26 := by
  unfold sgn; split
  · rename_i h; have := dec_bd h; omega
  · omega
theorem sgn_m1 (b : Int) : (sgn b = -1) = (isSg b = false) := by
  unfold sgn
  cases h : isSg b
  · simp
  · have := dec_bd h; simp; omega
theorem m_sgn {n : Nat} {M : mm_M} {b : Int} (h : -1 ≤ b ∧ b < 256) : pX10_signOf n M (iI b) = some (iI (sgn b), M) := by
  unfold sgn isSg dec
  simp (disch := (first | assumption | (refine sm_of ?_ ?_ <;> omega) | fail)) only [iI_add, iI_sub, iI_mul, iI_neg, iI_lt, iI_le, iI_eq, b1_s, b2_s, ↓reduceIte, L0, L1, L2, L3, L4, L5, L6, L7, L8, L9, L10, L12, L20, L22, L24, L26, L27, L28, L32, L40, L60, L73, L95, L97, L222, L240, L441, L442, L622, Lm1, Lmh, L11, L13, L14, L15, L16, L17, L18, L19, L21, L23, L25, L30, L31, L33, L36, L39, L41, L44, L48, L53, L54, L55, L57, L58, L59, L91, L93, L98, L99, L100, L105, L106, L112, L114, L115, L119, L122, L160, L180, L200, L255, L1440, L24880, L63, Lm2, pX10_signOf]
  by_cases c1 : b = 95
  · simp [c1]
  · by_cases c2 : b < 97
    · simp [c1, c2, show ¬ (97 ≤ b) by omega]
    · by_cases c3 : 122 < b
      · simp [c1, c2, c3, show ¬ (b ≤ 122) by omega]
      · simp [c1, c2, c3, show (97 ≤ b) by omega, show b ≤ 122 by omega]; congr 1; omega
theorem rds_0 (tp : List Int) (i : Nat) : rds tp 0 i = ([], i) := rfl
theorem rds_t {tp : List Int} {r i : Nat} (h : isSg (pk tp i) = true) : rds tp (r + 1) i = (pk tp i :: (rds tp r (skp tp i + 1)).1, (rds tp r (skp tp i + 1)).2) := by simp only [rds]; rw [if_pos h]
theorem rds_f {tp : List Int} {r i : Nat} (h : isSg (pk tp i) = false) : rds tp (r + 1) i = ([], skp tp i) := by simp only [rds]; rw [if_neg (by rw [h]; decide)]
theorem rds_skp (tp : List Int) (r i : Nat) : (rds tp r (skp tp i)).1 = (rds tp r i).1 ∧ skp tp (rds tp r (skp tp i)).2 = skp tp (rds tp r i).2 ∧ pk tp (rds tp r (skp tp i)).2 = pk tp (rds tp r i).2 := by
  cases r with
  | zero => simp [rds_0, skp_skp, pk_skp]
  | succ r =>
    cases h : isSg (pk tp i)
    · rw [rds_f h, rds_f (by rw [pk_skp]; exact h)]; simp [skp_skp]
    · rw [rds_t h, rds_t (by rw [pk_skp]; exact h)]; simp [skp_skp, pk_skp]
theorem rds_end {tp : List Int} (r i : Nat) (h : (rds tp r i).1.length < r) : isSg (pk tp (rds tp r i).2) = false ∧ skp tp (rds tp r i).2 = (rds tp r i).2 := by
  induction r generalizing i with
  | zero => omega
  | succ r ih =>
    cases c : isSg (pk tp i)
    · rw [rds_f c]; simp [skp_skp, pk_skp, c]
    · rw [rds_t c] at h ⊢
      exact ih (skp tp i + 1) (by simp at h; omega)
/-- what goes wrong with a row of signs (-1: nothing) -/
def rdE (tp : List Int) (most i : Nat) : Int := if (rds tp most i).1 = [] then (skp tp i : Int) else if isSg (pk tp (rds tp most i).2) = true then (skp tp (rds tp most i).2 : Int) else -1
theorem m_rdl {n : Nat} (hn : 300 ≤ n) {M : mm_M} {am : Nat} {tp : List Int} {j : Nat} (hj0 : 1 < j) (hj : j < 17) {o : Int} {most : Nat} (ho0 : 0 ≤ o) (ho1 : o + most ≤ mz j) (hz : mz j ≤ 100000) (hmost : most ≤ 20) : ∀ (k r c p : Nat) (m : mS), Rd m tp p (-1) → skp tp p = p → c + r = most → r + 1 < k → ∃ m', pX10_readSigns_l22 n k (mk M am m) am (am + j) (iI o) (iI most) (iI c) (iI (sgn (pk tp p))) = some (iI ((c + (rds tp r p).1.length : Nat) : Int), mk M am m') ∧ Rd m' tp (skp tp (rds tp r p).2) (if isSg (pk tp (rds tp r p).2) = true then (skp tp (rds tp r p).2 : Int) else -1) ∧ (∀ i : Nat, i < (rds tp r p).1.length → m'.1 j (o + c + i) = dec ((rds tp r p).1.getD i 0)) ∧ (∀ q : Int, ¬ (o + c ≤ q ∧ q < o + most) → m'.1 j q = m.1 j q) ∧ srj j m m' := by
  intro k
  induction k with
  | zero => intro r c p m h hp hc hk; omega
  | succ k ih =>
    intro r c p m h hp hc hk
    show ∃ m', pX10_readSigns_l22b n (pX10_readSigns_l22 n k) (mk M am m) am _ _ _ _ _ = _ ∧ _
    have h7 := h.2.2.2
    have h6 := h.2.2.1
    have hl := h.2.1
    have l240 := h.1.1
    have sb := sgn_bd (pk tp p)
    cases e : isSg (pk tp p)
    · have sn : sgn (pk tp p) = -1 := by rw [sgn_m1]; exact e
      have er : (rds tp r p).1 = [] ∧ skp tp (rds tp r p).2 = p ∧ isSg (pk tp (rds tp r p).2) = false := by
        cases r with
        | zero => exact ⟨rfl, hp, e⟩
        | succ r => rw [rds_f e]; exact ⟨rfl, by rw [skp_skp, hp], by rw [pk_skp]; exact e⟩
      rw [er.1, er.2.1, er.2.2]
      refine ⟨m, ?_, by rw [if_neg (by decide)]; exact h, fun i hi => by simp at hi, fun _ _ => rfl, srj.rfl⟩
      rw [sn]
      simp (disch := (first | assumption | (refine sm_of ?_ ?_ <;> omega) | omega)) only [iI_add, iI_sub, iI_mul, iI_neg, iI_lt, iI_le, iI_eq, b1_s, b2_s, ↓reduceIte, mk_v, mk_gl23, mk_pl23, mk_gr1, mk_gr5, mk_gr6, mk_gr8, mk_gr9, mk_gr11, mk_gr13, mk_gr14, mk_gr15, mk_gr17, mk_gr18, mk_gr21, mk_gr24, mk_gr28, mk_gr30, mk_gr31, mk_gi0, mk_gi2, mk_gi3, mk_gi4, mk_gi7, mk_gi10, mk_gi12, mk_gi16, mk_gi19, mk_gi20, mk_gi22, mk_gi25, mk_gi26, mk_gi27, mk_gi29, mk_gi32, mk_pi0, mk_pi2, mk_pi3, mk_pi4, mk_pi7, mk_pi10, mk_pi12, mk_pi16, mk_pi19, mk_pi20, mk_pi22, mk_pi25, mk_pi26, mk_pi27, mk_pi29, mk_pi32, mk_ia1, mk_ia2, mk_ia3, mk_ia4, mk_ia5, mk_ia6, mk_ia7, mk_ia8, mk_ia9, mk_ia10, mk_ia11, mk_ia12, mk_ia13, mk_ia14, mk_ia15, mk_ia16, mk_is1, mk_is2, mk_is3, mk_is4, mk_is5, mk_is6, mk_is7, mk_is8, mk_is9, mk_is10, mk_is11, mk_is12, mk_is13, mk_is14, mk_is15, mk_is16, L0, L1, L2, L3, L4, L5, L6, L7, L8, L9, L10, L12, L20, L22, L24, L26, L27, L28, L32, L40, L60, L73, L95, L97, L222, L240, L441, L442, L622, Lm1, Lmh, L11, L13, L14, L15, L16, L17, L18, L19, L21, L23, L25, L30, L31, L33, L36, L39, L41, L44, L48, L53, L54, L55, L57, L58, L59, L91, L93, L98, L99, L100, L105, L106, L112, L114, L115, L119, L122, L160, L180, L200, L255, L1440, L24880, L63, Lm2, pX10_readSigns_l22b, h7]
      simp
    · have sn : ¬ sgn (pk tp p) = -1 := by rw [sgn_m1, e]; decide
      cases r with
      | zero =>
        obtain ⟨m1, e1, t1, f1⟩ := m_bad (n := n) (M := M) (am := am) h (by omega)
        rw [if_pos rfl] at t1
        obtain ⟨k', rfl⟩ : ∃ k', k = k' + 1 := ⟨k - 1, by omega⟩
        have h7' := t1.2.2.2
        rw [rds_0]
        refine ⟨m1, ?_, ?_, fun i hi => by simp at hi, fun q _ => by rw [f1.2.1 j (by omega) (by omega)], f1.of0⟩
        · simp (disch := (first | assumption | (refine sm_of ?_ ?_ <;> omega) | omega)) only [iI_add, iI_sub, iI_mul, iI_neg, iI_lt, iI_le, iI_eq, b1_s, b2_s, ↓reduceIte, mk_v, mk_gl23, mk_pl23, mk_gr1, mk_gr5, mk_gr6, mk_gr8, mk_gr9, mk_gr11, mk_gr13, mk_gr14, mk_gr15, mk_gr17, mk_gr18, mk_gr21, mk_gr24, mk_gr28, mk_gr30, mk_gr31, mk_gi0, mk_gi2, mk_gi3, mk_gi4, mk_gi7, mk_gi10, mk_gi12, mk_gi16, mk_gi19, mk_gi20, mk_gi22, mk_gi25, mk_gi26, mk_gi27, mk_gi29, mk_gi32, mk_pi0, mk_pi2, mk_pi3, mk_pi4, mk_pi7, mk_pi10, mk_pi12, mk_pi16, mk_pi19, mk_pi20, mk_pi22, mk_pi25, mk_pi26, mk_pi27, mk_pi29, mk_pi32, mk_ia1, mk_ia2, mk_ia3, mk_ia4, mk_ia5, mk_ia6, mk_ia7, mk_ia8, mk_ia9, mk_ia10, mk_ia11, mk_ia12, mk_ia13, mk_ia14, mk_ia15, mk_ia16, mk_is1, mk_is2, mk_is3, mk_is4, mk_is5, mk_is6, mk_is7, mk_is8, mk_is9, mk_is10, mk_is11, mk_is12, mk_is13, mk_is14, mk_is15, mk_is16, L0, L1, L2, L3, L4, L5, L6, L7, L8, L9, L10, L12, L20, L22, L24, L26, L27, L28, L32, L40, L60, L73, L95, L97, L222, L240, L441, L442, L622, Lm1, Lmh, L11, L13, L14, L15, L16, L17, L18, L19, L21, L23, L25, L30, L31, L33, L36, L39, L41, L44, L48, L53, L54, L55, L57, L58, L59, L91, L93, L98, L99, L100, L105, L106, L112, L114, L115, L119, L122, L160, L180, L200, L255, L1440, L24880, L63, Lm2, pX10_readSigns_l22b, h7, sn, show (c : Int) = most by omega, e1]
          show pX10_readSigns_l22b n (pX10_readSigns_l22 n k') (mk M am m1) am _ _ _ _ _ = _
          simp (disch := (first | assumption | (refine sm_of ?_ ?_ <;> omega) | omega)) only [iI_add, iI_sub, iI_mul, iI_neg, iI_lt, iI_le, iI_eq, b1_s, b2_s, ↓reduceIte, mk_v, mk_gl23, mk_pl23, mk_gr1, mk_gr5, mk_gr6, mk_gr8, mk_gr9, mk_gr11, mk_gr13, mk_gr14, mk_gr15, mk_gr17, mk_gr18, mk_gr21, mk_gr24, mk_gr28, mk_gr30, mk_gr31, mk_gi0, mk_gi2, mk_gi3, mk_gi4, mk_gi7, mk_gi10, mk_gi12, mk_gi16, mk_gi19, mk_gi20, mk_gi22, mk_gi25, mk_gi26, mk_gi27, mk_gi29, mk_gi32, mk_pi0, mk_pi2, mk_pi3, mk_pi4, mk_pi7, mk_pi10, mk_pi12, mk_pi16, mk_pi19, mk_pi20, mk_pi22, mk_pi25, mk_pi26, mk_pi27, mk_pi29, mk_pi32, mk_ia1, mk_ia2, mk_ia3, mk_ia4, mk_ia5, mk_ia6, mk_ia7, mk_ia8, mk_ia9, mk_ia10, mk_ia11, mk_ia12, mk_ia13, mk_ia14, mk_ia15, mk_ia16, mk_is1, mk_is2, mk_is3, mk_is4, mk_is5, mk_is6, mk_is7, mk_is8, mk_is9, mk_is10, mk_is11, mk_is12, mk_is13, mk_is14, mk_is15, mk_is16, L0, L1, L2, L3, L4, L5, L6, L7, L8, L9, L10, L12, L20, L22, L24, L26, L27, L28, L32, L40, L60, L73, L95, L97, L222, L240, L441, L442, L622, Lm1, Lmh, L11, L13, L14, L15, L16, L17, L18, L19, L21, L23, L25, L30, L31, L33, L36, L39, L41, L44, L48, L53, L54, L55, L57, L58, L59, L91, L93, L98, L99, L100, L105, L106, L112, L114, L115, L119, L122, L160, L180, L200, L255, L1440, L24880, L63, Lm2, pX10_readSigns_l22b, h7', show ¬ (p : Int) = -1 by omega]
          congr 3; simp <;> omega
        · show Rd m1 tp (skp tp p) (if isSg (pk tp p) = true then (skp tp p : Int) else -1)
          rw [hp, e, if_pos rfl]; exact t1
      | succ r =>
        have lt := isSg_lt e
        rw [hp] at lt
        have ds : sgn (pk tp p) = dec (pk tp p) := by unfold sgn; rw [if_pos e]
        have w1 : Rd (setA m j (upI (m.1 j) (o + c) (sgn (pk tp p)))) tp p (-1) := ⟨⟨h.1.1, h.1.2.1, by rw [setA_n _ _ (by omega)]; exact h.1.2.2.1, by rw [setA_n _ _ (by omega)]; exact h.1.2.2.2⟩, hl, by rw [setA_n _ _ (by omega)]; exact h6, by rw [setA_n _ _ (by omega)]; exact h7⟩
        have w2 := rd_f3 w1 (k := p + 1) (by omega)
        obtain ⟨m3, e3, t3, f3⟩ := m_ahead hn (M := M) (am := am) w2
        have pb := pk_bd h.1.2.1 (p + 1)
        obtain ⟨m4, e4, t4, a1, a2, f4⟩ := ih r (c + 1) (skp tp (p + 1)) m3 t3 (skp_skp _ _) (by omega) (by omega)
        obtain ⟨z1, z2, z3⟩ := rds_skp tp r (p + 1)
        rw [pk_skp] at e4
        rw [z1] at e4 a1
        rw [z2, z3] at t4
        have er : rds tp (r + 1) p = (pk tp p :: (rds tp r (p + 1)).1, (rds tp r (p + 1)).2) := by rw [rds_t e, hp]
        rw [er]
        have sj : srj j m (setA m j (upI (m.1 j) (o + c) (sgn (pk tp p)))) := ⟨rfl, fun k a b => setA_n _ _ b, fun x a b => by rw [setA_n _ _ (by omega)]⟩
        have m3j : m3.1 j = upI (m.1 j) (o + c) (sgn (pk tp p)) := by rw [f3.2.1 j (by omega) (by omega), setA_n _ _ (by omega), setA_e]
        refine ⟨m4, ?_, t4, fun i hi => ?_, fun q hq => ?_, (sj.trans ((srj_f3 _ _).of0.trans f3.of0)).trans f4⟩
        · have is := mk_is M am m (show 0 < j by omega) hj (i := o + c) (by omega) (by omega) (sm_of (by omega) (by omega)) (sgn (pk tp p))
          have g3 : (setA m j (upI (m.1 j) (o + c) (sgn (pk tp p)))).1 0 3 = p := w1.2.2.1
          simp (disch := (first | assumption | (refine sm_of ?_ ?_ <;> omega) | omega)) only [iI_add, iI_sub, iI_mul, iI_neg, iI_lt, iI_le, iI_eq, b1_s, b2_s, ↓reduceIte, mk_v, mk_gl23, mk_pl23, mk_gr1, mk_gr5, mk_gr6, mk_gr8, mk_gr9, mk_gr11, mk_gr13, mk_gr14, mk_gr15, mk_gr17, mk_gr18, mk_gr21, mk_gr24, mk_gr28, mk_gr30, mk_gr31, mk_gi0, mk_gi2, mk_gi3, mk_gi4, mk_gi7, mk_gi10, mk_gi12, mk_gi16, mk_gi19, mk_gi20, mk_gi22, mk_gi25, mk_gi26, mk_gi27, mk_gi29, mk_gi32, mk_pi0, mk_pi2, mk_pi3, mk_pi4, mk_pi7, mk_pi10, mk_pi12, mk_pi16, mk_pi19, mk_pi20, mk_pi22, mk_pi25, mk_pi26, mk_pi27, mk_pi29, mk_pi32, mk_ia1, mk_ia2, mk_ia3, mk_ia4, mk_ia5, mk_ia6, mk_ia7, mk_ia8, mk_ia9, mk_ia10, mk_ia11, mk_ia12, mk_ia13, mk_ia14, mk_ia15, mk_ia16, mk_is1, mk_is2, mk_is3, mk_is4, mk_is5, mk_is6, mk_is7, mk_is8, mk_is9, mk_is10, mk_is11, mk_is12, mk_is13, mk_is14, mk_is15, mk_is16, L0, L1, L2, L3, L4, L5, L6, L7, L8, L9, L10, L12, L20, L22, L24, L26, L27, L28, L32, L40, L60, L73, L95, L97, L222, L240, L441, L442, L622, Lm1, Lmh, L11, L13, L14, L15, L16, L17, L18, L19, L21, L23, L25, L30, L31, L33, L36, L39, L41, L44, L48, L53, L54, L55, L57, L58, L59, L91, L93, L98, L99, L100, L105, L106, L112, L114, L115, L119, L122, L160, L180, L200, L255, L1440, L24880, L63, Lm2, pX10_readSigns_l22b, h7, sn, show ¬ (c : Int) = most by omega, is, g3]
          rw [show ((p : Int) + 1) = ((p + 1 : Nat) : Int) by omega, e3, b2_s, m_sgn pb, b2_s, show ((c : Int) + 1) = ((c + 1 : Nat) : Int) by omega, e4]
          congr 3; simp <;> omega
        · cases i with
          | zero =>
            rw [a2 _ (by omega), m3j, show (o + (c : Int) + ((0 : Nat) : Int)) = o + c by omega, upI_e, ds]; simp
          | succ i =>
            have := a1 i (by simp at hi; omega)
            rw [show (o + (c : Int) + ((i + 1 : Nat) : Int)) = o + ((c + 1 : Nat) : Int) + i by omega, this]; simp
        · rw [a2 q (by omega), m3j, upI_n _ _ (by omega)]
theorem m_readS {n : Nat} (hn : 300 ≤ n) {M : mm_M} {am : Nat} {m : mS} {tp : List Int} {j : Nat} (hj0 : 1 < j) (hj : j < 17) {o : Int} {most : Nat} (ho0 : 0 ≤ o) (ho1 : o + most ≤ mz j) (hz : mz j ≤ 100000) (hm1 : 1 ≤ most) (hmost : most ≤ 20) {i : Nat} (h : Rd m tp i (-1)) : ∃ m', pX10_readSigns n (mk M am m) am (am + j) (iI o) (iI most) = some (iI (rds tp most i).1.length, mk M am m') ∧ Rd m' tp (skp tp (rds tp most i).2) (rdE tp most i) ∧ rowA (m'.1 j) o (rds tp most i).1 ∧ (∀ q : Int, ¬ (o ≤ q ∧ q < o + most) → m'.1 j q = m.1 j q) ∧ srj j m m' := by
  obtain ⟨m1, e1, t1, f1⟩ := m_ahead hn (M := M) (am := am) h
  have pb := pk_bd h.1.2.1 i
  obtain ⟨z1, z2, z3⟩ := rds_skp tp most i
  unfold rdE
  cases e : isSg (pk tp i)
  · have sn : sgn (pk tp i) = -1 := by rw [sgn_m1]; exact e
    obtain ⟨m2, e2, t2, f2⟩ := m_bad (n := n) (M := M) (am := am) t1 (by omega)
    rw [if_pos rfl] at t2
    obtain ⟨r, rfl⟩ : ∃ r, most = r + 1 := ⟨most - 1, by omega⟩
    rw [rds_f e]
    refine ⟨m2, ?_, by rw [if_pos rfl, skp_skp]; exact t2, fun i hi => by simp at hi, fun q _ => by rw [f2.2.1 j (by omega) (by omega), f1.2.1 j (by omega) (by omega)], f1.of0.trans f2.of0⟩
    obtain ⟨k', rfl⟩ : ∃ k', n = k' + 1 := ⟨n - 1, by omega⟩
    simp only [pX10_readSigns, mk_v, e1, b2_s, m_sgn pb, sn, Lm1, ↓reduceIte, e2, b1_s]
    show pX10_readSigns_l22b _ (pX10_readSigns_l22 _ k') (mk M am m2) am _ _ _ _ _ = _
    have h7' := t2.2.2.2
    have hl := t1.2.1
    have l240 := h.1.1
    simp (disch := (first | assumption | (refine sm_of ?_ ?_ <;> omega) | omega)) only [iI_add, iI_sub, iI_mul, iI_neg, iI_lt, iI_le, iI_eq, b1_s, b2_s, ↓reduceIte, mk_v, mk_gl23, mk_pl23, mk_gr1, mk_gr5, mk_gr6, mk_gr8, mk_gr9, mk_gr11, mk_gr13, mk_gr14, mk_gr15, mk_gr17, mk_gr18, mk_gr21, mk_gr24, mk_gr28, mk_gr30, mk_gr31, mk_gi0, mk_gi2, mk_gi3, mk_gi4, mk_gi7, mk_gi10, mk_gi12, mk_gi16, mk_gi19, mk_gi20, mk_gi22, mk_gi25, mk_gi26, mk_gi27, mk_gi29, mk_gi32, mk_pi0, mk_pi2, mk_pi3, mk_pi4, mk_pi7, mk_pi10, mk_pi12, mk_pi16, mk_pi19, mk_pi20, mk_pi22, mk_pi25, mk_pi26, mk_pi27, mk_pi29, mk_pi32, mk_ia1, mk_ia2, mk_ia3, mk_ia4, mk_ia5, mk_ia6, mk_ia7, mk_ia8, mk_ia9, mk_ia10, mk_ia11, mk_ia12, mk_ia13, mk_ia14, mk_ia15, mk_ia16, mk_is1, mk_is2, mk_is3, mk_is4, mk_is5, mk_is6, mk_is7, mk_is8, mk_is9, mk_is10, mk_is11, mk_is12, mk_is13, mk_is14, mk_is15, mk_is16, L0, L1, L2, L3, L4, L5, L6, L7, L8, L9, L10, L12, L20, L22, L24, L26, L27, L28, L32, L40, L60, L73, L95, L97, L222, L240, L441, L442, L622, Lm1, Lmh, L11, L13, L14, L15, L16, L17, L18, L19, L21, L23, L25, L30, L31, L33, L36, L39, L41, L44, L48, L53, L54, L55, L57, L58, L59, L91, L93, L98, L99, L100, L105, L106, L112, L114, L115, L119, L122, L160, L180, L200, L255, L1440, L24880, L63, Lm2, pX10_readSigns_l22b, h7', show ¬ (skp tp i : Int) = -1 by omega]
    rfl
  · have sn : ¬ sgn (pk tp i) = -1 := by rw [sgn_m1, e]; decide
    have sb := sgn_bd (pk tp i)
    obtain ⟨m2, e2, t2, a1, a2, f2⟩ := m_rdl hn (M := M) (am := am) hj0 hj ho0 ho1 hz hmost n most 0 (skp tp i) m1 t1 (skp_skp _ _) (by omega) (by omega)
    rw [pk_skp] at e2
    rw [z1] at e2 a1
    rw [z2, z3] at t2
    have ne : (rds tp most i).1 ≠ [] := by
      obtain ⟨r, rfl⟩ : ∃ r, most = r + 1 := ⟨most - 1, by omega⟩
      rw [rds_t e]; simp
    refine ⟨m2, ?_, by rw [if_neg ne]; exact t2, fun i hi => ?_, fun q hq => ?_, f1.of0.trans f2⟩
    · have e2 : pX10_readSigns_l22 n n (mk M am m1) am (am + j) (iI o) (iI most) (iI 0) (iI (sgn (pk tp i))) = _ := e2
      simp only [pX10_readSigns, mk_v, e1, b2_s, m_sgn pb]
      simp (disch := (first | assumption | (refine sm_of ?_ ?_ <;> omega) | omega)) only [iI_add, iI_sub, iI_mul, iI_neg, iI_lt, iI_le, iI_eq, b1_s, b2_s, ↓reduceIte, mk_v, mk_gl23, mk_pl23, mk_gr1, mk_gr5, mk_gr6, mk_gr8, mk_gr9, mk_gr11, mk_gr13, mk_gr14, mk_gr15, mk_gr17, mk_gr18, mk_gr21, mk_gr24, mk_gr28, mk_gr30, mk_gr31, mk_gi0, mk_gi2, mk_gi3, mk_gi4, mk_gi7, mk_gi10, mk_gi12, mk_gi16, mk_gi19, mk_gi20, mk_gi22, mk_gi25, mk_gi26, mk_gi27, mk_gi29, mk_gi32, mk_pi0, mk_pi2, mk_pi3, mk_pi4, mk_pi7, mk_pi10, mk_pi12, mk_pi16, mk_pi19, mk_pi20, mk_pi22, mk_pi25, mk_pi26, mk_pi27, mk_pi29, mk_pi32, mk_ia1, mk_ia2, mk_ia3, mk_ia4, mk_ia5, mk_ia6, mk_ia7, mk_ia8, mk_ia9, mk_ia10, mk_ia11, mk_ia12, mk_ia13, mk_ia14, mk_ia15, mk_ia16, mk_is1, mk_is2, mk_is3, mk_is4, mk_is5, mk_is6, mk_is7, mk_is8, mk_is9, mk_is10, mk_is11, mk_is12, mk_is13, mk_is14, mk_is15, mk_is16, L0, L1, L2, L3, L4, L5, L6, L7, L8, L9, L10, L12, L20, L22, L24, L26, L27, L28, L32, L40, L60, L73, L95, L97, L222, L240, L441, L442, L622, Lm1, Lmh, L11, L13, L14, L15, L16, L17, L18, L19, L21, L23, L25, L30, L31, L33, L36, L39, L41, L44, L48, L53, L54, L55, L57, L58, L59, L91, L93, L98, L99, L100, L105, L106, L112, L114, L115, L119, L122, L160, L180, L200, L255, L1440, L24880, L63, Lm2, sn, e2]
      simp
    · have := a1 i hi
      rw [show (o + ((0 : Nat) : Int) + (i : Int)) = o + i by omega] at this
      exact this
    · rw [a2 q (by omega), f1.2.1 j (by omega) (by omega)]
theorem m_ends {n : Nat} (hn : 300 ≤ n) {M : mm_M} {am : Nat} {m : mS} {tp : List Int} {i : Nat} {w : Int} (h : Rd m tp i w) (hw : -1 ≤ w ∧ w ≤ 1000) : ∃ m' i', pX10_ends n (mk M am m) am = some (iI (if w = -1 then (if pk tp i = -1 then -1 else (skp tp i : Int)) else w), mk M am m') ∧ Rd m' tp i' (if w = -1 then (if pk tp i = -1 then -1 else (skp tp i : Int)) else w) ∧ srj 0 m m' := by
  have h7 := h.2.2.2
  by_cases c : w = -1
  · subst c
    obtain ⟨m1, e1, t1, f1⟩ := m_ahead hn (M := M) (am := am) h
    have pb := pk_bd h.1.2.1 i
    have h7' := t1.2.2.2
    rw [if_pos rfl]
    by_cases d : pk tp i = -1
    · rw [if_pos d]
      refine ⟨m1, _, ?_, t1, f1⟩
      simp (disch := (first | assumption | (refine sm_of ?_ ?_ <;> omega) | omega)) only [iI_add, iI_sub, iI_mul, iI_neg, iI_lt, iI_le, iI_eq, b1_s, b2_s, ↓reduceIte, mk_v, mk_gl23, mk_pl23, mk_gr1, mk_gr5, mk_gr6, mk_gr8, mk_gr9, mk_gr11, mk_gr13, mk_gr14, mk_gr15, mk_gr17, mk_gr18, mk_gr21, mk_gr24, mk_gr28, mk_gr30, mk_gr31, mk_gi0, mk_gi2, mk_gi3, mk_gi4, mk_gi7, mk_gi10, mk_gi12, mk_gi16, mk_gi19, mk_gi20, mk_gi22, mk_gi25, mk_gi26, mk_gi27, mk_gi29, mk_gi32, mk_pi0, mk_pi2, mk_pi3, mk_pi4, mk_pi7, mk_pi10, mk_pi12, mk_pi16, mk_pi19, mk_pi20, mk_pi22, mk_pi25, mk_pi26, mk_pi27, mk_pi29, mk_pi32, mk_ia1, mk_ia2, mk_ia3, mk_ia4, mk_ia5, mk_ia6, mk_ia7, mk_ia8, mk_ia9, mk_ia10, mk_ia11, mk_ia12, mk_ia13, mk_ia14, mk_ia15, mk_ia16, mk_is1, mk_is2, mk_is3, mk_is4, mk_is5, mk_is6, mk_is7, mk_is8, mk_is9, mk_is10, mk_is11, mk_is12, mk_is13, mk_is14, mk_is15, mk_is16, L0, L1, L2, L3, L4, L5, L6, L7, L8, L9, L10, L12, L20, L22, L24, L26, L27, L28, L32, L40, L60, L73, L95, L97, L222, L240, L441, L442, L622, Lm1, Lmh, L11, L13, L14, L15, L16, L17, L18, L19, L21, L23, L25, L30, L31, L33, L36, L39, L41, L44, L48, L53, L54, L55, L57, L58, L59, L91, L93, L98, L99, L100, L105, L106, L112, L114, L115, L119, L122, L160, L180, L200, L255, L1440, L24880, L63, Lm2, pX10_ends, h7, e1, d, h7']
    · rw [if_neg d]
      obtain ⟨m2, e2, t2, f2⟩ := m_bad (n := n) (M := M) (am := am) t1 (by omega)
      rw [if_pos rfl] at t2
      have h7'' := t2.2.2.2
      refine ⟨m2, _, ?_, t2, f1.trans f2⟩
      simp (disch := (first | assumption | (refine sm_of ?_ ?_ <;> omega) | omega)) only [iI_add, iI_sub, iI_mul, iI_neg, iI_lt, iI_le, iI_eq, b1_s, b2_s, ↓reduceIte, mk_v, mk_gl23, mk_pl23, mk_gr1, mk_gr5, mk_gr6, mk_gr8, mk_gr9, mk_gr11, mk_gr13, mk_gr14, mk_gr15, mk_gr17, mk_gr18, mk_gr21, mk_gr24, mk_gr28, mk_gr30, mk_gr31, mk_gi0, mk_gi2, mk_gi3, mk_gi4, mk_gi7, mk_gi10, mk_gi12, mk_gi16, mk_gi19, mk_gi20, mk_gi22, mk_gi25, mk_gi26, mk_gi27, mk_gi29, mk_gi32, mk_pi0, mk_pi2, mk_pi3, mk_pi4, mk_pi7, mk_pi10, mk_pi12, mk_pi16, mk_pi19, mk_pi20, mk_pi22, mk_pi25, mk_pi26, mk_pi27, mk_pi29, mk_pi32, mk_ia1, mk_ia2, mk_ia3, mk_ia4, mk_ia5, mk_ia6, mk_ia7, mk_ia8, mk_ia9, mk_ia10, mk_ia11, mk_ia12, mk_ia13, mk_ia14, mk_ia15, mk_ia16, mk_is1, mk_is2, mk_is3, mk_is4, mk_is5, mk_is6, mk_is7, mk_is8, mk_is9, mk_is10, mk_is11, mk_is12, mk_is13, mk_is14, mk_is15, mk_is16, L0, L1, L2, L3, L4, L5, L6, L7, L8, L9, L10, L12, L20, L22, L24, L26, L27, L28, L32, L40, L60, L73, L95, L97, L222, L240, L441, L442, L622, Lm1, Lmh, L11, L13, L14, L15, L16, L17, L18, L19, L21, L23, L25, L30, L31, L33, L36, L39, L41, L44, L48, L53, L54, L55, L57, L58, L59, L91, L93, L98, L99, L100, L105, L106, L112, L114, L115, L119, L122, L160, L180, L200, L255, L1440, L24880, L63, Lm2, pX10_ends, h7, e1, d, e2, h7'']
  · rw [if_neg c]
    refine ⟨m, i, ?_, h, srj.rfl⟩
    simp (disch := (first | assumption | (refine sm_of ?_ ?_ <;> omega) | omega)) only [iI_add, iI_sub, iI_mul, iI_neg, iI_lt, iI_le, iI_eq, b1_s, b2_s, ↓reduceIte, mk_v, mk_gl23, mk_pl23, mk_gr1, mk_gr5, mk_gr6, mk_gr8, mk_gr9, mk_gr11, mk_gr13, mk_gr14, mk_gr15, mk_gr17, mk_gr18, mk_gr21, mk_gr24, mk_gr28, mk_gr30, mk_gr31, mk_gi0, mk_gi2, mk_gi3, mk_gi4, mk_gi7, mk_gi10, mk_gi12, mk_gi16, mk_gi19, mk_gi20, mk_gi22, mk_gi25, mk_gi26, mk_gi27, mk_gi29, mk_gi32, mk_pi0, mk_pi2, mk_pi3, mk_pi4, mk_pi7, mk_pi10, mk_pi12, mk_pi16, mk_pi19, mk_pi20, mk_pi22, mk_pi25, mk_pi26, mk_pi27, mk_pi29, mk_pi32, mk_ia1, mk_ia2, mk_ia3, mk_ia4, mk_ia5, mk_ia6, mk_ia7, mk_ia8, mk_ia9, mk_ia10, mk_ia11, mk_ia12, mk_ia13, mk_ia14, mk_ia15, mk_ia16, mk_is1, mk_is2, mk_is3, mk_is4, mk_is5, mk_is6, mk_is7, mk_is8, mk_is9, mk_is10, mk_is11, mk_is12, mk_is13, mk_is14, mk_is15, mk_is16, L0, L1, L2, L3, L4, L5, L6, L7, L8, L9, L10, L12, L20, L22, L24, L26, L27, L28, L32, L40, L60, L73, L95, L97, L222, L240, L441, L442, L622, Lm1, Lmh, L11, L13, L14, L15, L16, L17, L18, L19, L21, L23, L25, L30, L31, L33, L36, L39, L41, L44, L48, L53, L54, L55, L57, L58, L59, L91, L93, L98, L99, L100, L105, L106, L112, L114, L115, L119, L122, L160, L180, L200, L255, L1440, L24880, L63, Lm2, pX10_ends, h7, c]
theorem m_begin {n : Nat} {M : mm_M} {am : Nat} {m : mS} {tp : List Int} (h : Tm m tp) : ∃ m', pX10_begins n (mk M am m) am = some (mk M am m') ∧ Rd m' tp 0 (-1) ∧ srj 0 m m' := by
  refine ⟨setA (setA m 0 (upI (m.1 0) 3 0)) 0 (upI ((setA m 0 (upI (m.1 0) 3 0)).1 0) 4 (-1)), ?_, ?_, (srj_f3 m 0).trans (srj_f4 _ _)⟩
  · simp (disch := (first | assumption | (refine sm_of ?_ ?_ <;> omega) | omega)) only [iI_add, iI_sub, iI_mul, iI_neg, iI_lt, iI_le, iI_eq, b1_s, b2_s, ↓reduceIte, mk_v, mk_gl23, mk_pl23, mk_gr1, mk_gr5, mk_gr6, mk_gr8, mk_gr9, mk_gr11, mk_gr13, mk_gr14, mk_gr15, mk_gr17, mk_gr18, mk_gr21, mk_gr24, mk_gr28, mk_gr30, mk_gr31, mk_gi0, mk_gi2, mk_gi3, mk_gi4, mk_gi7, mk_gi10, mk_gi12, mk_gi16, mk_gi19, mk_gi20, mk_gi22, mk_gi25, mk_gi26, mk_gi27, mk_gi29, mk_gi32, mk_pi0, mk_pi2, mk_pi3, mk_pi4, mk_pi7, mk_pi10, mk_pi12, mk_pi16, mk_pi19, mk_pi20, mk_pi22, mk_pi25, mk_pi26, mk_pi27, mk_pi29, mk_pi32, mk_ia1, mk_ia2, mk_ia3, mk_ia4, mk_ia5, mk_ia6, mk_ia7, mk_ia8, mk_ia9, mk_ia10, mk_ia11, mk_ia12, mk_ia13, mk_ia14, mk_ia15, mk_ia16, mk_is1, mk_is2, mk_is3, mk_is4, mk_is5, mk_is6, mk_is7, mk_is8, mk_is9, mk_is10, mk_is11, mk_is12, mk_is13, mk_is14, mk_is15, mk_is16, L0, L1, L2, L3, L4, L5, L6, L7, L8, L9, L10, L12, L20, L22, L24, L26, L27, L28, L32, L40, L60, L73, L95, L97, L222, L240, L441, L442, L622, Lm1, Lmh, L11, L13, L14, L15, L16, L17, L18, L19, L21, L23, L25, L30, L31, L33, L36, L39, L41, L44, L48, L53, L54, L55, L57, L58, L59, L91, L93, L98, L99, L100, L105, L106, L112, L114, L115, L119, L122, L160, L180, L200, L255, L1440, L24880, L63, Lm2, pX10_begins]
  · have t := h.sr (srj_f3 m 0) (by decide)
    exact rd_f4 (w := m.1 0 4) ⟨t, by omega, by rw [setA_e, upI_e]; rfl, by rw [setA_e, upI_n _ _ (by decide)]⟩ (-1)
theorem skp_240 {m : mS} {tp : List Int} {i : Nat} {w : Int} (h : Rd m tp i w) : skp tp i ≤ 240 := by
  have := skp_le h.2.1
  have := h.1.1
  omega
theorem m_alone {n : Nat} (hn : 300 ≤ n) {M : mm_M} {am : Nat} {m : mS} {tp : List Int} (h : Tm m tp) {most : Nat} (hm1 : 1 ≤ most) (hmost : most ≤ 20) : ∃ m', pX10_readAlone n (mk M am m) am (iI most) = some (iI (rowF tp most), mk M am m') ∧ m'.1 0 12 = (rds tp most 0).1.length ∧ rowA (m'.1 6) 0 (rds tp most 0).1 ∧ m'.2 = m.2 ∧ (∀ k, k ≠ 0 → k ≠ 6 → m'.1 k = m.1 k) ∧ ∀ x, x ≠ 3 → x ≠ 4 → x ≠ 12 → m'.1 0 x = m.1 0 x := by
  obtain ⟨m1, e1, t1, f1⟩ := m_begin (n := n) (M := M) (am := am) h
  obtain ⟨m2, e2, t2, a2, b2, f2⟩ := m_readS hn (M := M) (am := am) (j := 6) (by decide) (by decide) (o := 0) (most := most) (by omega) (by simp [mz]; omega) (by simp [mz]) hm1 hmost t1
  have g := rds_le (tp := tp) most 0 (by omega)
  have t3 : Rd (setA m2 0 (upI (m2.1 0) 12 (rds tp most 0).1.length)) tp (skp tp (rds tp most 0).2) (rdE tp most 0) := ⟨⟨t2.1.1, t2.1.2.1, by rw [setA_e, upI_n _ _ (by decide)]; exact t2.1.2.2.1, by rw [setA_n _ _ (by decide)]; exact t2.1.2.2.2⟩, t2.2.1, by rw [setA_e, upI_n _ _ (by decide)]; exact t2.2.2.1, by rw [setA_e, upI_n _ _ (by decide)]; exact t2.2.2.2⟩
  have s0 : skp tp 0 ≤ 240 := skp_240 t1
  have s1 : skp tp (skp tp (rds tp most 0).2) ≤ 240 := skp_240 t2
  rw [skp_skp] at s1
  have wb : -1 ≤ rdE tp most 0 ∧ rdE tp most 0 ≤ 1000 := by unfold rdE; (repeat' split) <;> omega
  obtain ⟨m4, i4, e4, t4, f4⟩ := m_ends hn (M := M) (am := am) t3 wb
  have ef : (if rdE tp most 0 = -1 then (if pk tp (skp tp (rds tp most 0).2) = -1 then -1 else (skp tp (skp tp (rds tp most 0).2) : Int)) else rdE tp most 0) = rowF tp most := by
    rw [pk_skp, skp_skp]
    unfold rowF rdE
    by_cases c : (rds tp most 0).1 = []
    · have : (rds tp most 0).2 = skp tp 0 := by
        obtain ⟨r, rfl⟩ : ∃ r, most = r + 1 := ⟨most - 1, by omega⟩
        cases e : isSg (pk tp 0)
        · rw [rds_f e]
        · rw [rds_t e] at c; cases c
      rw [if_pos c, if_pos c, if_neg (by omega), this]
    · rw [if_neg c, if_neg c]
      cases e : isSg (pk tp (rds tp most 0).2)
      · simp
      · rw [if_pos rfl, if_neg (by omega), if_neg (fun z => by rw [z] at e; exact absurd e (by decide))]
  rw [ef] at e4
  refine ⟨m4, ?_, ?_, ?_, ?_, fun k k0 k6 => ?_, fun x x3 x4 x12 => ?_⟩
  · simp (disch := (first | assumption | (refine sm_of ?_ ?_ <;> omega) | omega)) only [iI_add, iI_sub, iI_mul, iI_neg, iI_lt, iI_le, iI_eq, b1_s, b2_s, ↓reduceIte, mk_v, mk_gl23, mk_pl23, mk_gr1, mk_gr5, mk_gr6, mk_gr8, mk_gr9, mk_gr11, mk_gr13, mk_gr14, mk_gr15, mk_gr17, mk_gr18, mk_gr21, mk_gr24, mk_gr28, mk_gr30, mk_gr31, mk_gi0, mk_gi2, mk_gi3, mk_gi4, mk_gi7, mk_gi10, mk_gi12, mk_gi16, mk_gi19, mk_gi20, mk_gi22, mk_gi25, mk_gi26, mk_gi27, mk_gi29, mk_gi32, mk_pi0, mk_pi2, mk_pi3, mk_pi4, mk_pi7, mk_pi10, mk_pi12, mk_pi16, mk_pi19, mk_pi20, mk_pi22, mk_pi25, mk_pi26, mk_pi27, mk_pi29, mk_pi32, mk_ia1, mk_ia2, mk_ia3, mk_ia4, mk_ia5, mk_ia6, mk_ia7, mk_ia8, mk_ia9, mk_ia10, mk_ia11, mk_ia12, mk_ia13, mk_ia14, mk_ia15, mk_ia16, mk_is1, mk_is2, mk_is3, mk_is4, mk_is5, mk_is6, mk_is7, mk_is8, mk_is9, mk_is10, mk_is11, mk_is12, mk_is13, mk_is14, mk_is15, mk_is16, L0, L1, L2, L3, L4, L5, L6, L7, L8, L9, L10, L12, L20, L22, L24, L26, L27, L28, L32, L40, L60, L73, L95, L97, L222, L240, L441, L442, L622, Lm1, Lmh, L11, L13, L14, L15, L16, L17, L18, L19, L21, L23, L25, L30, L31, L33, L36, L39, L41, L44, L48, L53, L54, L55, L57, L58, L59, L91, L93, L98, L99, L100, L105, L106, L112, L114, L115, L119, L122, L160, L180, L200, L255, L1440, L24880, L63, Lm2, pX10_readAlone, e1, e2, e4]
  · rw [f4.2.2 12 (by decide) (by decide), setA_e, upI_e]
  · rw [f4.2.1 6 (by decide) (by decide), setA_n _ _ (by decide)]; exact a2
  · rw [f4.1]; exact f2.1.trans f1.1
  · rw [f4.2.1 k k0 k0, setA_n _ _ k0, f2.2.1 k k0 k6, f1.2.1 k k0 k0]
  · rw [f4.2.2 x x3 x4, setA_e, upI_n _ _ x12, f2.2.2 x x3 x4, f1.2.2 x x3 x4]
