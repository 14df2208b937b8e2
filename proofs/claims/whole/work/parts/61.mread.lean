def dec (b : Int) : Int := if b = 95 then 0 else b - 96
def okS (xs : List Int) : Prop := ∀ x ∈ xs, isSg x = true
theorem isSg_spec {b : Int} (h : isSg b = true) : b = 95 ∨ (97 ≤ b ∧ b ≤ 122) := by unfold isSg at h; exact of_decide_eq_true h
theorem dec_bd {b : Int} (h : isSg b = true) : 0 ≤ dec b ∧ dec b ≤ 26 := by
  have := isSg_spec h; unfold dec; split <;> omega
theorem dec_lt {a b : Int} (ha : isSg a = true) (hb : isSg b = true) : (dec a < dec b) ↔ (a < b) := by
  have := isSg_spec ha; have := isSg_spec hb; unfold dec; split <;> split <;> omega
theorem dec_eq {a b : Int} (ha : isSg a = true) (hb : isSg b = true) : (dec a = dec b) ↔ (a = b) := by
  have := isSg_spec ha; have := isSg_spec hb; unfold dec; split <;> split <;> omega
theorem okS.get {xs : List Int} (h : okS xs) {i : Nat} (hi : i < xs.length) : isSg (xs.getD i 0) = true := by
  rw [getD_of hi]; exact h _ (List.getElem_mem hi)
theorem okS.drop {xs : List Int} (h : okS xs) (p : Nat) : okS (xs.drop p) := fun x hx => h x (List.mem_of_mem_drop hx)
theorem okS.take {xs : List Int} (h : okS xs) (p : Nat) : okS (xs.take p) := fun x hx => h x (List.mem_of_mem_take hx)
theorem okS.rev {xs : List Int} (h : okS xs) : okS xs.reverse := fun x hx => h x (List.mem_reverse.mp hx)
def rowA (f : Int → Int) (o : Int) (xs : List Int) : Prop := ∀ i : Nat, i < xs.length → f (o + i) = dec (xs.getD i 0)
def okL (ls : List kL) : Prop := ls.length ≤ 10 ∧ ∀ i, i < ls.length → 1 ≤ (lnN ls i).2.length ∧ (lnN ls i).2.length ≤ 20 ∧ okS (lnN ls i).2 ∧ nb (lnN ls i).1
def NwL (nw : Int → Int) (ls : List kL) : Prop := nw 0 = ls.length ∧ ∀ k : Nat, k < ls.length → nw (2 + 22 * k) = (lnN ls k).1 ∧ nw (2 + 22 * k + 1) = (lnN ls k).2.length ∧ rowA nw (2 + 22 * k + 2) (lnN ls k).2
theorem m_in {n : Nat} {M : mm_M} {a b c : Int} (ha : sm a) (hb : sm b) (hc : sm c) : pX10_in n M (iI a) (iI b) (iI c) = some (bI (decide (b ≤ a ∧ a ≤ c)), M) := by
  simp (disch := (first | assumption | (refine sm_of ?_ ?_ <;> omega) | fail)) only [iI_add, iI_sub, iI_mul, iI_neg, iI_lt, iI_le, iI_eq, b1_s, b2_s, ↓reduceIte, L0, L1, L2, L3, L4, L5, L6, L7, L8, L9, L10, L12, L20, L22, L24, L26, L27, L28, L32, L40, L60, L73, L95, L97, L222, L240, L441, L442, L622, Lm1, Lmh, L11, L13, L14, L15, L16, L17, L18, L19, L21, L23, L25, L30, L31, L33, L36, L39, L41, L44, L48, L53, L54, L55, L57, L58, L59, L91, L93, L98, L99, L100, L105, L106, L112, L114, L115, L119, L122, L160, L180, L200, L255, L1440, L24880, L63, Lm2, pX10_in]
  by_cases c1 : a < b
  · rw [if_pos c1, decide_eq_false (by omega)]; rfl
  · rw [if_neg c1]
    by_cases c2 : c < a
    · rw [if_pos c2, decide_eq_false (by omega)]; rfl
    · rw [if_neg c2, decide_eq_true (by omega)]; rfl
theorem rz_b {M : mm_M} (b : Bool) : mm_rz (bI b) M = some (bI b, M) := by
  unfold mm_rz; rw [if_pos (by cases b <;> decide)]
theorem m_long {n : Nat} {M : mm_M} {am : Nat} {m : mS} {ls : List kL} (hN : NwL (m.1 7) ls) (ho : okL ls) {k : Nat} (hk : k < ls.length) : pX10_longOf n (mk M am m) am (iI k) = some (iI (lnN ls k).2.length, mk M am m) := by
  have := ho.1
  obtain ⟨h1, h2, h3⟩ := hN.2 k hk
  simp (disch := (first | assumption | (refine sm_of ?_ ?_ <;> omega) | omega)) only [iI_add, iI_sub, iI_mul, iI_neg, iI_lt, iI_le, iI_eq, b1_s, b2_s, ↓reduceIte, mk_v, mk_gl23, mk_pl23, mk_gr1, mk_gr5, mk_gr6, mk_gr8, mk_gr9, mk_gr11, mk_gr13, mk_gr14, mk_gr15, mk_gr17, mk_gr18, mk_gr21, mk_gr24, mk_gr28, mk_gr30, mk_gr31, mk_gi0, mk_gi2, mk_gi3, mk_gi4, mk_gi7, mk_gi10, mk_gi12, mk_gi16, mk_gi19, mk_gi20, mk_gi22, mk_gi25, mk_gi26, mk_gi27, mk_gi29, mk_gi32, mk_pi0, mk_pi2, mk_pi3, mk_pi4, mk_pi7, mk_pi10, mk_pi12, mk_pi16, mk_pi19, mk_pi20, mk_pi22, mk_pi25, mk_pi26, mk_pi27, mk_pi29, mk_pi32, mk_ia1, mk_ia2, mk_ia3, mk_ia4, mk_ia5, mk_ia6, mk_ia7, mk_ia8, mk_ia9, mk_ia10, mk_ia11, mk_ia12, mk_ia13, mk_ia14, mk_ia15, mk_ia16, mk_is1, mk_is2, mk_is3, mk_is4, mk_is5, mk_is6, mk_is7, mk_is8, mk_is9, mk_is10, mk_is11, mk_is12, mk_is13, mk_is14, mk_is15, mk_is16, L0, L1, L2, L3, L4, L5, L6, L7, L8, L9, L10, L12, L20, L22, L24, L26, L27, L28, L32, L40, L60, L73, L95, L97, L222, L240, L441, L442, L622, Lm1, Lmh, L11, L13, L14, L15, L16, L17, L18, L19, L21, L23, L25, L30, L31, L33, L36, L39, L41, L44, L48, L53, L54, L55, L57, L58, L59, L91, L93, L98, L99, L100, L105, L106, L112, L114, L115, L119, L122, L160, L180, L200, L255, L1440, L24880, L63, Lm2, pX10_longOf, pX10_lineAt, h2]
theorem m_num {n : Nat} {M : mm_M} {am : Nat} {m : mS} {ls : List kL} (hN : NwL (m.1 7) ls) (ho : okL ls) {k : Nat} (hk : k < ls.length) : pX10_numberOf n (mk M am m) am (iI k) = some (iI (lnN ls k).1, mk M am m) := by
  have := ho.1
  obtain ⟨h1, h2, h3⟩ := hN.2 k hk
  simp (disch := (first | assumption | (refine sm_of ?_ ?_ <;> omega) | omega)) only [iI_add, iI_sub, iI_mul, iI_neg, iI_lt, iI_le, iI_eq, b1_s, b2_s, ↓reduceIte, mk_v, mk_gl23, mk_pl23, mk_gr1, mk_gr5, mk_gr6, mk_gr8, mk_gr9, mk_gr11, mk_gr13, mk_gr14, mk_gr15, mk_gr17, mk_gr18, mk_gr21, mk_gr24, mk_gr28, mk_gr30, mk_gr31, mk_gi0, mk_gi2, mk_gi3, mk_gi4, mk_gi7, mk_gi10, mk_gi12, mk_gi16, mk_gi19, mk_gi20, mk_gi22, mk_gi25, mk_gi26, mk_gi27, mk_gi29, mk_gi32, mk_pi0, mk_pi2, mk_pi3, mk_pi4, mk_pi7, mk_pi10, mk_pi12, mk_pi16, mk_pi19, mk_pi20, mk_pi22, mk_pi25, mk_pi26, mk_pi27, mk_pi29, mk_pi32, mk_ia1, mk_ia2, mk_ia3, mk_ia4, mk_ia5, mk_ia6, mk_ia7, mk_ia8, mk_ia9, mk_ia10, mk_ia11, mk_ia12, mk_ia13, mk_ia14, mk_ia15, mk_ia16, mk_is1, mk_is2, mk_is3, mk_is4, mk_is5, mk_is6, mk_is7, mk_is8, mk_is9, mk_is10, mk_is11, mk_is12, mk_is13, mk_is14, mk_is15, mk_is16, L0, L1, L2, L3, L4, L5, L6, L7, L8, L9, L10, L12, L20, L22, L24, L26, L27, L28, L32, L40, L60, L73, L95, L97, L222, L240, L441, L442, L622, Lm1, Lmh, L11, L13, L14, L15, L16, L17, L18, L19, L21, L23, L25, L30, L31, L33, L36, L39, L41, L44, L48, L53, L54, L55, L57, L58, L59, L91, L93, L98, L99, L100, L105, L106, L112, L114, L115, L119, L122, L160, L180, L200, L255, L1440, L24880, L63, Lm2, pX10_numberOf, pX10_lineAt, Int.add_zero, h1]
theorem m_sign {n : Nat} {M : mm_M} {am : Nat} {m : mS} {ls : List kL} (hN : NwL (m.1 7) ls) (ho : okL ls) {k p : Nat} (hk : k < ls.length) (hp : p < (lnN ls k).2.length) : pX10_signAt n (mk M am m) am (iI k) (iI p) = some (iI (dec ((lnN ls k).2.getD p 0)), mk M am m) := by
  have := ho.1
  have := (ho.2 k hk).2.1
  obtain ⟨h1, h2, h3⟩ := hN.2 k hk
  have h4 := h3 p hp
  simp (disch := (first | assumption | (refine sm_of ?_ ?_ <;> omega) | omega)) only [iI_add, iI_sub, iI_mul, iI_neg, iI_lt, iI_le, iI_eq, b1_s, b2_s, ↓reduceIte, mk_v, mk_gl23, mk_pl23, mk_gr1, mk_gr5, mk_gr6, mk_gr8, mk_gr9, mk_gr11, mk_gr13, mk_gr14, mk_gr15, mk_gr17, mk_gr18, mk_gr21, mk_gr24, mk_gr28, mk_gr30, mk_gr31, mk_gi0, mk_gi2, mk_gi3, mk_gi4, mk_gi7, mk_gi10, mk_gi12, mk_gi16, mk_gi19, mk_gi20, mk_gi22, mk_gi25, mk_gi26, mk_gi27, mk_gi29, mk_gi32, mk_pi0, mk_pi2, mk_pi3, mk_pi4, mk_pi7, mk_pi10, mk_pi12, mk_pi16, mk_pi19, mk_pi20, mk_pi22, mk_pi25, mk_pi26, mk_pi27, mk_pi29, mk_pi32, mk_ia1, mk_ia2, mk_ia3, mk_ia4, mk_ia5, mk_ia6, mk_ia7, mk_ia8, mk_ia9, mk_ia10, mk_ia11, mk_ia12, mk_ia13, mk_ia14, mk_ia15, mk_ia16, mk_is1, mk_is2, mk_is3, mk_is4, mk_is5, mk_is6, mk_is7, mk_is8, mk_is9, mk_is10, mk_is11, mk_is12, mk_is13, mk_is14, mk_is15, mk_is16, L0, L1, L2, L3, L4, L5, L6, L7, L8, L9, L10, L12, L20, L22, L24, L26, L27, L28, L32, L40, L60, L73, L95, L97, L222, L240, L441, L442, L622, Lm1, Lmh, L11, L13, L14, L15, L16, L17, L18, L19, L21, L23, L25, L30, L31, L33, L36, L39, L41, L44, L48, L53, L54, L55, L57, L58, L59, L91, L93, L98, L99, L100, L105, L106, L112, L114, L115, L119, L122, L160, L180, L200, L255, L1440, L24880, L63, Lm2, pX10_signAt, pX10_lineAt, h4]
theorem m_store {n : Nat} {M : mm_M} {am : Nat} {m : mS} {ls : List kL} (hN : NwL (m.1 7) ls) (ho : okL ls) : pX10_isStore n (mk M am m) am = some (bI (decide (0 < ls.length)), mk M am m) := by
  have := ho.1
  have h0 := hN.1
  simp (disch := (first | assumption | (refine sm_of ?_ ?_ <;> omega) | omega)) only [iI_add, iI_sub, iI_mul, iI_neg, iI_lt, iI_le, iI_eq, b1_s, b2_s, ↓reduceIte, mk_v, mk_gl23, mk_pl23, mk_gr1, mk_gr5, mk_gr6, mk_gr8, mk_gr9, mk_gr11, mk_gr13, mk_gr14, mk_gr15, mk_gr17, mk_gr18, mk_gr21, mk_gr24, mk_gr28, mk_gr30, mk_gr31, mk_gi0, mk_gi2, mk_gi3, mk_gi4, mk_gi7, mk_gi10, mk_gi12, mk_gi16, mk_gi19, mk_gi20, mk_gi22, mk_gi25, mk_gi26, mk_gi27, mk_gi29, mk_gi32, mk_pi0, mk_pi2, mk_pi3, mk_pi4, mk_pi7, mk_pi10, mk_pi12, mk_pi16, mk_pi19, mk_pi20, mk_pi22, mk_pi25, mk_pi26, mk_pi27, mk_pi29, mk_pi32, mk_ia1, mk_ia2, mk_ia3, mk_ia4, mk_ia5, mk_ia6, mk_ia7, mk_ia8, mk_ia9, mk_ia10, mk_ia11, mk_ia12, mk_ia13, mk_ia14, mk_ia15, mk_ia16, mk_is1, mk_is2, mk_is3, mk_is4, mk_is5, mk_is6, mk_is7, mk_is8, mk_is9, mk_is10, mk_is11, mk_is12, mk_is13, mk_is14, mk_is15, mk_is16, L0, L1, L2, L3, L4, L5, L6, L7, L8, L9, L10, L12, L20, L22, L24, L26, L27, L28, L32, L40, L60, L73, L95, L97, L222, L240, L441, L442, L622, Lm1, Lmh, L11, L13, L14, L15, L16, L17, L18, L19, L21, L23, L25, L30, L31, L33, L36, L39, L41, L44, L48, L53, L54, L55, L57, L58, L59, L91, L93, L98, L99, L100, L105, L106, L112, L114, L115, L119, L122, L160, L180, L200, L255, L1440, L24880, L63, Lm2, pX10_isStore, h0]
  by_cases c : (ls.length : Int) ≤ 0
  · rw [if_pos c, decide_eq_false (by omega)]; rfl
  · rw [if_neg c, decide_eq_true (by omega)]; rfl
theorem m_isLine {n : Nat} {M : mm_M} {am : Nat} {m : mS} {ls : List kL} (hN : NwL (m.1 7) ls) (ho : okL ls) {x : Int} (hx : sm x) : pX10_isLine n (mk M am m) am (iI x) = some (bI (isLn ls x), mk M am m) := by
  have := ho.1
  have h0 := hN.1
  simp (disch := (first | assumption | (refine sm_of ?_ ?_ <;> omega) | omega)) only [iI_add, iI_sub, iI_mul, iI_neg, iI_lt, iI_le, iI_eq, b1_s, b2_s, ↓reduceIte, mk_v, mk_gl23, mk_pl23, mk_gr1, mk_gr5, mk_gr6, mk_gr8, mk_gr9, mk_gr11, mk_gr13, mk_gr14, mk_gr15, mk_gr17, mk_gr18, mk_gr21, mk_gr24, mk_gr28, mk_gr30, mk_gr31, mk_gi0, mk_gi2, mk_gi3, mk_gi4, mk_gi7, mk_gi10, mk_gi12, mk_gi16, mk_gi19, mk_gi20, mk_gi22, mk_gi25, mk_gi26, mk_gi27, mk_gi29, mk_gi32, mk_pi0, mk_pi2, mk_pi3, mk_pi4, mk_pi7, mk_pi10, mk_pi12, mk_pi16, mk_pi19, mk_pi20, mk_pi22, mk_pi25, mk_pi26, mk_pi27, mk_pi29, mk_pi32, mk_ia1, mk_ia2, mk_ia3, mk_ia4, mk_ia5, mk_ia6, mk_ia7, mk_ia8, mk_ia9, mk_ia10, mk_ia11, mk_ia12, mk_ia13, mk_ia14, mk_ia15, mk_ia16, mk_is1, mk_is2, mk_is3, mk_is4, mk_is5, mk_is6, mk_is7, mk_is8, mk_is9, mk_is10, mk_is11, mk_is12, mk_is13, mk_is14, mk_is15, mk_is16, L0, L1, L2, L3, L4, L5, L6, L7, L8, L9, L10, L12, L20, L22, L24, L26, L27, L28, L32, L40, L60, L73, L95, L97, L222, L240, L441, L442, L622, Lm1, Lmh, L11, L13, L14, L15, L16, L17, L18, L19, L21, L23, L25, L30, L31, L33, L36, L39, L41, L44, L48, L53, L54, L55, L57, L58, L59, L91, L93, L98, L99, L100, L105, L106, L112, L114, L115, L119, L122, L160, L180, L200, L255, L1440, L24880, L63, Lm2, pX10_isLine, h0, m_in, rz_b]
  unfold isLn
  congr 3
  simp only [decide_eq_decide]; omega
theorem m_isPlace {n : Nat} {M : mm_M} {am : Nat} {m : mS} {ls : List kL} (hN : NwL (m.1 7) ls) (ho : okL ls) {x y : Int} (hx : sm x) (hy : sm y) : pX10_isPlace n (mk M am m) am (iI x) (iI y) = some (bI (isLn ls x && decide (0 ≤ y ∧ y < (ln ls x).2.length)), mk M am m) := by
  have := ho.1
  simp only [pX10_isPlace, mk_v, m_isLine hN ho hx, b2_s, L0, bI_0]
  cases e : isLn ls x
  · rw [if_pos rfl]; rfl
  · rw [if_neg (by decide)]
    have e' : 0 ≤ x ∧ x < ls.length := by unfold isLn at e; exact of_decide_eq_true e
    have q := m_long (n := n) (M := M) (am := am) hN ho (k := x.toNat) (by omega)
    rw [show ((x.toNat : Nat) : Int) = x by omega] at q
    have := (ho.2 x.toNat (by omega)).2.1
    rw [q]
    have e2 : ln ls x = lnN ls x.toNat := rfl
    rw [e2]
    simp (disch := (first | assumption | (refine sm_of ?_ ?_ <;> omega) | omega)) only [iI_add, iI_sub, iI_mul, iI_neg, iI_lt, iI_le, iI_eq, b1_s, b2_s, ↓reduceIte, mk_v, mk_gl23, mk_pl23, mk_gr1, mk_gr5, mk_gr6, mk_gr8, mk_gr9, mk_gr11, mk_gr13, mk_gr14, mk_gr15, mk_gr17, mk_gr18, mk_gr21, mk_gr24, mk_gr28, mk_gr30, mk_gr31, mk_gi0, mk_gi2, mk_gi3, mk_gi4, mk_gi7, mk_gi10, mk_gi12, mk_gi16, mk_gi19, mk_gi20, mk_gi22, mk_gi25, mk_gi26, mk_gi27, mk_gi29, mk_gi32, mk_pi0, mk_pi2, mk_pi3, mk_pi4, mk_pi7, mk_pi10, mk_pi12, mk_pi16, mk_pi19, mk_pi20, mk_pi22, mk_pi25, mk_pi26, mk_pi27, mk_pi29, mk_pi32, mk_ia1, mk_ia2, mk_ia3, mk_ia4, mk_ia5, mk_ia6, mk_ia7, mk_ia8, mk_ia9, mk_ia10, mk_ia11, mk_ia12, mk_ia13, mk_ia14, mk_ia15, mk_ia16, mk_is1, mk_is2, mk_is3, mk_is4, mk_is5, mk_is6, mk_is7, mk_is8, mk_is9, mk_is10, mk_is11, mk_is12, mk_is13, mk_is14, mk_is15, mk_is16, L0, L1, L2, L3, L4, L5, L6, L7, L8, L9, L10, L12, L20, L22, L24, L26, L27, L28, L32, L40, L60, L73, L95, L97, L222, L240, L441, L442, L622, Lm1, Lmh, L11, L13, L14, L15, L16, L17, L18, L19, L21, L23, L25, L30, L31, L33, L36, L39, L41, L44, L48, L53, L54, L55, L57, L58, L59, L91, L93, L98, L99, L100, L105, L106, L112, L114, L115, L119, L122, L160, L180, L200, L255, L1440, L24880, L63, Lm2, m_in, bI_0]
    by_cases c : 0 ≤ y ∧ y ≤ ((lnN ls x.toNat).2.length : Int) - 1
    · rw [decide_eq_true c, if_neg (by decide), decide_eq_true (by omega)]; rfl
    · rw [decide_eq_false c, if_pos rfl, decide_eq_false (by omega)]; rfl
theorem m_all {n : Nat} (hn : 60 ≤ n) {M : mm_M} {am : Nat} {m : mS} {ls : List kL} (hN : NwL (m.1 7) ls) (ho : okL ls) : pX10_allSigns n (mk M am m) am = some (iI (allS ls), mk M am m) := by
  have hc := ho.1
  have h0 := hN.1
  have key : ∀ (q i : Nat), i ≤ ls.length → ls.length < i + q → pX10_allSigns_l4 n q (mk M am m) am (iI (allS (ls.take i))) (iI i) = some (iI (allS ls), mk M am m) := by
    intro q
    induction q with
    | zero => intro i h1 h2; omega
    | succ q ih =>
      intro i h1 h2
      show pX10_allSigns_l4b n (pX10_allSigns_l4 n q) _ am _ _ = _
      by_cases c : (ls.length : Int) ≤ i
      · simp (disch := (first | assumption | (refine sm_of ?_ ?_ <;> omega) | omega)) only [iI_add, iI_sub, iI_mul, iI_neg, iI_lt, iI_le, iI_eq, b1_s, b2_s, ↓reduceIte, mk_v, mk_gl23, mk_pl23, mk_gr1, mk_gr5, mk_gr6, mk_gr8, mk_gr9, mk_gr11, mk_gr13, mk_gr14, mk_gr15, mk_gr17, mk_gr18, mk_gr21, mk_gr24, mk_gr28, mk_gr30, mk_gr31, mk_gi0, mk_gi2, mk_gi3, mk_gi4, mk_gi7, mk_gi10, mk_gi12, mk_gi16, mk_gi19, mk_gi20, mk_gi22, mk_gi25, mk_gi26, mk_gi27, mk_gi29, mk_gi32, mk_pi0, mk_pi2, mk_pi3, mk_pi4, mk_pi7, mk_pi10, mk_pi12, mk_pi16, mk_pi19, mk_pi20, mk_pi22, mk_pi25, mk_pi26, mk_pi27, mk_pi29, mk_pi32, mk_ia1, mk_ia2, mk_ia3, mk_ia4, mk_ia5, mk_ia6, mk_ia7, mk_ia8, mk_ia9, mk_ia10, mk_ia11, mk_ia12, mk_ia13, mk_ia14, mk_ia15, mk_ia16, mk_is1, mk_is2, mk_is3, mk_is4, mk_is5, mk_is6, mk_is7, mk_is8, mk_is9, mk_is10, mk_is11, mk_is12, mk_is13, mk_is14, mk_is15, mk_is16, L0, L1, L2, L3, L4, L5, L6, L7, L8, L9, L10, L12, L20, L22, L24, L26, L27, L28, L32, L40, L60, L73, L95, L97, L222, L240, L441, L442, L622, Lm1, Lmh, L11, L13, L14, L15, L16, L17, L18, L19, L21, L23, L25, L30, L31, L33, L36, L39, L41, L44, L48, L53, L54, L55, L57, L58, L59, L91, L93, L98, L99, L100, L105, L106, L112, L114, L115, L119, L122, L160, L180, L200, L255, L1440, L24880, L63, Lm2, pX10_allSigns_l4b, h0, c]
        rw [List.take_of_length_le (by omega)]
      · simp (disch := (first | assumption | (refine sm_of ?_ ?_ <;> omega) | omega)) only [iI_add, iI_sub, iI_mul, iI_neg, iI_lt, iI_le, iI_eq, b1_s, b2_s, ↓reduceIte, mk_v, mk_gl23, mk_pl23, mk_gr1, mk_gr5, mk_gr6, mk_gr8, mk_gr9, mk_gr11, mk_gr13, mk_gr14, mk_gr15, mk_gr17, mk_gr18, mk_gr21, mk_gr24, mk_gr28, mk_gr30, mk_gr31, mk_gi0, mk_gi2, mk_gi3, mk_gi4, mk_gi7, mk_gi10, mk_gi12, mk_gi16, mk_gi19, mk_gi20, mk_gi22, mk_gi25, mk_gi26, mk_gi27, mk_gi29, mk_gi32, mk_pi0, mk_pi2, mk_pi3, mk_pi4, mk_pi7, mk_pi10, mk_pi12, mk_pi16, mk_pi19, mk_pi20, mk_pi22, mk_pi25, mk_pi26, mk_pi27, mk_pi29, mk_pi32, mk_ia1, mk_ia2, mk_ia3, mk_ia4, mk_ia5, mk_ia6, mk_ia7, mk_ia8, mk_ia9, mk_ia10, mk_ia11, mk_ia12, mk_ia13, mk_ia14, mk_ia15, mk_ia16, mk_is1, mk_is2, mk_is3, mk_is4, mk_is5, mk_is6, mk_is7, mk_is8, mk_is9, mk_is10, mk_is11, mk_is12, mk_is13, mk_is14, mk_is15, mk_is16, L0, L1, L2, L3, L4, L5, L6, L7, L8, L9, L10, L12, L20, L22, L24, L26, L27, L28, L32, L40, L60, L73, L95, L97, L222, L240, L441, L442, L622, Lm1, Lmh, L11, L13, L14, L15, L16, L17, L18, L19, L21, L23, L25, L30, L31, L33, L36, L39, L41, L44, L48, L53, L54, L55, L57, L58, L59, L91, L93, L98, L99, L100, L105, L106, L112, L114, L115, L119, L122, L160, L180, L200, L255, L1440, L24880, L63, Lm2, pX10_allSigns_l4b, h0, c, m_long hN ho (show i < ls.length by omega)]
        have e : ((allS (ls.take i) : Nat) : Int) + (lnN ls i).2.length = ((allS (ls.take (i + 1)) : Nat) : Int) := by
          rw [List.take_succ_eq_append_getElem (show i < ls.length by omega), allS_app]
          have : lnN ls i = ls[i]'(by omega) := by unfold lnN; rw [List.getD_eq_getElem?_getD, List.getElem?_eq_getElem (by omega)]; rfl
          rw [this]; simp [allS]
        rw [e, show ((i : Int) + 1) = ((i + 1 : Nat) : Int) by omega]
        exact ih (i + 1) (by omega) (by omega)
  simp only [pX10_allSigns, mk_v]
  exact key n 0 (by omega) (by omega)
/-! what follows a hit, what stands ahead of it -/
def atD (A : List Int) (i : Nat) : Int := match A[i]? with
  | none => -1
  | some b => dec b
theorem atD_bd {A : List Int} (h : okS A) (i : Nat) : -1 ≤ atD A i ∧ atD A i ≤ 26 := by
  unfold atD
  cases e : A[i]? with
  | none => simp
  | some b => have := dec_bd (h b (List.mem_of_getElem? e)); simp; omega
theorem m_fol {n : Nat} {M : mm_M} {am : Nat} {m : mS} {ls : List kL} (hN : NwL (m.1 7) ls) (ho : okL ls) {wl : Nat} (hw : m.1 0 20 = wl) (hwl : wl ≤ 20) {k p i : Nat} (hk : k < ls.length) (hp : p ≤ 20) (hi : i ≤ 20) : pX10_following n (mk M am m) am (iI k) (iI p) (iI i) = some (iI (atD ((lnN ls k).2.drop (p + wl)) i), mk M am m) := by
  have := ho.1
  have l20 := (ho.2 k hk).2.1
  simp (disch := (first | assumption | (refine sm_of ?_ ?_ <;> omega) | omega)) only [iI_add, iI_sub, iI_mul, iI_neg, iI_lt, iI_le, iI_eq, b1_s, b2_s, ↓reduceIte, mk_v, mk_gl23, mk_pl23, mk_gr1, mk_gr5, mk_gr6, mk_gr8, mk_gr9, mk_gr11, mk_gr13, mk_gr14, mk_gr15, mk_gr17, mk_gr18, mk_gr21, mk_gr24, mk_gr28, mk_gr30, mk_gr31, mk_gi0, mk_gi2, mk_gi3, mk_gi4, mk_gi7, mk_gi10, mk_gi12, mk_gi16, mk_gi19, mk_gi20, mk_gi22, mk_gi25, mk_gi26, mk_gi27, mk_gi29, mk_gi32, mk_pi0, mk_pi2, mk_pi3, mk_pi4, mk_pi7, mk_pi10, mk_pi12, mk_pi16, mk_pi19, mk_pi20, mk_pi22, mk_pi25, mk_pi26, mk_pi27, mk_pi29, mk_pi32, mk_ia1, mk_ia2, mk_ia3, mk_ia4, mk_ia5, mk_ia6, mk_ia7, mk_ia8, mk_ia9, mk_ia10, mk_ia11, mk_ia12, mk_ia13, mk_ia14, mk_ia15, mk_ia16, mk_is1, mk_is2, mk_is3, mk_is4, mk_is5, mk_is6, mk_is7, mk_is8, mk_is9, mk_is10, mk_is11, mk_is12, mk_is13, mk_is14, mk_is15, mk_is16, L0, L1, L2, L3, L4, L5, L6, L7, L8, L9, L10, L12, L20, L22, L24, L26, L27, L28, L32, L40, L60, L73, L95, L97, L222, L240, L441, L442, L622, Lm1, Lmh, L11, L13, L14, L15, L16, L17, L18, L19, L21, L23, L25, L30, L31, L33, L36, L39, L41, L44, L48, L53, L54, L55, L57, L58, L59, L91, L93, L98, L99, L100, L105, L106, L112, L114, L115, L119, L122, L160, L180, L200, L255, L1440, L24880, L63, Lm2, pX10_following, hw, m_long hN ho hk]
  unfold atD
  rw [List.getElem?_drop]
  by_cases c : ((lnN ls k).2.length : Int) ≤ p + wl + i
  · rw [if_pos c, List.getElem?_eq_none (by omega)]
  · rw [if_neg c]
    have s := m_sign (n := n) (M := M) (am := am) hN ho (k := k) (p := p + wl + i) hk (by omega)
    rw [show ((p + wl + i : Nat) : Int) = (p : Int) + wl + i by omega] at s
    rw [s, b2_s, List.getElem?_eq_getElem (by omega), getD_of (by omega)]
theorem m_bef {n : Nat} {M : mm_M} {am : Nat} {m : mS} {ls : List kL} (hN : NwL (m.1 7) ls) (ho : okL ls) {k p i : Nat} (hk : k < ls.length) (hp : p ≤ (lnN ls k).2.length) (hi : i ≤ 20) : pX10_before n (mk M am m) am (iI k) (iI p) (iI i) = some (iI (atD ((lnN ls k).2.take p).reverse i), mk M am m) := by
  have := ho.1
  have l20 := (ho.2 k hk).2.1
  simp (disch := (first | assumption | (refine sm_of ?_ ?_ <;> omega) | omega)) only [iI_add, iI_sub, iI_mul, iI_neg, iI_lt, iI_le, iI_eq, b1_s, b2_s, ↓reduceIte, mk_v, mk_gl23, mk_pl23, mk_gr1, mk_gr5, mk_gr6, mk_gr8, mk_gr9, mk_gr11, mk_gr13, mk_gr14, mk_gr15, mk_gr17, mk_gr18, mk_gr21, mk_gr24, mk_gr28, mk_gr30, mk_gr31, mk_gi0, mk_gi2, mk_gi3, mk_gi4, mk_gi7, mk_gi10, mk_gi12, mk_gi16, mk_gi19, mk_gi20, mk_gi22, mk_gi25, mk_gi26, mk_gi27, mk_gi29, mk_gi32, mk_pi0, mk_pi2, mk_pi3, mk_pi4, mk_pi7, mk_pi10, mk_pi12, mk_pi16, mk_pi19, mk_pi20, mk_pi22, mk_pi25, mk_pi26, mk_pi27, mk_pi29, mk_pi32, mk_ia1, mk_ia2, mk_ia3, mk_ia4, mk_ia5, mk_ia6, mk_ia7, mk_ia8, mk_ia9, mk_ia10, mk_ia11, mk_ia12, mk_ia13, mk_ia14, mk_ia15, mk_ia16, mk_is1, mk_is2, mk_is3, mk_is4, mk_is5, mk_is6, mk_is7, mk_is8, mk_is9, mk_is10, mk_is11, mk_is12, mk_is13, mk_is14, mk_is15, mk_is16, L0, L1, L2, L3, L4, L5, L6, L7, L8, L9, L10, L12, L20, L22, L24, L26, L27, L28, L32, L40, L60, L73, L95, L97, L222, L240, L441, L442, L622, Lm1, Lmh, L11, L13, L14, L15, L16, L17, L18, L19, L21, L23, L25, L30, L31, L33, L36, L39, L41, L44, L48, L53, L54, L55, L57, L58, L59, L91, L93, L98, L99, L100, L105, L106, L112, L114, L115, L119, L122, L160, L180, L200, L255, L1440, L24880, L63, Lm2, pX10_before]
  unfold atD
  by_cases c : (p : Int) - 1 - i < 0
  · rw [if_pos c, List.getElem?_eq_none (by simp; omega)]
  · rw [if_neg c]
    have s := m_sign (n := n) (M := M) (am := am) hN ho (k := k) (p := p - 1 - i) hk (by omega)
    rw [show ((p - 1 - i : Nat) : Int) = (p : Int) - 1 - i by omega] at s
    rw [s, b2_s, List.getElem?_reverse (by simp; omega), List.getElem?_take, if_pos (by simp; omega)]
    rw [show ((lnN ls k).2.take p).length - 1 - i = p - 1 - i by simp; omega, List.getElem?_eq_getElem (by omega), getD_of (by omega)]
def ordZ (a b : Int) : Int := if a < b then -1 else if b < a then 1 else 0
theorem m_ord {n : Nat} {M : mm_M} {a b : Int} (ha : sm a) (hb : sm b) : pX10_order n M (iI a) (iI b) = some (iI (ordZ a b), M) := by
  simp (disch := (first | assumption | (refine sm_of ?_ ?_ <;> omega) | fail)) only [iI_add, iI_sub, iI_mul, iI_neg, iI_lt, iI_le, iI_eq, b1_s, b2_s, ↓reduceIte, L0, L1, L2, L3, L4, L5, L6, L7, L8, L9, L10, L12, L20, L22, L24, L26, L27, L28, L32, L40, L60, L73, L95, L97, L222, L240, L441, L442, L622, Lm1, Lmh, L11, L13, L14, L15, L16, L17, L18, L19, L21, L23, L25, L30, L31, L33, L36, L39, L41, L44, L48, L53, L54, L55, L57, L58, L59, L91, L93, L98, L99, L100, L105, L106, L112, L114, L115, L119, L122, L160, L180, L200, L255, L1440, L24880, L63, Lm2, pX10_order]
  unfold ordZ
  by_cases c1 : a < b
  · rw [if_neg (by omega), if_pos c1]
  · rw [if_pos (by omega), if_neg c1]
    by_cases c2 : b < a
    · rw [if_neg (by omega), if_pos c2]
    · rw [if_pos (by omega), if_neg c2]
theorem ord_atD {A B : List Int} (ha : okS A) (hb : okS B) (i : Nat) : cmpL (A.drop i) (B.drop i) = if ordZ (atD A i) (atD B i) = 0 then cmpL (A.drop (i + 1)) (B.drop (i + 1)) else ordZ (atD A i) (atD B i) := by
  rw [cmpL_drop]
  unfold atD
  cases e1 : A[i]? with
  | none =>
    cases e2 : B[i]? with
    | none =>
      have l1 := List.getElem?_eq_none_iff.mp e1
      have l2 := List.getElem?_eq_none_iff.mp e2
      rw [List.drop_eq_nil_of_le (by omega), List.drop_eq_nil_of_le (by omega)]
      simp [ordZ, cmpL]
    | some y =>
      have := dec_bd (hb y (List.mem_of_getElem? e2))
      have h : ordZ (-1) (dec y) = -1 := by unfold ordZ; rw [if_pos (by omega)]
      simp [h]
  | some x =>
    have bx := dec_bd (ha x (List.mem_of_getElem? e1))
    cases e2 : B[i]? with
    | none =>
      have h : ordZ (dec x) (-1) = 1 := by unfold ordZ; rw [if_neg (by omega), if_pos (by omega)]
      simp [h]
    | some y =>
      have dl := dec_lt (ha x (List.mem_of_getElem? e1)) (hb y (List.mem_of_getElem? e2))
      have dl' := dec_lt (hb y (List.mem_of_getElem? e2)) (ha x (List.mem_of_getElem? e1))
      simp only [ordZ]
      by_cases c : x = y
      · subst c; simp
      · by_cases d : x < y
        · rw [if_neg c, if_pos d, if_pos (dl.mpr d)]; simp
        · rw [if_neg c, if_neg d, if_neg (fun z => d (dl.mp z)), if_pos (dl'.mpr (by omega))]; simp
theorem ordZ_bd (a b : Int) : -1 ≤ ordZ a b ∧ ordZ a b ≤ 1 := by unfold ordZ; (repeat' split) <;> omega
/-- by what two hits differ: -1, 0, 1 -/
def cmpS (wl : Nat) (p : Nat) (u : Int) (xs : List Int) (q : Nat) (v : Int) (ys : List Int) : Int :=
  if cmpL (xs.drop (p + wl)) (ys.drop (q + wl)) ≠ 0 then cmpL (xs.drop (p + wl)) (ys.drop (q + wl))
  else if cmpL (xs.take p).reverse (ys.take q).reverse ≠ 0 then cmpL (xs.take p).reverse (ys.take q).reverse
  else if ordZ u v ≠ 0 then ordZ u v else ordZ (p : Int) q
theorem cmpS_lt (wl : Nat) (p : Nat) (u : Int) (xs : List Int) (q : Nat) (v : Int) (ys : List Int) : (cmpS wl p u xs q v ys < 0 ↔ cmpH wl p u xs q v ys < 0) ∧ (0 < cmpS wl p u xs q v ys ↔ 0 < cmpH wl p u xs q v ys) := by
  unfold cmpS cmpH
  by_cases c1 : cmpL (xs.drop (p + wl)) (ys.drop (q + wl)) ≠ 0
  · rw [if_pos c1, if_pos c1]; exact ⟨Iff.rfl, Iff.rfl⟩
  · simp only [if_neg c1]
    by_cases c2 : cmpL (xs.take p).reverse (ys.take q).reverse ≠ 0
    · rw [if_pos c2, if_pos c2]; exact ⟨Iff.rfl, Iff.rfl⟩
    · simp only [if_neg c2]
      unfold ordZ
      (repeat' split) <;> omega
theorem cmpS_bd (wl : Nat) (p : Nat) (u : Int) (xs : List Int) (q : Nat) (v : Int) (ys : List Int) : -1 ≤ cmpS wl p u xs q v ys ∧ cmpS wl p u xs q v ys ≤ 1 := by
  have k1 := cmpL_bd (xs.drop (p + wl)) (ys.drop (q + wl))
  have k2 := cmpL_bd (xs.take p).reverse (ys.take q).reverse
  have k3 := ordZ_bd u v
  have k4 := ordZ_bd (p : Int) q
  unfold cmpS
  (repeat' split) <;> omega
theorem m_cmp {n : Nat} (hn : 60 ≤ n) {M : mm_M} {am : Nat} {m : mS} {ls : List kL} (hN : NwL (m.1 7) ls) (ho : okL ls) {wl : Nat} (hw : m.1 0 20 = wl) (hwl : wl ≤ 20) {k p o q : Nat} (hk : k < ls.length) (hp : p ≤ (lnN ls k).2.length) (hk' : o < ls.length) (hq : q ≤ (lnN ls o).2.length) : pX10_compares n (mk M am m) am (iI k) (iI p) (iI o) (iI q) = some (iI (cmpS wl p (lnN ls k).1 (lnN ls k).2 q (lnN ls o).1 (lnN ls o).2), mk M am m) := by
  obtain ⟨a1, a2, a3, a4⟩ := ho.2 k hk
  obtain ⟨b1, b2, b3, b4⟩ := ho.2 o hk'
  unfold nb at a4 b4
  have c10 := ho.1
  generalize hA : (lnN ls k).2.drop (p + wl) = A
  generalize hB : (lnN ls o).2.drop (q + wl) = B
  generalize hC : ((lnN ls k).2.take p).reverse = C
  generalize hD : ((lnN ls o).2.take q).reverse = D
  have oA : okS A := by rw [← hA]; exact a3.drop _
  have oB : okS B := by rw [← hB]; exact b3.drop _
  have oC : okS C := by rw [← hC]; exact (a3.take _).rev
  have oD : okS D := by rw [← hD]; exact (b3.take _).rev
  have lA : A.length ≤ 20 := by rw [← hA]; simp; omega
  have lB : B.length ≤ 20 := by rw [← hB]; simp; omega
  have lC : C.length ≤ 20 := by rw [← hC]; simp; omega
  have lD : D.length ≤ 20 := by rw [← hD]; simp; omega
  have cAB := cmpL_bd A B
  have cCD := cmpL_bd C D
  have zz : cmpL ([] : List Int) [] = 0 := rfl
  have nn : ∀ {X : List Int}, X.length ≤ 20 → X.drop 21 = [] := fun h => List.drop_eq_nil_of_le (by omega)
  have tail : ∀ z : Int, -1 ≤ z ∧ z ≤ 1 → pX10_compares_b89 n (mk M am m) am (iI k) (iI p) (iI o) (iI q) (iI z) = some (iI (if z ≠ 0 then z else if ordZ (lnN ls k).1 (lnN ls o).1 ≠ 0 then ordZ (lnN ls k).1 (lnN ls o).1 else ordZ (p : Int) q), mk M am m) := by
    intro z hz
    have o1 := ordZ_bd (lnN ls k).1 (lnN ls o).1
    by_cases c : z = 0
    · subst c
      simp (disch := (first | assumption | (refine sm_of ?_ ?_ <;> omega) | omega)) only [iI_add, iI_sub, iI_mul, iI_neg, iI_lt, iI_le, iI_eq, b1_s, b2_s, ↓reduceIte, mk_v, mk_gl23, mk_pl23, mk_gr1, mk_gr5, mk_gr6, mk_gr8, mk_gr9, mk_gr11, mk_gr13, mk_gr14, mk_gr15, mk_gr17, mk_gr18, mk_gr21, mk_gr24, mk_gr28, mk_gr30, mk_gr31, mk_gi0, mk_gi2, mk_gi3, mk_gi4, mk_gi7, mk_gi10, mk_gi12, mk_gi16, mk_gi19, mk_gi20, mk_gi22, mk_gi25, mk_gi26, mk_gi27, mk_gi29, mk_gi32, mk_pi0, mk_pi2, mk_pi3, mk_pi4, mk_pi7, mk_pi10, mk_pi12, mk_pi16, mk_pi19, mk_pi20, mk_pi22, mk_pi25, mk_pi26, mk_pi27, mk_pi29, mk_pi32, mk_ia1, mk_ia2, mk_ia3, mk_ia4, mk_ia5, mk_ia6, mk_ia7, mk_ia8, mk_ia9, mk_ia10, mk_ia11, mk_ia12, mk_ia13, mk_ia14, mk_ia15, mk_ia16, mk_is1, mk_is2, mk_is3, mk_is4, mk_is5, mk_is6, mk_is7, mk_is8, mk_is9, mk_is10, mk_is11, mk_is12, mk_is13, mk_is14, mk_is15, mk_is16, L0, L1, L2, L3, L4, L5, L6, L7, L8, L9, L10, L12, L20, L22, L24, L26, L27, L28, L32, L40, L60, L73, L95, L97, L222, L240, L441, L442, L622, Lm1, Lmh, L11, L13, L14, L15, L16, L17, L18, L19, L21, L23, L25, L30, L31, L33, L36, L39, L41, L44, L48, L53, L54, L55, L57, L58, L59, L91, L93, L98, L99, L100, L105, L106, L112, L114, L115, L119, L122, L160, L180, L200, L255, L1440, L24880, L63, Lm2, pX10_compares_b89, pX10_compares_b112, m_num hN ho hk, m_num hN ho hk', m_ord]
      by_cases d : ordZ (lnN ls k).1 (lnN ls o).1 = 0
      · simp [d]
      · simp [d]
    · simp (disch := (first | assumption | (refine sm_of ?_ ?_ <;> omega) | omega)) only [iI_add, iI_sub, iI_mul, iI_neg, iI_lt, iI_le, iI_eq, b1_s, b2_s, ↓reduceIte, mk_v, mk_gl23, mk_pl23, mk_gr1, mk_gr5, mk_gr6, mk_gr8, mk_gr9, mk_gr11, mk_gr13, mk_gr14, mk_gr15, mk_gr17, mk_gr18, mk_gr21, mk_gr24, mk_gr28, mk_gr30, mk_gr31, mk_gi0, mk_gi2, mk_gi3, mk_gi4, mk_gi7, mk_gi10, mk_gi12, mk_gi16, mk_gi19, mk_gi20, mk_gi22, mk_gi25, mk_gi26, mk_gi27, mk_gi29, mk_gi32, mk_pi0, mk_pi2, mk_pi3, mk_pi4, mk_pi7, mk_pi10, mk_pi12, mk_pi16, mk_pi19, mk_pi20, mk_pi22, mk_pi25, mk_pi26, mk_pi27, mk_pi29, mk_pi32, mk_ia1, mk_ia2, mk_ia3, mk_ia4, mk_ia5, mk_ia6, mk_ia7, mk_ia8, mk_ia9, mk_ia10, mk_ia11, mk_ia12, mk_ia13, mk_ia14, mk_ia15, mk_ia16, mk_is1, mk_is2, mk_is3, mk_is4, mk_is5, mk_is6, mk_is7, mk_is8, mk_is9, mk_is10, mk_is11, mk_is12, mk_is13, mk_is14, mk_is15, mk_is16, L0, L1, L2, L3, L4, L5, L6, L7, L8, L9, L10, L12, L20, L22, L24, L26, L27, L28, L32, L40, L60, L73, L95, L97, L222, L240, L441, L442, L622, Lm1, Lmh, L11, L13, L14, L15, L16, L17, L18, L19, L21, L23, L25, L30, L31, L33, L36, L39, L41, L44, L48, L53, L54, L55, L57, L58, L59, L91, L93, L98, L99, L100, L105, L106, L112, L114, L115, L119, L122, L160, L180, L200, L255, L1440, L24880, L63, Lm2, pX10_compares_b89, pX10_compares_b112, c]
      simp [c]
  have l2 : ∀ (r i : Nat), i ≤ 21 → 22 ≤ i + r → ∀ z : Int, -1 ≤ z ∧ z ≤ 1 → pX10_compares_l49 n r (mk M am m) am (iI k) (iI p) (iI o) (iI q) (iI z) (iI i) = pX10_compares_b89 n (mk M am m) am (iI k) (iI p) (iI o) (iI q) (iI (if z ≠ 0 then z else cmpL (C.drop i) (D.drop i))) := by
    intro r
    induction r with
    | zero => intro i h1 h2; omega
    | succ r ih =>
      intro i h1 h2 z hz
      show pX10_compares_l49b n (pX10_compares_l49 n r) (mk M am m) am _ _ _ _ _ _ = _
      by_cases c1 : (20 : Int) < i
      · simp (disch := (first | assumption | (refine sm_of ?_ ?_ <;> omega) | omega)) only [iI_add, iI_sub, iI_mul, iI_neg, iI_lt, iI_le, iI_eq, b1_s, b2_s, ↓reduceIte, mk_v, mk_gl23, mk_pl23, mk_gr1, mk_gr5, mk_gr6, mk_gr8, mk_gr9, mk_gr11, mk_gr13, mk_gr14, mk_gr15, mk_gr17, mk_gr18, mk_gr21, mk_gr24, mk_gr28, mk_gr30, mk_gr31, mk_gi0, mk_gi2, mk_gi3, mk_gi4, mk_gi7, mk_gi10, mk_gi12, mk_gi16, mk_gi19, mk_gi20, mk_gi22, mk_gi25, mk_gi26, mk_gi27, mk_gi29, mk_gi32, mk_pi0, mk_pi2, mk_pi3, mk_pi4, mk_pi7, mk_pi10, mk_pi12, mk_pi16, mk_pi19, mk_pi20, mk_pi22, mk_pi25, mk_pi26, mk_pi27, mk_pi29, mk_pi32, mk_ia1, mk_ia2, mk_ia3, mk_ia4, mk_ia5, mk_ia6, mk_ia7, mk_ia8, mk_ia9, mk_ia10, mk_ia11, mk_ia12, mk_ia13, mk_ia14, mk_ia15, mk_ia16, mk_is1, mk_is2, mk_is3, mk_is4, mk_is5, mk_is6, mk_is7, mk_is8, mk_is9, mk_is10, mk_is11, mk_is12, mk_is13, mk_is14, mk_is15, mk_is16, L0, L1, L2, L3, L4, L5, L6, L7, L8, L9, L10, L12, L20, L22, L24, L26, L27, L28, L32, L40, L60, L73, L95, L97, L222, L240, L441, L442, L622, Lm1, Lmh, L11, L13, L14, L15, L16, L17, L18, L19, L21, L23, L25, L30, L31, L33, L36, L39, L41, L44, L48, L53, L54, L55, L57, L58, L59, L91, L93, L98, L99, L100, L105, L106, L112, L114, L115, L119, L122, L160, L180, L200, L255, L1440, L24880, L63, Lm2, pX10_compares_l49b, c1]
        rw [show i = 21 by omega, nn lC, nn lD, zz]
        by_cases d : z = 0
        · simp [d]
        · simp [d]
      · by_cases d : z = 0
        · subst d
          have bc := atD_bd oC i
          have bd' := atD_bd oD i
          have e1 := m_bef (n := n) (M := M) (am := am) hN ho hk hp (show i ≤ 20 by omega)
          have e2 := m_bef (n := n) (M := M) (am := am) hN ho hk' hq (show i ≤ 20 by omega)
          rw [hC] at e1
          rw [hD] at e2
          simp (disch := (first | assumption | (refine sm_of ?_ ?_ <;> omega) | omega)) only [iI_add, iI_sub, iI_mul, iI_neg, iI_lt, iI_le, iI_eq, b1_s, b2_s, ↓reduceIte, mk_v, mk_gl23, mk_pl23, mk_gr1, mk_gr5, mk_gr6, mk_gr8, mk_gr9, mk_gr11, mk_gr13, mk_gr14, mk_gr15, mk_gr17, mk_gr18, mk_gr21, mk_gr24, mk_gr28, mk_gr30, mk_gr31, mk_gi0, mk_gi2, mk_gi3, mk_gi4, mk_gi7, mk_gi10, mk_gi12, mk_gi16, mk_gi19, mk_gi20, mk_gi22, mk_gi25, mk_gi26, mk_gi27, mk_gi29, mk_gi32, mk_pi0, mk_pi2, mk_pi3, mk_pi4, mk_pi7, mk_pi10, mk_pi12, mk_pi16, mk_pi19, mk_pi20, mk_pi22, mk_pi25, mk_pi26, mk_pi27, mk_pi29, mk_pi32, mk_ia1, mk_ia2, mk_ia3, mk_ia4, mk_ia5, mk_ia6, mk_ia7, mk_ia8, mk_ia9, mk_ia10, mk_ia11, mk_ia12, mk_ia13, mk_ia14, mk_ia15, mk_ia16, mk_is1, mk_is2, mk_is3, mk_is4, mk_is5, mk_is6, mk_is7, mk_is8, mk_is9, mk_is10, mk_is11, mk_is12, mk_is13, mk_is14, mk_is15, mk_is16, L0, L1, L2, L3, L4, L5, L6, L7, L8, L9, L10, L12, L20, L22, L24, L26, L27, L28, L32, L40, L60, L73, L95, L97, L222, L240, L441, L442, L622, Lm1, Lmh, L11, L13, L14, L15, L16, L17, L18, L19, L21, L23, L25, L30, L31, L33, L36, L39, L41, L44, L48, L53, L54, L55, L57, L58, L59, L91, L93, L98, L99, L100, L105, L106, L112, L114, L115, L119, L122, L160, L180, L200, L255, L1440, L24880, L63, Lm2, pX10_compares_l49b, c1, e1, e2, m_ord]
          rw [show ((i : Int) + 1) = ((i + 1 : Nat) : Int) by omega, ih (i + 1) (by omega) (by omega) _ (ordZ_bd _ _)]
          rw [ord_atD oC oD i]
          by_cases f : ordZ (atD C i) (atD D i) = 0
          · simp [f]
          · simp [f]
        · simp (disch := (first | assumption | (refine sm_of ?_ ?_ <;> omega) | omega)) only [iI_add, iI_sub, iI_mul, iI_neg, iI_lt, iI_le, iI_eq, b1_s, b2_s, ↓reduceIte, mk_v, mk_gl23, mk_pl23, mk_gr1, mk_gr5, mk_gr6, mk_gr8, mk_gr9, mk_gr11, mk_gr13, mk_gr14, mk_gr15, mk_gr17, mk_gr18, mk_gr21, mk_gr24, mk_gr28, mk_gr30, mk_gr31, mk_gi0, mk_gi2, mk_gi3, mk_gi4, mk_gi7, mk_gi10, mk_gi12, mk_gi16, mk_gi19, mk_gi20, mk_gi22, mk_gi25, mk_gi26, mk_gi27, mk_gi29, mk_gi32, mk_pi0, mk_pi2, mk_pi3, mk_pi4, mk_pi7, mk_pi10, mk_pi12, mk_pi16, mk_pi19, mk_pi20, mk_pi22, mk_pi25, mk_pi26, mk_pi27, mk_pi29, mk_pi32, mk_ia1, mk_ia2, mk_ia3, mk_ia4, mk_ia5, mk_ia6, mk_ia7, mk_ia8, mk_ia9, mk_ia10, mk_ia11, mk_ia12, mk_ia13, mk_ia14, mk_ia15, mk_ia16, mk_is1, mk_is2, mk_is3, mk_is4, mk_is5, mk_is6, mk_is7, mk_is8, mk_is9, mk_is10, mk_is11, mk_is12, mk_is13, mk_is14, mk_is15, mk_is16, L0, L1, L2, L3, L4, L5, L6, L7, L8, L9, L10, L12, L20, L22, L24, L26, L27, L28, L32, L40, L60, L73, L95, L97, L222, L240, L441, L442, L622, Lm1, Lmh, L11, L13, L14, L15, L16, L17, L18, L19, L21, L23, L25, L30, L31, L33, L36, L39, L41, L44, L48, L53, L54, L55, L57, L58, L59, L91, L93, L98, L99, L100, L105, L106, L112, L114, L115, L119, L122, L160, L180, L200, L255, L1440, L24880, L63, Lm2, pX10_compares_l49b, c1, d]
          simp [d]
  have l1 : ∀ (r i : Nat), i ≤ 21 → 22 ≤ i + r → ∀ z : Int, -1 ≤ z ∧ z ≤ 1 → pX10_compares_l6 n r (mk M am m) am (iI k) (iI p) (iI o) (iI q) (iI z) (iI i) = pX10_compares_l49 n n (mk M am m) am (iI k) (iI p) (iI o) (iI q) (iI (if z ≠ 0 then z else cmpL (A.drop i) (B.drop i))) (iI 0) := by
    intro r
    induction r with
    | zero => intro i h1 h2; omega
    | succ r ih =>
      intro i h1 h2 z hz
      show pX10_compares_l6b n (pX10_compares_l6 n r) (mk M am m) am _ _ _ _ _ _ = _
      by_cases c1 : (20 : Int) < i
      · simp (disch := (first | assumption | (refine sm_of ?_ ?_ <;> omega) | omega)) only [iI_add, iI_sub, iI_mul, iI_neg, iI_lt, iI_le, iI_eq, b1_s, b2_s, ↓reduceIte, mk_v, mk_gl23, mk_pl23, mk_gr1, mk_gr5, mk_gr6, mk_gr8, mk_gr9, mk_gr11, mk_gr13, mk_gr14, mk_gr15, mk_gr17, mk_gr18, mk_gr21, mk_gr24, mk_gr28, mk_gr30, mk_gr31, mk_gi0, mk_gi2, mk_gi3, mk_gi4, mk_gi7, mk_gi10, mk_gi12, mk_gi16, mk_gi19, mk_gi20, mk_gi22, mk_gi25, mk_gi26, mk_gi27, mk_gi29, mk_gi32, mk_pi0, mk_pi2, mk_pi3, mk_pi4, mk_pi7, mk_pi10, mk_pi12, mk_pi16, mk_pi19, mk_pi20, mk_pi22, mk_pi25, mk_pi26, mk_pi27, mk_pi29, mk_pi32, mk_ia1, mk_ia2, mk_ia3, mk_ia4, mk_ia5, mk_ia6, mk_ia7, mk_ia8, mk_ia9, mk_ia10, mk_ia11, mk_ia12, mk_ia13, mk_ia14, mk_ia15, mk_ia16, mk_is1, mk_is2, mk_is3, mk_is4, mk_is5, mk_is6, mk_is7, mk_is8, mk_is9, mk_is10, mk_is11, mk_is12, mk_is13, mk_is14, mk_is15, mk_is16, L0, L1, L2, L3, L4, L5, L6, L7, L8, L9, L10, L12, L20, L22, L24, L26, L27, L28, L32, L40, L60, L73, L95, L97, L222, L240, L441, L442, L622, Lm1, Lmh, L11, L13, L14, L15, L16, L17, L18, L19, L21, L23, L25, L30, L31, L33, L36, L39, L41, L44, L48, L53, L54, L55, L57, L58, L59, L91, L93, L98, L99, L100, L105, L106, L112, L114, L115, L119, L122, L160, L180, L200, L255, L1440, L24880, L63, Lm2, pX10_compares_l6b, c1]
        rw [show i = 21 by omega, nn lA, nn lB, zz]
        by_cases d : z = 0
        · simp [d]
        · simp [d]
      · by_cases d : z = 0
        · subst d
          have bc := atD_bd oA i
          have bd' := atD_bd oB i
          have e1 := m_fol (n := n) (M := M) (am := am) hN ho hw hwl hk (show p ≤ 20 by omega) (show i ≤ 20 by omega)
          have e2 := m_fol (n := n) (M := M) (am := am) hN ho hw hwl hk' (show q ≤ 20 by omega) (show i ≤ 20 by omega)
          rw [hA] at e1
          rw [hB] at e2
          simp (disch := (first | assumption | (refine sm_of ?_ ?_ <;> omega) | omega)) only [iI_add, iI_sub, iI_mul, iI_neg, iI_lt, iI_le, iI_eq, b1_s, b2_s, ↓reduceIte, mk_v, mk_gl23, mk_pl23, mk_gr1, mk_gr5, mk_gr6, mk_gr8, mk_gr9, mk_gr11, mk_gr13, mk_gr14, mk_gr15, mk_gr17, mk_gr18, mk_gr21, mk_gr24, mk_gr28, mk_gr30, mk_gr31, mk_gi0, mk_gi2, mk_gi3, mk_gi4, mk_gi7, mk_gi10, mk_gi12, mk_gi16, mk_gi19, mk_gi20, mk_gi22, mk_gi25, mk_gi26, mk_gi27, mk_gi29, mk_gi32, mk_pi0, mk_pi2, mk_pi3, mk_pi4, mk_pi7, mk_pi10, mk_pi12, mk_pi16, mk_pi19, mk_pi20, mk_pi22, mk_pi25, mk_pi26, mk_pi27, mk_pi29, mk_pi32, mk_ia1, mk_ia2, mk_ia3, mk_ia4, mk_ia5, mk_ia6, mk_ia7, mk_ia8, mk_ia9, mk_ia10, mk_ia11, mk_ia12, mk_ia13, mk_ia14, mk_ia15, mk_ia16, mk_is1, mk_is2, mk_is3, mk_is4, mk_is5, mk_is6, mk_is7, mk_is8, mk_is9, mk_is10, mk_is11, mk_is12, mk_is13, mk_is14, mk_is15, mk_is16, L0, L1, L2, L3, L4, L5, L6, L7, L8, L9, L10, L12, L20, L22, L24, L26, L27, L28, L32, L40, L60, L73, L95, L97, L222, L240, L441, L442, L622, Lm1, Lmh, L11, L13, L14, L15, L16, L17, L18, L19, L21, L23, L25, L30, L31, L33, L36, L39, L41, L44, L48, L53, L54, L55, L57, L58, L59, L91, L93, L98, L99, L100, L105, L106, L112, L114, L115, L119, L122, L160, L180, L200, L255, L1440, L24880, L63, Lm2, pX10_compares_l6b, c1, e1, e2, m_ord]
          rw [show ((i : Int) + 1) = ((i + 1 : Nat) : Int) by omega, ih (i + 1) (by omega) (by omega) _ (ordZ_bd _ _)]
          rw [ord_atD oA oB i]
          by_cases f : ordZ (atD A i) (atD B i) = 0
          · simp [f]
          · simp [f]
        · simp (disch := (first | assumption | (refine sm_of ?_ ?_ <;> omega) | omega)) only [iI_add, iI_sub, iI_mul, iI_neg, iI_lt, iI_le, iI_eq, b1_s, b2_s, ↓reduceIte, mk_v, mk_gl23, mk_pl23, mk_gr1, mk_gr5, mk_gr6, mk_gr8, mk_gr9, mk_gr11, mk_gr13, mk_gr14, mk_gr15, mk_gr17, mk_gr18, mk_gr21, mk_gr24, mk_gr28, mk_gr30, mk_gr31, mk_gi0, mk_gi2, mk_gi3, mk_gi4, mk_gi7, mk_gi10, mk_gi12, mk_gi16, mk_gi19, mk_gi20, mk_gi22, mk_gi25, mk_gi26, mk_gi27, mk_gi29, mk_gi32, mk_pi0, mk_pi2, mk_pi3, mk_pi4, mk_pi7, mk_pi10, mk_pi12, mk_pi16, mk_pi19, mk_pi20, mk_pi22, mk_pi25, mk_pi26, mk_pi27, mk_pi29, mk_pi32, mk_ia1, mk_ia2, mk_ia3, mk_ia4, mk_ia5, mk_ia6, mk_ia7, mk_ia8, mk_ia9, mk_ia10, mk_ia11, mk_ia12, mk_ia13, mk_ia14, mk_ia15, mk_ia16, mk_is1, mk_is2, mk_is3, mk_is4, mk_is5, mk_is6, mk_is7, mk_is8, mk_is9, mk_is10, mk_is11, mk_is12, mk_is13, mk_is14, mk_is15, mk_is16, L0, L1, L2, L3, L4, L5, L6, L7, L8, L9, L10, L12, L20, L22, L24, L26, L27, L28, L32, L40, L60, L73, L95, L97, L222, L240, L441, L442, L622, Lm1, Lmh, L11, L13, L14, L15, L16, L17, L18, L19, L21, L23, L25, L30, L31, L33, L36, L39, L41, L44, L48, L53, L54, L55, L57, L58, L59, L91, L93, L98, L99, L100, L105, L106, L112, L114, L115, L119, L122, L160, L180, L200, L255, L1440, L24880, L63, Lm2, pX10_compares_l6b, c1, d]
          simp [d]
  simp only [pX10_compares, mk_v, L0]
  have e1 := l1 n 0 (by omega) (by omega) 0 (by omega)
  have e2 := l2 n 0 (by omega) (by omega) (cmpL A B) cAB
  simp only [List.drop_zero, ne_eq, not_true_eq_false, if_false] at e1 e2
  rw [show ((0 : Nat) : Int) = 0 from rfl] at e1 e2
  rw [e1, e2, tail _ (by split <;> omega)]
  unfold cmpS
  rw [hA, hB, hC, hD]
  by_cases f : cmpL A B = 0
  · simp [f]
  · simp [f]
