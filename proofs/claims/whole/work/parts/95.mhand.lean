/-! the reference: acts that are asked for, and the rest -/
def rfU (rf : Nat → Int) (w : Int) : Nat → Int := fun i => if (i : Int) = w then rf i + 1 else rf i
/-- an act asked for: answer, state, states kept, refusals -/
def attA (T : kT) (z : kS) : Int := if whyK T.1 T.2.2.1 z.1 z.2.1 z.2.2.1 z.2.2.2 = -1 then (doK T z.1 z.2.1 z.2.2.1 z.2.2.2).1 else -1
def attR (T : kT) (z : kS) (rf : Nat → Int) : Nat → Int := if whyK T.1 T.2.2.1 z.1 z.2.1 z.2.2.1 z.2.2.2 = -1 then rf else rfU rf (whyK T.1 T.2.2.1 z.1 z.2.1 z.2.2.1 z.2.2.2)
theorem whyK_bd (ls : List kL) (C : Nat → kU) (s x y : Int) (w : List Int) : -1 ≤ whyK ls C s x y w ∧ whyK ls C s x y w ≤ 3 := by unfold whyK; (repeat' split) <;> omega
/-- a new state comes with states kept -/
theorem Mdl.act {m m' : mS} {tp : List Int} {T T' : kT} {wd : List Int} {ps ps' : List kT} {im : Option kT} {sc : List (List kS)} {rf : Nat → Int} (h : Mdl m tp T wd ps im sc rf) (hT : NwT (m'.1 7) T') (ho : okT T') (hne : T'.1.length ≠ 0) (hK : Kp m' ps') (g1 : ∀ j, (j = 1 ∨ j = 4 ∨ j = 5 ∨ j = 8 ∨ j = 9 ∨ j = 16) → m'.1 j = m.1 j) (g2 : ∀ x, (x = 2 ∨ x = 10 ∨ x = 16 ∨ x = 32) → m'.1 0 x = m.1 0 x) : Mdl m' tp T' wd ps' im sc rf := by
  obtain ⟨h1, h2, h3, h4, h5, h6⟩ := h
  obtain ⟨a1, a2, a3, a4, a5, a6, a7⟩ := h2
  exact ⟨⟨h1.1, h1.2.1, by rw [g2 2 (by omega)]; exact h1.2.2.1, by rw [g1 1 (by omega)]; exact h1.2.2.2⟩, ⟨hT, ho, by rw [g2 16 (by omega)]; exact a3, by rw [g1 9 (by omega)]; exact a4, a5, a6, fun z => absurd z hne⟩, hK, ⟨by rw [g2 32 (by omega)]; exact h4.1, by rw [g1 16 (by omega)]; exact h4.2⟩, ⟨h5.1, by rw [g2 10 (by omega)]; exact h5.2.1, fun k hk => (h5.2.2 k hk).cg (g1 4 (by omega)) (g1 5 (by omega))⟩, by rw [g1 8 (by omega)]; exact h6⟩
theorem m_hand {n : Nat} (hn : 25000 ≤ n) {m : mS} {tp : List Int} {T : kT} {wd : List Int} {ps : List kT} {im : Option kT} {sc : List (List kS)} {rf : Nat → Int} (h : Mdl m tp T wd ps im sc rf) {B : Int} (hB : B ≤ 5000000) (hb : bnd T B) {j : Nat} (hj : j = 6 ∨ j = 9) {z : kS} (hs : 0 ≤ z.1 ∧ z.1 ≤ 8) (hx : sm z.2.1) (hy : sm z.2.2.1) (hw : okS z.2.2.2) (hwl : z.2.2.2.length ≤ mz j) (h4 : z.1 = 4 → z.2.2.2.length ≤ 6) (hr : rowA (m.1 j) 0 z.2.2.2) (M : mm_M) (am : Nat) : ∃ m', pX10_hand n (mk M am m) am (iI z.1) (iI z.2.1) (iI z.2.2.1) (am + j) (iI z.2.2.2.length) = some (iI (attA T z), mk M am m') ∧ Mdl m' tp (tryK T ps z).1 wd (tryK T ps z).2 im sc (attR T z rf) := by
  have hM := h
  obtain ⟨g1, g2, g3, g4, g5, g6⟩ := h
  obtain ⟨a1, a2, a3, a4, a5, a6, a7⟩ := g2
  have wl : z.2.2.2.length ≤ 20 := by rcases hj with rfl | rfl <;> (simp [mz] at hwl; omega)
  have jz : mz j ≤ 100000 := by rcases hj with rfl | rfl <;> simp [mz]
  have w := m_why (show 60 ≤ n by omega) (M := M) (am := am) a1 a2 (w := z.2.2.2) hw wl (j := j) (by omega) (by omega) (o := 0) (by omega) (by omega) jz hr (sort := z.1) (x := z.2.1) (y := z.2.2.1) hs hx hy
  have wb := whyK_bd T.1 T.2.2.1 z.1 z.2.1 z.2.2.1 z.2.2.2
  unfold attA tryK attR
  by_cases c : whyK T.1 T.2.2.1 z.1 z.2.1 z.2.2.1 z.2.2.2 = -1
  · rw [if_pos c, if_pos c, if_pos c]
    rw [c] at w
    obtain ⟨ok1, ok2⟩ := okT_aft a2 (w := z.2.2.2) hw wl hs h4 c (by have := hb.1; omega) (fun q hq => by have := hb.2 q hq; omega)
    obtain ⟨m1, e1, t1, k1, f1⟩ := m_act hn (M := M) (am := am) a1 a2 g3 (w := z.2.2.2) hw wl (j := j) (by omega) (by omega) (by omega) (by omega) (by omega) (by omega) (o := 0) (by omega) (by omega) jz hr (sort := z.1) (x := z.2.1) (y := z.2.2.1) hs h4 c ok1
    refine ⟨m1, ?_, hM.act t1 (okT_act ok1) ok2 k1 (fun j q => f1.2.1 j (by omega) (by omega) (by omega) (by omega) (by omega)) (fun x q => f1.2.2 x (by omega) (by omega) (by omega))⟩
    simp (disch := (first | assumption | (refine sm_of ?_ ?_ <;> omega) | omega)) only [iI_add, iI_sub, iI_mul, iI_neg, iI_lt, iI_le, iI_eq, b1_s, b2_s, ↓reduceIte, mk_v, mk_gl23, mk_pl23, mk_gr1, mk_gr5, mk_gr6, mk_gr8, mk_gr9, mk_gr11, mk_gr13, mk_gr14, mk_gr15, mk_gr17, mk_gr18, mk_gr21, mk_gr24, mk_gr28, mk_gr30, mk_gr31, mk_gi0, mk_gi2, mk_gi3, mk_gi4, mk_gi7, mk_gi10, mk_gi12, mk_gi16, mk_gi19, mk_gi20, mk_gi22, mk_gi25, mk_gi26, mk_gi27, mk_gi29, mk_gi32, mk_pi0, mk_pi2, mk_pi3, mk_pi4, mk_pi7, mk_pi10, mk_pi12, mk_pi16, mk_pi19, mk_pi20, mk_pi22, mk_pi25, mk_pi26, mk_pi27, mk_pi29, mk_pi32, mk_ia1, mk_ia2, mk_ia3, mk_ia4, mk_ia5, mk_ia6, mk_ia7, mk_ia8, mk_ia9, mk_ia10, mk_ia11, mk_ia12, mk_ia13, mk_ia14, mk_ia15, mk_ia16, mk_is1, mk_is2, mk_is3, mk_is4, mk_is5, mk_is6, mk_is7, mk_is8, mk_is9, mk_is10, mk_is11, mk_is12, mk_is13, mk_is14, mk_is15, mk_is16, L0, L1, L2, L3, L4, L5, L6, L7, L8, L9, L10, L12, L20, L22, L24, L26, L27, L28, L32, L40, L60, L73, L95, L97, L222, L240, L441, L442, L622, Lm1, Lmh, L11, L13, L14, L15, L16, L17, L18, L19, L21, L23, L25, L30, L31, L33, L36, L39, L41, L44, L48, L53, L54, L55, L57, L58, L59, L91, L93, L98, L99, L100, L105, L106, L112, L114, L115, L119, L122, L160, L180, L200, L255, L1440, L24880, L63, Lm2, pX10_hand, w, e1]
  · rw [if_neg c, if_neg c, if_neg c]
    obtain ⟨v, hv⟩ := Int.eq_ofNat_of_zero_le (show 0 ≤ whyK T.1 T.2.2.1 z.1 z.2.1 z.2.2.1 z.2.2.2 by omega)
    have r := g6 v (by omega)
    rw [hv] at w wb ⊢
    refine ⟨setA m 8 (upI (m.1 8) v (rf v + 1)), ?_, ⟨⟨g1.1, g1.2.1, by rw [setA_n _ _ (by decide)]; exact g1.2.2.1, by rw [setA_n _ _ (by decide)]; exact g1.2.2.2⟩, ⟨by rw [setA_n _ _ (by decide)]; exact a1, a2, by rw [setA_n _ _ (by decide)]; exact a3, by rw [setA_n _ _ (by decide)]; exact a4, a5, a6, a7⟩, g3.cg (by rw [setA_n _ _ (by decide)]) (by rw [setA_n _ _ (by decide)]), ⟨by rw [setA_n _ _ (by decide)]; exact g4.1, by rw [setA_n _ _ (by decide)]; exact g4.2⟩, ⟨g5.1, by rw [setA_n _ _ (by decide)]; exact g5.2.1, fun k hk => (g5.2.2 k hk).cg (setA_n _ _ (by decide)) (setA_n _ _ (by decide))⟩, fun i hi => ?_⟩⟩
    · simp (disch := (first | assumption | (refine sm_of ?_ ?_ <;> omega) | omega)) only [iI_add, iI_sub, iI_mul, iI_neg, iI_lt, iI_le, iI_eq, b1_s, b2_s, ↓reduceIte, mk_v, mk_gl23, mk_pl23, mk_gr1, mk_gr5, mk_gr6, mk_gr8, mk_gr9, mk_gr11, mk_gr13, mk_gr14, mk_gr15, mk_gr17, mk_gr18, mk_gr21, mk_gr24, mk_gr28, mk_gr30, mk_gr31, mk_gi0, mk_gi2, mk_gi3, mk_gi4, mk_gi7, mk_gi10, mk_gi12, mk_gi16, mk_gi19, mk_gi20, mk_gi22, mk_gi25, mk_gi26, mk_gi27, mk_gi29, mk_gi32, mk_pi0, mk_pi2, mk_pi3, mk_pi4, mk_pi7, mk_pi10, mk_pi12, mk_pi16, mk_pi19, mk_pi20, mk_pi22, mk_pi25, mk_pi26, mk_pi27, mk_pi29, mk_pi32, mk_ia1, mk_ia2, mk_ia3, mk_ia4, mk_ia5, mk_ia6, mk_ia7, mk_ia8, mk_ia9, mk_ia10, mk_ia11, mk_ia12, mk_ia13, mk_ia14, mk_ia15, mk_ia16, mk_is1, mk_is2, mk_is3, mk_is4, mk_is5, mk_is6, mk_is7, mk_is8, mk_is9, mk_is10, mk_is11, mk_is12, mk_is13, mk_is14, mk_is15, mk_is16, L0, L1, L2, L3, L4, L5, L6, L7, L8, L9, L10, L12, L20, L22, L24, L26, L27, L28, L32, L40, L60, L73, L95, L97, L222, L240, L441, L442, L622, Lm1, Lmh, L11, L13, L14, L15, L16, L17, L18, L19, L21, L23, L25, L30, L31, L33, L36, L39, L41, L44, L48, L53, L54, L55, L57, L58, L59, L91, L93, L98, L99, L100, L105, L106, L112, L114, L115, L119, L122, L160, L180, L200, L255, L1440, L24880, L63, Lm2, pX10_hand, w, show ¬ (v : Int) = -1 by omega, r]
    · rw [setA_e]
      unfold rfU
      by_cases e : i = v
      · subst e; rw [upI_e, if_pos rfl]
      · rw [upI_n _ _ (by omega), if_neg (by omega)]; exact g6 i hi
/-- the line in hand, as it lies on the tape -/
def lih (tp : List Int) : List Int := if rowF tp 20 = -1 then (rds tp 20 0).1 else []
theorem rowF_bd {tp : List Int} (h : tp.length ≤ 240) (q : Nat) : -1 ≤ rowF tp q ∧ rowF tp q ≤ 240 := by
  have g := rds_le (tp := tp) q 0 (by omega)
  have s := skp_le (tp := tp) (i := (rds tp q 0).2) (by omega)
  unfold rowF
  (repeat' split) <;> omega
theorem m_lih {n : Nat} (hn : 300 ≤ n) {m : mS} {tp : List Int} (h : Tm m tp) (M : mm_M) (am : Nat) : ∃ m', pX10_lineInHand n (mk M am m) am = some (iI (lih tp).length, mk M am m') ∧ rowA (m'.1 6) 0 (lih tp) ∧ (rowF tp 20 = -1 → m'.1 0 12 = (lih tp).length) ∧ m'.2 = m.2 ∧ (∀ k, k ≠ 0 → k ≠ 6 → m'.1 k = m.1 k) ∧ ∀ x, x ≠ 3 → x ≠ 4 → x ≠ 12 → m'.1 0 x = m.1 0 x := by
  obtain ⟨m1, e1, a1, a2, a3, a4, a5⟩ := m_alone hn (M := M) (am := am) h (most := 20) (by omega) (by omega)
  have e1 : pX10_readAlone n (mk M am m) am (iI 20) = _ := e1
  have rb := rowF_bd h.1 20
  unfold lih
  by_cases c : rowF tp 20 = -1
  · rw [if_pos c]
    refine ⟨m1, ?_, a2, fun _ => a1, a3, a4, a5⟩
    rw [c] at e1
    simp (disch := (first | assumption | (refine sm_of ?_ ?_ <;> omega) | omega)) only [iI_add, iI_sub, iI_mul, iI_neg, iI_lt, iI_le, iI_eq, b1_s, b2_s, ↓reduceIte, mk_v, mk_gl23, mk_pl23, mk_gr1, mk_gr5, mk_gr6, mk_gr8, mk_gr9, mk_gr11, mk_gr13, mk_gr14, mk_gr15, mk_gr17, mk_gr18, mk_gr21, mk_gr24, mk_gr28, mk_gr30, mk_gr31, mk_gi0, mk_gi2, mk_gi3, mk_gi4, mk_gi7, mk_gi10, mk_gi12, mk_gi16, mk_gi19, mk_gi20, mk_gi22, mk_gi25, mk_gi26, mk_gi27, mk_gi29, mk_gi32, mk_pi0, mk_pi2, mk_pi3, mk_pi4, mk_pi7, mk_pi10, mk_pi12, mk_pi16, mk_pi19, mk_pi20, mk_pi22, mk_pi25, mk_pi26, mk_pi27, mk_pi29, mk_pi32, mk_ia1, mk_ia2, mk_ia3, mk_ia4, mk_ia5, mk_ia6, mk_ia7, mk_ia8, mk_ia9, mk_ia10, mk_ia11, mk_ia12, mk_ia13, mk_ia14, mk_ia15, mk_ia16, mk_is1, mk_is2, mk_is3, mk_is4, mk_is5, mk_is6, mk_is7, mk_is8, mk_is9, mk_is10, mk_is11, mk_is12, mk_is13, mk_is14, mk_is15, mk_is16, L0, L1, L2, L3, L4, L5, L6, L7, L8, L9, L10, L12, L20, L22, L24, L26, L27, L28, L32, L40, L60, L73, L95, L97, L222, L240, L441, L442, L622, Lm1, Lmh, L11, L13, L14, L15, L16, L17, L18, L19, L21, L23, L25, L30, L31, L33, L36, L39, L41, L44, L48, L53, L54, L55, L57, L58, L59, L91, L93, L98, L99, L100, L105, L106, L112, L114, L115, L119, L122, L160, L180, L200, L255, L1440, L24880, L63, Lm2, pX10_lineInHand, e1, a1]
  · rw [if_neg c]
    refine ⟨m1, ?_, fun i hi => by simp at hi, fun z => absurd z c, a3, a4, a5⟩
    simp (disch := (first | assumption | (refine sm_of ?_ ?_ <;> omega) | omega)) only [iI_add, iI_sub, iI_mul, iI_neg, iI_lt, iI_le, iI_eq, b1_s, b2_s, ↓reduceIte, mk_v, mk_gl23, mk_pl23, mk_gr1, mk_gr5, mk_gr6, mk_gr8, mk_gr9, mk_gr11, mk_gr13, mk_gr14, mk_gr15, mk_gr17, mk_gr18, mk_gr21, mk_gr24, mk_gr28, mk_gr30, mk_gr31, mk_gi0, mk_gi2, mk_gi3, mk_gi4, mk_gi7, mk_gi10, mk_gi12, mk_gi16, mk_gi19, mk_gi20, mk_gi22, mk_gi25, mk_gi26, mk_gi27, mk_gi29, mk_gi32, mk_pi0, mk_pi2, mk_pi3, mk_pi4, mk_pi7, mk_pi10, mk_pi12, mk_pi16, mk_pi19, mk_pi20, mk_pi22, mk_pi25, mk_pi26, mk_pi27, mk_pi29, mk_pi32, mk_ia1, mk_ia2, mk_ia3, mk_ia4, mk_ia5, mk_ia6, mk_ia7, mk_ia8, mk_ia9, mk_ia10, mk_ia11, mk_ia12, mk_ia13, mk_ia14, mk_ia15, mk_ia16, mk_is1, mk_is2, mk_is3, mk_is4, mk_is5, mk_is6, mk_is7, mk_is8, mk_is9, mk_is10, mk_is11, mk_is12, mk_is13, mk_is14, mk_is15, mk_is16, L0, L1, L2, L3, L4, L5, L6, L7, L8, L9, L10, L12, L20, L22, L24, L26, L27, L28, L32, L40, L60, L73, L95, L97, L222, L240, L441, L442, L622, Lm1, Lmh, L11, L13, L14, L15, L16, L17, L18, L19, L21, L23, L25, L30, L31, L33, L36, L39, L41, L44, L48, L53, L54, L55, L57, L58, L59, L91, L93, L98, L99, L100, L105, L106, L112, L114, L115, L119, L122, L160, L180, L200, L255, L1440, L24880, L63, Lm2, pX10_lineInHand, e1, c]
    rfl
theorem lih_ok (tp : List Int) : okS (lih tp) ∧ (lih tp).length ≤ 20 := by
  unfold lih
  split
  · exact ⟨rds_ok _ _ _, rds_len _ _ _⟩
  · exact ⟨okS_nil, by simp⟩
theorem lih_nil {tp : List Int} : lih tp = [] ↔ rowF tp 20 ≠ -1 := by
  unfold lih
  by_cases c : rowF tp 20 = -1
  · rw [if_pos c]
    constructor
    · intro z
      unfold rowF at c
      rw [if_pos z] at c; omega
    · intro z; exact absurd c z
  · rw [if_neg c]; exact ⟨fun _ => c, fun _ => rfl⟩
theorem attA_bd {T : kT} (ho : okT T) {z : kS} (hs : 0 ≤ z.1 ∧ z.1 ≤ 8) : (attA T z = -1 ↔ whyK T.1 T.2.2.1 z.1 z.2.1 z.2.2.1 z.2.2.2 ≠ -1) ∧ -1 ≤ attA T z ∧ attA T z ≤ 200000000 := by
  unfold attA
  by_cases c : whyK T.1 T.2.2.1 z.1 z.2.1 z.2.2.1 z.2.2.2 = -1
  · have := doK_nn ho hs c
    rw [if_pos c]
    exact ⟨⟨fun q => by omega, fun q => absurd c q⟩, by omega, by omega⟩
  · rw [if_neg c]; exact ⟨⟨fun _ => c, fun _ => rfl⟩, by omega, by omega⟩
theorem m_tapeAct {n : Nat} (hn : 25000 ≤ n) {m : mS} {tp : List Int} {T : kT} {wd : List Int} {ps : List kT} {im : Option kT} {sc : List (List kS)} {rf : Nat → Int} (h : Mdl m tp T wd ps im sc rf) {B : Int} (hB : B ≤ 5000000) (hb : bnd T B) {s x : Int} (hs : s = 0 ∨ s = 1) (hx : sm x) (M : mm_M) (am : Nat) : ∃ m', pX10_handTape n (mk M am m) am (iI s) (iI x) = some (iI (attA T (s, x, -1000000, lih tp)), mk M am m') ∧ Mdl m' (if attA T (s, x, -1000000, lih tp) = -1 then tp else []) (tryK T ps (s, x, -1000000, lih tp)).1 wd (tryK T ps (s, x, -1000000, lih tp)).2 im sc (attR T (s, x, -1000000, lih tp) rf) := by
  obtain ⟨m1, e1, r1, -, q1, q2, q3⟩ := m_lih (show 300 ≤ n by omega) h.1 M am
  have h1 : Mdl m1 tp T wd ps im sc rf := h.sk ⟨fun j q => q2 j (by omega) (by omega), fun x q => q3 x (by omega) (by omega) (by omega)⟩
  obtain ⟨l1, l2⟩ := lih_ok tp
  obtain ⟨m2, e2, g2⟩ := m_hand hn h1 hB hb (j := 6) (Or.inl rfl) (z := (s, x, 0, lih tp)) (by show 0 ≤ s ∧ s ≤ 8; omega) hx (sm_of (by show -1000000000 ≤ (0 : Int); omega) (by show (0 : Int) ≤ _; omega)) l1 (by simp [mz]; exact l2) (fun q => by have q : s = 4 := q; omega) r1 M am
  have n3 : s ≠ 3 := by omega
  have n4 : s ≠ 4 := by omega
  have n7 : s ≠ 7 := by omega
  have ey : tryK T ps (s, x, 0, lih tp) = tryK T ps (s, x, -1000000, lih tp) := tryK_y _ n3 n4 n7
  have ew : whyK T.1 T.2.2.1 s x 0 (lih tp) = whyK T.1 T.2.2.1 s x (-1000000) (lih tp) := y_irr _ n3 n4 n7
  have ea : attA T (s, x, 0, lih tp) = attA T (s, x, -1000000, lih tp) := by
    unfold attA
    show (if whyK T.1 T.2.2.1 s x 0 (lih tp) = -1 then (doK T s x 0 (lih tp)).1 else -1) = (if whyK T.1 T.2.2.1 s x (-1000000) (lih tp) = -1 then (doK T s x (-1000000) (lih tp)).1 else -1)
    rw [ew, y_irrd (-1000000) n3 n4 n7]
  have er : attR T (s, x, 0, lih tp) rf = attR T (s, x, -1000000, lih tp) rf := by
    unfold attR
    show (if whyK T.1 T.2.2.1 s x 0 (lih tp) = -1 then rf else rfU rf (whyK T.1 T.2.2.1 s x 0 (lih tp))) = (if whyK T.1 T.2.2.1 s x (-1000000) (lih tp) = -1 then rf else rfU rf (whyK T.1 T.2.2.1 s x (-1000000) (lih tp)))
    rw [ew]
  rw [ey, er] at g2
  have e2 : pX10_hand n (mk M am m1) am (iI s) (iI x) (iI 0) (am + 6) (iI (lih tp).length) = some (iI (attA T (s, x, 0, lih tp)), mk M am m2) := e2
  rw [ea] at e2
  have ab := attA_bd (z := (s, x, -1000000, lih tp)) h.2.1.2.1 (by show 0 ≤ s ∧ s ≤ 8; omega)
  generalize attA T (s, x, -1000000, lih tp) = v at *
  by_cases c : v = -1
  · rw [if_pos c]
    have t2 := g2.1.2.2.1
    refine ⟨m2, ?_, g2⟩
    subst c
    have es : setA m2 0 (upI (m2.1 0) 2 tp.length) = m2 := by
      rw [← t2]
      have : upI (m2.1 0) 2 (m2.1 0 2) = m2.1 0 := by funext q; unfold upI; split <;> simp_all
      rw [this, setA_self]
    simp (disch := (first | assumption | (refine sm_of ?_ ?_ <;> omega) | omega)) only [iI_add, iI_sub, iI_mul, iI_neg, iI_lt, iI_le, iI_eq, b1_s, b2_s, ↓reduceIte, mk_v, mk_gl23, mk_pl23, mk_gr1, mk_gr5, mk_gr6, mk_gr8, mk_gr9, mk_gr11, mk_gr13, mk_gr14, mk_gr15, mk_gr17, mk_gr18, mk_gr21, mk_gr24, mk_gr28, mk_gr30, mk_gr31, mk_gi0, mk_gi2, mk_gi3, mk_gi4, mk_gi7, mk_gi10, mk_gi12, mk_gi16, mk_gi19, mk_gi20, mk_gi22, mk_gi25, mk_gi26, mk_gi27, mk_gi29, mk_gi32, mk_pi0, mk_pi2, mk_pi3, mk_pi4, mk_pi7, mk_pi10, mk_pi12, mk_pi16, mk_pi19, mk_pi20, mk_pi22, mk_pi25, mk_pi26, mk_pi27, mk_pi29, mk_pi32, mk_ia1, mk_ia2, mk_ia3, mk_ia4, mk_ia5, mk_ia6, mk_ia7, mk_ia8, mk_ia9, mk_ia10, mk_ia11, mk_ia12, mk_ia13, mk_ia14, mk_ia15, mk_ia16, mk_is1, mk_is2, mk_is3, mk_is4, mk_is5, mk_is6, mk_is7, mk_is8, mk_is9, mk_is10, mk_is11, mk_is12, mk_is13, mk_is14, mk_is15, mk_is16, L0, L1, L2, L3, L4, L5, L6, L7, L8, L9, L10, L12, L20, L22, L24, L26, L27, L28, L32, L40, L60, L73, L95, L97, L222, L240, L441, L442, L622, Lm1, Lmh, L11, L13, L14, L15, L16, L17, L18, L19, L21, L23, L25, L30, L31, L33, L36, L39, L41, L44, L48, L53, L54, L55, L57, L58, L59, L91, L93, L98, L99, L100, L105, L106, L112, L114, L115, L119, L122, L160, L180, L200, L255, L1440, L24880, L63, Lm2, pX10_handTape, e1, e2, t2, es]
  · rw [if_neg c]
    refine ⟨setA m2 0 (upI (m2.1 0) 2 0), ?_, g2.tp ⟨by simp, fun x hx => by simp at hx, by rw [setA_e, upI_e]; rfl, fun i hi => by simp at hi⟩ (fun j q => setA_n _ _ (by omega)) (fun x q => by rw [setA_e, upI_n _ _ (by omega)])⟩
    simp (disch := (first | assumption | (refine sm_of ?_ ?_ <;> omega) | omega)) only [iI_add, iI_sub, iI_mul, iI_neg, iI_lt, iI_le, iI_eq, b1_s, b2_s, ↓reduceIte, mk_v, mk_gl23, mk_pl23, mk_gr1, mk_gr5, mk_gr6, mk_gr8, mk_gr9, mk_gr11, mk_gr13, mk_gr14, mk_gr15, mk_gr17, mk_gr18, mk_gr21, mk_gr24, mk_gr28, mk_gr30, mk_gr31, mk_gi0, mk_gi2, mk_gi3, mk_gi4, mk_gi7, mk_gi10, mk_gi12, mk_gi16, mk_gi19, mk_gi20, mk_gi22, mk_gi25, mk_gi26, mk_gi27, mk_gi29, mk_gi32, mk_pi0, mk_pi2, mk_pi3, mk_pi4, mk_pi7, mk_pi10, mk_pi12, mk_pi16, mk_pi19, mk_pi20, mk_pi22, mk_pi25, mk_pi26, mk_pi27, mk_pi29, mk_pi32, mk_ia1, mk_ia2, mk_ia3, mk_ia4, mk_ia5, mk_ia6, mk_ia7, mk_ia8, mk_ia9, mk_ia10, mk_ia11, mk_ia12, mk_ia13, mk_ia14, mk_ia15, mk_ia16, mk_is1, mk_is2, mk_is3, mk_is4, mk_is5, mk_is6, mk_is7, mk_is8, mk_is9, mk_is10, mk_is11, mk_is12, mk_is13, mk_is14, mk_is15, mk_is16, L0, L1, L2, L3, L4, L5, L6, L7, L8, L9, L10, L12, L20, L22, L24, L26, L27, L28, L32, L40, L60, L73, L95, L97, L222, L240, L441, L442, L622, Lm1, Lmh, L11, L13, L14, L15, L16, L17, L18, L19, L21, L23, L25, L30, L31, L33, L36, L39, L41, L44, L48, L53, L54, L55, L57, L58, L59, L91, L93, L98, L99, L100, L105, L106, L112, L114, L115, L119, L122, L160, L180, L200, L255, L1440, L24880, L63, Lm2, pX10_handTape, e1, e2, c]
theorem m_wordAct {n : Nat} (hn : 25000 ≤ n) {m : mS} {tp : List Int} {T : kT} {wd : List Int} {ps : List kT} {im : Option kT} {sc : List (List kS)} {rf : Nat → Int} (h : Mdl m tp T wd ps im sc rf) {B : Int} (hB : B ≤ 5000000) (hb : bnd T B) {s x y y' : Int} (hs : 2 ≤ s ∧ s ≤ 8) (h4 : s ≠ 4) (hx : sm x) (hy : sm y) (hyy : y' = y ∨ (s ≠ 3 ∧ s ≠ 7)) (M : mm_M) (am : Nat) : ∃ m', pX10_hand n (mk M am m) am (iI s) (iI x) (iI y) (am + 9) (iI 0) = some (iI (attA T (s, x, y', [])), mk M am m') ∧ Mdl m' tp (tryK T ps (s, x, y', [])).1 wd (tryK T ps (s, x, y', [])).2 im sc (attR T (s, x, y', []) rf) := by
  obtain ⟨m2, e2, g2⟩ := m_hand hn h hB hb (j := 9) (Or.inr rfl) (z := (s, x, y, [])) (by show 0 ≤ s ∧ s ≤ 8; omega) hx hy okS_nil (by simp) (fun q => absurd q h4) (fun i hi => by simp at hi) M am
  have e2 : pX10_hand n (mk M am m) am (iI s) (iI x) (iI y) (am + 9) (iI 0) = some (iI (attA T (s, x, y, [])), mk M am m2) := e2
  rcases hyy with rfl | ⟨n3, n7⟩
  · exact ⟨m2, e2, g2⟩
  · have ew : whyK T.1 T.2.2.1 s x y [] = whyK T.1 T.2.2.1 s x y' [] := y_irr _ n3 h4 n7
    have ea : attA T (s, x, y, []) = attA T (s, x, y', []) := by
      unfold attA
      show (if whyK T.1 T.2.2.1 s x y [] = -1 then (doK T s x y []).1 else -1) = (if whyK T.1 T.2.2.1 s x y' [] = -1 then (doK T s x y' []).1 else -1)
      rw [ew, y_irrd y' n3 h4 n7]
    have er : attR T (s, x, y, []) rf = attR T (s, x, y', []) rf := by
      unfold attR
      show (if whyK T.1 T.2.2.1 s x y [] = -1 then rf else rfU rf (whyK T.1 T.2.2.1 s x y [])) = (if whyK T.1 T.2.2.1 s x y' [] = -1 then rf else rfU rf (whyK T.1 T.2.2.1 s x y' []))
      rw [ew]
    rw [tryK_y y' n3 h4 n7, er] at g2
    rw [ea] at e2
    exact ⟨m2, e2, g2⟩
theorem m_layAct {n : Nat} (hn : 25000 ≤ n) {m : mS} {tp : List Int} {T : kT} {wd : List Int} {ps : List kT} {im : Option kT} {sc : List (List kS)} {rf : Nat → Int} (h : Mdl m tp T wd ps im sc rf) {B : Int} (hB : B ≤ 5000000) (hb : bnd T B) {x y : Int} (hx : sm x) (hy : sm y) (M : mm_M) (am : Nat) : ∃ m', pX10_lay n (mk M am m) am (iI x) (iI y) = some (iI (attA T (4, x, y, wd)), mk M am m') ∧ Mdl m' tp (tryK T ps (4, x, y, wd)).1 wd (tryK T ps (4, x, y, wd)).2 im sc (attR T (4, x, y, wd) rf) := by
  have q := h.2.1
  obtain ⟨m2, e2, g2⟩ := m_hand hn h hB hb (j := 9) (Or.inr rfl) (z := (4, x, y, wd)) (by simp) hx hy q.2.2.2.2.1 (by simp [mz]; exact q.2.2.2.2.2.1) (fun _ => q.2.2.2.2.2.1) q.2.2.2.1 M am
  have e2 : pX10_hand n (mk M am m) am (iI 4) (iI x) (iI y) (am + 9) (iI wd.length) = some (iI (attA T (4, x, y, wd)), mk M am m2) := e2
  have h16 := q.2.2.1
  refine ⟨m2, ?_, g2⟩
  simp (disch := (first | assumption | (refine sm_of ?_ ?_ <;> omega) | omega)) only [iI_add, iI_sub, iI_mul, iI_neg, iI_lt, iI_le, iI_eq, b1_s, b2_s, ↓reduceIte, mk_v, mk_gl23, mk_pl23, mk_gr1, mk_gr5, mk_gr6, mk_gr8, mk_gr9, mk_gr11, mk_gr13, mk_gr14, mk_gr15, mk_gr17, mk_gr18, mk_gr21, mk_gr24, mk_gr28, mk_gr30, mk_gr31, mk_gi0, mk_gi2, mk_gi3, mk_gi4, mk_gi7, mk_gi10, mk_gi12, mk_gi16, mk_gi19, mk_gi20, mk_gi22, mk_gi25, mk_gi26, mk_gi27, mk_gi29, mk_gi32, mk_pi0, mk_pi2, mk_pi3, mk_pi4, mk_pi7, mk_pi10, mk_pi12, mk_pi16, mk_pi19, mk_pi20, mk_pi22, mk_pi25, mk_pi26, mk_pi27, mk_pi29, mk_pi32, mk_ia1, mk_ia2, mk_ia3, mk_ia4, mk_ia5, mk_ia6, mk_ia7, mk_ia8, mk_ia9, mk_ia10, mk_ia11, mk_ia12, mk_ia13, mk_ia14, mk_ia15, mk_ia16, mk_is1, mk_is2, mk_is3, mk_is4, mk_is5, mk_is6, mk_is7, mk_is8, mk_is9, mk_is10, mk_is11, mk_is12, mk_is13, mk_is14, mk_is15, mk_is16, L0, L1, L2, L3, L4, L5, L6, L7, L8, L9, L10, L12, L20, L22, L24, L26, L27, L28, L32, L40, L60, L73, L95, L97, L222, L240, L441, L442, L622, Lm1, Lmh, L11, L13, L14, L15, L16, L17, L18, L19, L21, L23, L25, L30, L31, L33, L36, L39, L41, L44, L48, L53, L54, L55, L57, L58, L59, L91, L93, L98, L99, L100, L105, L106, L112, L114, L115, L119, L122, L160, L180, L200, L255, L1440, L24880, L63, Lm2, pX10_lay, h16, e2]
theorem m_undoM {n : Nat} (hn : 25000 ≤ n) {m : mS} {tp : List Int} {T P : kT} {wd : List Int} {ps : List kT} {im : Option kT} {sc : List (List kS)} {rf : Nat → Int} (h : Mdl m tp T wd (P :: ps) im sc rf) (hI : Inv T wd (P :: ps) im sc) (M : mm_M) (am : Nat) : ∃ m', pX10_undo n (mk M am m) am = some (iI ps.length, mk M am m') ∧ Mdl m' tp P wd ps im sc rf := by
  obtain ⟨m1, e1, t1, k1, f1⟩ := m_undo hn (M := M) (am := am) h.2.2.1
  obtain ⟨o1, o2⟩ := hI.2.2.2.2.1 P (by simp)
  exact ⟨m1, e1, h.act t1 o1 o2 k1 (fun j q => f1.2.1 j (by omega) (by omega) (by omega) (by omega) (by omega)) (fun x q => f1.2.2 x (by omega) (by omega) (by omega))⟩
theorem m_imageM {n : Nat} (hn : 25000 ≤ n) {m : mS} {tp : List Int} {T : kT} {wd : List Int} {ps : List kT} {im : Option kT} {sc : List (List kS)} {rf : Nat → Int} (h : Mdl m tp T wd ps im sc rf) (hs : T.1.length ≠ 0) (M : mm_M) (am : Nat) : ∃ m', pX10_image n (mk M am m) am = some (iI (allS T.1), mk M am m') ∧ Mdl m' tp T wd ps (some T) sc rf := by
  obtain ⟨g, e1, t1⟩ := m_image hn (M := M) (am := am) h.2.1.1 h.2.1.2.1 hs
  obtain ⟨g1, g2, g3, g4, g5, g6⟩ := h
  obtain ⟨a1, a2, a3, a4, a5, a6, a7⟩ := g2
  refine ⟨_, e1, ⟨⟨g1.1, g1.2.1, by rw [setA_e, upI_n _ _ (by decide)]; exact g1.2.2.1, by rw [setA_n _ _ (by decide), setA_n _ _ (by decide)]; exact g1.2.2.2⟩, ⟨by rw [setA_n _ _ (by decide), setA_n _ _ (by decide)]; exact a1, a2, by rw [setA_e, upI_n _ _ (by decide)]; exact a3, by rw [setA_n _ _ (by decide), setA_n _ _ (by decide)]; exact a4, a5, a6, a7⟩, g3.cg (by rw [setA_e, upI_n _ _ (by decide)]) (by rw [setA_n _ _ (by decide), setA_n _ _ (by decide)]), ⟨by rw [setA_e, upI_e]; rfl, fun I hI => by cases hI; rw [setA_n _ _ (by decide), setA_e]; exact t1⟩, ⟨g5.1, by rw [setA_e, upI_n _ _ (by decide)]; exact g5.2.1, fun k hk => (g5.2.2 k hk).cg (by rw [setA_n _ _ (by decide), setA_n _ _ (by decide)]) (by rw [setA_n _ _ (by decide), setA_n _ _ (by decide)])⟩, by rw [setA_n _ _ (by decide), setA_n _ _ (by decide)]; exact g6⟩⟩
theorem m_imageN {n : Nat} {m : mS} {T : kT} {wd : List Int} (h : Mq m T wd) (hs : T.1.length = 0) (M : mm_M) (am : Nat) : pX10_image n (mk M am m) am = some (iI (-1), mk M am m) := by
  have st := m_store (n := n) (M := M) (am := am) h.1.1 h.2.1.1
  rw [decide_eq_false (by omega)] at st
  simp (disch := (first | assumption | (refine sm_of ?_ ?_ <;> omega) | omega)) only [iI_add, iI_sub, iI_mul, iI_neg, iI_lt, iI_le, iI_eq, b1_s, b2_s, ↓reduceIte, mk_v, mk_gl23, mk_pl23, mk_gr1, mk_gr5, mk_gr6, mk_gr8, mk_gr9, mk_gr11, mk_gr13, mk_gr14, mk_gr15, mk_gr17, mk_gr18, mk_gr21, mk_gr24, mk_gr28, mk_gr30, mk_gr31, mk_gi0, mk_gi2, mk_gi3, mk_gi4, mk_gi7, mk_gi10, mk_gi12, mk_gi16, mk_gi19, mk_gi20, mk_gi22, mk_gi25, mk_gi26, mk_gi27, mk_gi29, mk_gi32, mk_pi0, mk_pi2, mk_pi3, mk_pi4, mk_pi7, mk_pi10, mk_pi12, mk_pi16, mk_pi19, mk_pi20, mk_pi22, mk_pi25, mk_pi26, mk_pi27, mk_pi29, mk_pi32, mk_ia1, mk_ia2, mk_ia3, mk_ia4, mk_ia5, mk_ia6, mk_ia7, mk_ia8, mk_ia9, mk_ia10, mk_ia11, mk_ia12, mk_ia13, mk_ia14, mk_ia15, mk_ia16, mk_is1, mk_is2, mk_is3, mk_is4, mk_is5, mk_is6, mk_is7, mk_is8, mk_is9, mk_is10, mk_is11, mk_is12, mk_is13, mk_is14, mk_is15, mk_is16, L0, L1, L2, L3, L4, L5, L6, L7, L8, L9, L10, L12, L20, L22, L24, L26, L27, L28, L32, L40, L60, L73, L95, L97, L222, L240, L441, L442, L622, Lm1, Lmh, L11, L13, L14, L15, L16, L17, L18, L19, L21, L23, L25, L30, L31, L33, L36, L39, L41, L44, L48, L53, L54, L55, L57, L58, L59, L91, L93, L98, L99, L100, L105, L106, L112, L114, L115, L119, L122, L160, L180, L200, L255, L1440, L24880, L63, Lm2, pX10_image, st, bI_f]
theorem m_backM {n : Nat} (hn : 25000 ≤ n) {m : mS} {tp : List Int} {T I : kT} {wd : List Int} {ps : List kT} {sc : List (List kS)} {rf : Nat → Int} (h : Mdl m tp T wd ps (some I) sc rf) (hI : okT I ∧ I.1.length ≠ 0) (M : mm_M) (am : Nat) : ∃ m', pX10_back n (mk M am m) am = some (iI (allS I.1), mk M am m') ∧ Mdl m' tp I wd [] (some I) sc rf := by
  have g4 := h.2.2.2.1
  obtain ⟨g, e1, t1⟩ := m_back hn (M := M) (am := am) (by rw [g4.1]; rfl) (g4.2 I rfl) hI.1
  refine ⟨_, e1, h.act (by rw [setA_n _ _ (by decide), setA_e]; exact t1) hI.1 hI.2 ⟨by simp, by rw [setA_e, upI_e]; rfl, fun i hi => by simp at hi⟩ (fun j q => by rw [setA_n _ _ (by omega), setA_n _ _ (by omega)]) (fun x q => by rw [setA_e, upI_n _ _ (by omega)])⟩
theorem m_backN {n : Nat} {m : mS} (h : m.1 0 32 = 0) (M : mm_M) (am : Nat) : pX10_back n (mk M am m) am = some (iI (-1), mk M am m) := by
  simp (disch := (first | assumption | (refine sm_of ?_ ?_ <;> omega) | omega)) only [iI_add, iI_sub, iI_mul, iI_neg, iI_lt, iI_le, iI_eq, b1_s, b2_s, ↓reduceIte, mk_v, mk_gl23, mk_pl23, mk_gr1, mk_gr5, mk_gr6, mk_gr8, mk_gr9, mk_gr11, mk_gr13, mk_gr14, mk_gr15, mk_gr17, mk_gr18, mk_gr21, mk_gr24, mk_gr28, mk_gr30, mk_gr31, mk_gi0, mk_gi2, mk_gi3, mk_gi4, mk_gi7, mk_gi10, mk_gi12, mk_gi16, mk_gi19, mk_gi20, mk_gi22, mk_gi25, mk_gi26, mk_gi27, mk_gi29, mk_gi32, mk_pi0, mk_pi2, mk_pi3, mk_pi4, mk_pi7, mk_pi10, mk_pi12, mk_pi16, mk_pi19, mk_pi20, mk_pi22, mk_pi25, mk_pi26, mk_pi27, mk_pi29, mk_pi32, mk_ia1, mk_ia2, mk_ia3, mk_ia4, mk_ia5, mk_ia6, mk_ia7, mk_ia8, mk_ia9, mk_ia10, mk_ia11, mk_ia12, mk_ia13, mk_ia14, mk_ia15, mk_ia16, mk_is1, mk_is2, mk_is3, mk_is4, mk_is5, mk_is6, mk_is7, mk_is8, mk_is9, mk_is10, mk_is11, mk_is12, mk_is13, mk_is14, mk_is15, mk_is16, L0, L1, L2, L3, L4, L5, L6, L7, L8, L9, L10, L12, L20, L22, L24, L26, L27, L28, L32, L40, L60, L73, L95, L97, L222, L240, L441, L442, L622, Lm1, Lmh, L11, L13, L14, L15, L16, L17, L18, L19, L21, L23, L25, L30, L31, L33, L36, L39, L41, L44, L48, L53, L54, L55, L57, L58, L59, L91, L93, L98, L99, L100, L105, L106, L112, L114, L115, L119, L122, L160, L180, L200, L255, L1440, L24880, L63, Lm2, pX10_back, h]
theorem m_word {n : Nat} (hn : 25000 ≤ n) {m : mS} {tp : List Int} {T : kT} {wd : List Int} {ps : List kT} {im : Option kT} {sc : List (List kS)} {rf : Nat → Int} (h : Mdl m tp T wd ps im sc rf) (M : mm_M) (am : Nat) : ∃ m', pX10_word n (mk M am m) am = some (iI (if T.1.length = 0 ∨ rowF tp 6 ≠ -1 then -1 else ((hL T.1 (rds tp 6 0).1).length : Int)), mk M am m') ∧ (if T.1.length = 0 ∨ rowF tp 6 ≠ -1 then Mdl m' tp T wd ps im sc rf else Mdl m' [] T (rds tp 6 0).1 ps im sc rf) := by
  have st := m_store (n := n) (M := M) (am := am) h.2.1.1.1 h.2.1.2.1.1
  by_cases s0 : 0 < T.1.length
  · rw [decide_eq_true s0] at st
    obtain ⟨m1, e1, a1, a2, a3, a4, a5⟩ := m_alone (show 300 ≤ n by omega) (M := M) (am := am) h.1 (most := 6) (by omega) (by omega)
    have e1 : pX10_readAlone n (mk M am m) am (iI 6) = _ := e1
    have h1 : Mdl m1 tp T wd ps im sc rf := h.sk ⟨fun j q => a4 j (by omega) (by omega), fun x q => a5 x (by omega) (by omega) (by omega)⟩
    have rb := rowF_bd h.1.1 6
    have rl := rds_len tp 6 0
    have ro := rds_ok tp 6 0
    by_cases c : rowF tp 6 = -1
    · have cc : ¬ (T.1.length = 0 ∨ rowF tp 6 ≠ -1) := fun z => by rcases z with z | z; omega; exact z c
      simp only [if_neg cc]
      have ne : (rds tp 6 0).1 ≠ [] := by intro z; unfold rowF at c; rw [if_pos z] at c; omega
      generalize (rds tp 6 0).1 = xs at *
      have loop : ∀ (q i : Nat) (f : Int → Int), i ≤ 6 → 6 < i + q → (∀ z : Nat, z < i → z < xs.length → f z = dec (xs.getD z 0)) → ∃ g, pX10_word_l34 n q (mk M am (setA (setA m1 0 (upI (upI (m1.1 0) 2 0) 16 xs.length)) 9 f)) am (iI i) = pX10_word_b70 n (mk M am (setA (setA m1 0 (upI (upI (m1.1 0) 2 0) 16 xs.length)) 9 g)) am ∧ rowA g 0 xs := by
        intro q
        induction q with
        | zero => intro i f x1 x2; omega
        | succ q ih =>
          intro i f x1 x2 x3
          show ∃ g, pX10_word_l34b n (pX10_word_l34 n q) (mk M am (setA (setA m1 0 (upI (upI (m1.1 0) 2 0) 16 xs.length)) 9 f)) am _ = _ ∧ _
          by_cases d : (6 : Int) ≤ i
          · refine ⟨f, ?_, fun z hz => by rw [Int.zero_add]; exact x3 z (by omega) hz⟩
            simp (disch := (first | assumption | (refine sm_of ?_ ?_ <;> omega) | omega)) only [iI_add, iI_sub, iI_mul, iI_neg, iI_lt, iI_le, iI_eq, b1_s, b2_s, ↓reduceIte, mk_v, mk_gl23, mk_pl23, mk_gr1, mk_gr5, mk_gr6, mk_gr8, mk_gr9, mk_gr11, mk_gr13, mk_gr14, mk_gr15, mk_gr17, mk_gr18, mk_gr21, mk_gr24, mk_gr28, mk_gr30, mk_gr31, mk_gi0, mk_gi2, mk_gi3, mk_gi4, mk_gi7, mk_gi10, mk_gi12, mk_gi16, mk_gi19, mk_gi20, mk_gi22, mk_gi25, mk_gi26, mk_gi27, mk_gi29, mk_gi32, mk_pi0, mk_pi2, mk_pi3, mk_pi4, mk_pi7, mk_pi10, mk_pi12, mk_pi16, mk_pi19, mk_pi20, mk_pi22, mk_pi25, mk_pi26, mk_pi27, mk_pi29, mk_pi32, mk_ia1, mk_ia2, mk_ia3, mk_ia4, mk_ia5, mk_ia6, mk_ia7, mk_ia8, mk_ia9, mk_ia10, mk_ia11, mk_ia12, mk_ia13, mk_ia14, mk_ia15, mk_ia16, mk_is1, mk_is2, mk_is3, mk_is4, mk_is5, mk_is6, mk_is7, mk_is8, mk_is9, mk_is10, mk_is11, mk_is12, mk_is13, mk_is14, mk_is15, mk_is16, L0, L1, L2, L3, L4, L5, L6, L7, L8, L9, L10, L12, L20, L22, L24, L26, L27, L28, L32, L40, L60, L73, L95, L97, L222, L240, L441, L442, L622, Lm1, Lmh, L11, L13, L14, L15, L16, L17, L18, L19, L21, L23, L25, L30, L31, L33, L36, L39, L41, L44, L48, L53, L54, L55, L57, L58, L59, L91, L93, L98, L99, L100, L105, L106, L112, L114, L115, L119, L122, L160, L180, L200, L255, L1440, L24880, L63, Lm2, pX10_word_l34b, d]
          · have b12 : (setA (setA m1 0 (upI (upI (m1.1 0) 2 0) 16 xs.length)) 9 f).1 0 12 = xs.length := by rw [setA_n _ _ (by decide), setA_e, upI_n _ _ (by decide), upI_n _ _ (by decide)]; exact a1
            by_cases g : (xs.length : Int) ≤ i
            · obtain ⟨g', e2, r2⟩ := ih (i + 1) (upI f i 0) (by omega) (by omega) (fun z z1 z2 => by rw [upI_n _ _ (by omega)]; exact x3 z (by omega) z2)
              refine ⟨g', ?_, r2⟩
              simp (disch := (first | assumption | (refine sm_of ?_ ?_ <;> omega) | omega)) only [iI_add, iI_sub, iI_mul, iI_neg, iI_lt, iI_le, iI_eq, b1_s, b2_s, ↓reduceIte, mk_v, mk_gl23, mk_pl23, mk_gr1, mk_gr5, mk_gr6, mk_gr8, mk_gr9, mk_gr11, mk_gr13, mk_gr14, mk_gr15, mk_gr17, mk_gr18, mk_gr21, mk_gr24, mk_gr28, mk_gr30, mk_gr31, mk_gi0, mk_gi2, mk_gi3, mk_gi4, mk_gi7, mk_gi10, mk_gi12, mk_gi16, mk_gi19, mk_gi20, mk_gi22, mk_gi25, mk_gi26, mk_gi27, mk_gi29, mk_gi32, mk_pi0, mk_pi2, mk_pi3, mk_pi4, mk_pi7, mk_pi10, mk_pi12, mk_pi16, mk_pi19, mk_pi20, mk_pi22, mk_pi25, mk_pi26, mk_pi27, mk_pi29, mk_pi32, mk_ia1, mk_ia2, mk_ia3, mk_ia4, mk_ia5, mk_ia6, mk_ia7, mk_ia8, mk_ia9, mk_ia10, mk_ia11, mk_ia12, mk_ia13, mk_ia14, mk_ia15, mk_ia16, mk_is1, mk_is2, mk_is3, mk_is4, mk_is5, mk_is6, mk_is7, mk_is8, mk_is9, mk_is10, mk_is11, mk_is12, mk_is13, mk_is14, mk_is15, mk_is16, L0, L1, L2, L3, L4, L5, L6, L7, L8, L9, L10, L12, L20, L22, L24, L26, L27, L28, L32, L40, L60, L73, L95, L97, L222, L240, L441, L442, L622, Lm1, Lmh, L11, L13, L14, L15, L16, L17, L18, L19, L21, L23, L25, L30, L31, L33, L36, L39, L41, L44, L48, L53, L54, L55, L57, L58, L59, L91, L93, L98, L99, L100, L105, L106, L112, L114, L115, L119, L122, L160, L180, L200, L255, L1440, L24880, L63, Lm2, pX10_word_l34b, d, b12, g, setA_e, setA_setA]
              rw [show ((i : Int) + 1) = ((i + 1 : Nat) : Int) by omega]
              exact e2
            · obtain ⟨g', e2, r2⟩ := ih (i + 1) (upI f i (dec (xs.getD i 0))) (by omega) (by omega) (fun z z1 z2 => by
                by_cases e : z = i
                · rw [e, upI_e]
                · rw [upI_n _ _ (by omega)]; exact x3 z (by omega) z2)
              have b6 : (setA (setA m1 0 (upI (upI (m1.1 0) 2 0) 16 xs.length)) 9 f).1 6 i = dec (xs.getD i 0) := by
                rw [setA_n _ _ (by decide), setA_n _ _ (by decide)]
                have := a2 i (by omega)
                rw [Int.zero_add] at this; exact this
              refine ⟨g', ?_, r2⟩
              simp (disch := (first | assumption | (refine sm_of ?_ ?_ <;> omega) | omega)) only [iI_add, iI_sub, iI_mul, iI_neg, iI_lt, iI_le, iI_eq, b1_s, b2_s, ↓reduceIte, mk_v, mk_gl23, mk_pl23, mk_gr1, mk_gr5, mk_gr6, mk_gr8, mk_gr9, mk_gr11, mk_gr13, mk_gr14, mk_gr15, mk_gr17, mk_gr18, mk_gr21, mk_gr24, mk_gr28, mk_gr30, mk_gr31, mk_gi0, mk_gi2, mk_gi3, mk_gi4, mk_gi7, mk_gi10, mk_gi12, mk_gi16, mk_gi19, mk_gi20, mk_gi22, mk_gi25, mk_gi26, mk_gi27, mk_gi29, mk_gi32, mk_pi0, mk_pi2, mk_pi3, mk_pi4, mk_pi7, mk_pi10, mk_pi12, mk_pi16, mk_pi19, mk_pi20, mk_pi22, mk_pi25, mk_pi26, mk_pi27, mk_pi29, mk_pi32, mk_ia1, mk_ia2, mk_ia3, mk_ia4, mk_ia5, mk_ia6, mk_ia7, mk_ia8, mk_ia9, mk_ia10, mk_ia11, mk_ia12, mk_ia13, mk_ia14, mk_ia15, mk_ia16, mk_is1, mk_is2, mk_is3, mk_is4, mk_is5, mk_is6, mk_is7, mk_is8, mk_is9, mk_is10, mk_is11, mk_is12, mk_is13, mk_is14, mk_is15, mk_is16, L0, L1, L2, L3, L4, L5, L6, L7, L8, L9, L10, L12, L20, L22, L24, L26, L27, L28, L32, L40, L60, L73, L95, L97, L222, L240, L441, L442, L622, Lm1, Lmh, L11, L13, L14, L15, L16, L17, L18, L19, L21, L23, L25, L30, L31, L33, L36, L39, L41, L44, L48, L53, L54, L55, L57, L58, L59, L91, L93, L98, L99, L100, L105, L106, L112, L114, L115, L119, L122, L160, L180, L200, L255, L1440, L24880, L63, Lm2, pX10_word_l34b, d, b12, g, b6, setA_e, setA_setA]
              rw [show ((i : Int) + 1) = ((i + 1 : Nat) : Int) by omega]
              exact e2
      obtain ⟨g, e2, r2⟩ := loop n 0 (m1.1 9) (by omega) (by omega) (fun z z1 z2 => by omega)
      have es : setA (setA m1 0 (upI (upI (m1.1 0) 2 0) 16 xs.length)) 9 (m1.1 9) = setA m1 0 (upI (upI (m1.1 0) 2 0) 16 xs.length) := by
        have := setA_self (setA m1 0 (upI (upI (m1.1 0) 2 0) 16 xs.length)) 9
        rw [setA_n _ _ (by decide)] at this; exact this
      rw [es] at e2
      obtain ⟨g1, g2, g3, g4, g5, g6⟩ := h1
      obtain ⟨b1, b2, b3, b4, b5, b6, b7⟩ := g2
      have hq : Mq (setA (setA m1 0 (upI (upI (m1.1 0) 2 0) 16 xs.length)) 9 g) T xs := ⟨by rw [setA_n _ _ (by decide), setA_n _ _ (by decide)]; exact b1, b2, by rw [setA_n _ _ (by decide), setA_e, upI_e], by rw [setA_e]; exact r2, ro, rl, fun z => by omega⟩
      obtain ⟨m3, e3, H3, ok3, f3, w3⟩ := m_lays (show 300 ≤ n by omega) (M := M) (am := am) hq.1.1 b2.1 ro (by omega) (j := 9) (by decide) (by decide) (by decide) (by decide) (o := 0) (by omega) (by simp [mz]; omega) (by simp [mz]) hq.2.2.2.1
      have h19 := H3.2.1
      have eh : hL T.1 xs = fbL T.1 xs T.1.length := by unfold hL; rw [if_neg ne]
      have c16 : (setA (setA m1 0 (upI (upI (m1.1 0) 2 0) 16 xs.length)) 9 g).1 0 16 = xs.length := hq.2.2.1
      refine ⟨m3, ?_, ?_⟩
      · rw [eh]
        rw [c] at e1
        have e2 : pX10_word_l34 n n (mk M am (setA m1 0 (upI (upI (m1.1 0) 2 0) 16 xs.length))) am (iI 0) = _ := e2
        simp (disch := (first | assumption | (refine sm_of ?_ ?_ <;> omega) | omega)) only [iI_add, iI_sub, iI_mul, iI_neg, iI_lt, iI_le, iI_eq, b1_s, b2_s, ↓reduceIte, mk_v, mk_gl23, mk_pl23, mk_gr1, mk_gr5, mk_gr6, mk_gr8, mk_gr9, mk_gr11, mk_gr13, mk_gr14, mk_gr15, mk_gr17, mk_gr18, mk_gr21, mk_gr24, mk_gr28, mk_gr30, mk_gr31, mk_gi0, mk_gi2, mk_gi3, mk_gi4, mk_gi7, mk_gi10, mk_gi12, mk_gi16, mk_gi19, mk_gi20, mk_gi22, mk_gi25, mk_gi26, mk_gi27, mk_gi29, mk_gi32, mk_pi0, mk_pi2, mk_pi3, mk_pi4, mk_pi7, mk_pi10, mk_pi12, mk_pi16, mk_pi19, mk_pi20, mk_pi22, mk_pi25, mk_pi26, mk_pi27, mk_pi29, mk_pi32, mk_ia1, mk_ia2, mk_ia3, mk_ia4, mk_ia5, mk_ia6, mk_ia7, mk_ia8, mk_ia9, mk_ia10, mk_ia11, mk_ia12, mk_ia13, mk_ia14, mk_ia15, mk_ia16, mk_is1, mk_is2, mk_is3, mk_is4, mk_is5, mk_is6, mk_is7, mk_is8, mk_is9, mk_is10, mk_is11, mk_is12, mk_is13, mk_is14, mk_is15, mk_is16, L0, L1, L2, L3, L4, L5, L6, L7, L8, L9, L10, L12, L20, L22, L24, L26, L27, L28, L32, L40, L60, L73, L95, L97, L222, L240, L441, L442, L622, Lm1, Lmh, L11, L13, L14, L15, L16, L17, L18, L19, L21, L23, L25, L30, L31, L33, L36, L39, L41, L44, L48, L53, L54, L55, L57, L58, L59, L91, L93, L98, L99, L100, L105, L106, L112, L114, L115, L119, L122, L160, L180, L200, L255, L1440, L24880, L63, Lm2, pX10_word, st, bI_t, Int.reduceEq, e1, setA_e, setA_setA, upI_n, a1, e2, pX10_word_b70, c16, e3, h19]
      · refine Mdl.sk (m := setA (setA m1 0 (upI (upI (m1.1 0) 2 0) 16 xs.length)) 9 g) ?_ f3.k
        exact ⟨⟨by simp, fun x hx => by simp at hx, by rw [setA_n _ _ (by decide), setA_e, upI_n _ _ (by decide), upI_e]; rfl, fun i hi => by simp at hi⟩, hq, g3.cg (by rw [setA_n _ _ (by decide), setA_e, upI_n _ _ (by decide), upI_n _ _ (by decide)]) (by rw [setA_n _ _ (by decide), setA_n _ _ (by decide)]), ⟨by rw [setA_n _ _ (by decide), setA_e, upI_n _ _ (by decide), upI_n _ _ (by decide)]; exact g4.1, by rw [setA_n _ _ (by decide), setA_n _ _ (by decide)]; exact g4.2⟩, ⟨g5.1, by rw [setA_n _ _ (by decide), setA_e, upI_n _ _ (by decide), upI_n _ _ (by decide)]; exact g5.2.1, fun k hk => (g5.2.2 k hk).cg (by rw [setA_n _ _ (by decide), setA_n _ _ (by decide)]) (by rw [setA_n _ _ (by decide), setA_n _ _ (by decide)])⟩, by rw [setA_n _ _ (by decide), setA_n _ _ (by decide)]; exact g6⟩
    · have cc : T.1.length = 0 ∨ rowF tp 6 ≠ -1 := Or.inr c
      simp only [if_pos cc]
      refine ⟨m1, ?_, h1⟩
      simp (disch := (first | assumption | (refine sm_of ?_ ?_ <;> omega) | omega)) only [iI_add, iI_sub, iI_mul, iI_neg, iI_lt, iI_le, iI_eq, b1_s, b2_s, ↓reduceIte, mk_v, mk_gl23, mk_pl23, mk_gr1, mk_gr5, mk_gr6, mk_gr8, mk_gr9, mk_gr11, mk_gr13, mk_gr14, mk_gr15, mk_gr17, mk_gr18, mk_gr21, mk_gr24, mk_gr28, mk_gr30, mk_gr31, mk_gi0, mk_gi2, mk_gi3, mk_gi4, mk_gi7, mk_gi10, mk_gi12, mk_gi16, mk_gi19, mk_gi20, mk_gi22, mk_gi25, mk_gi26, mk_gi27, mk_gi29, mk_gi32, mk_pi0, mk_pi2, mk_pi3, mk_pi4, mk_pi7, mk_pi10, mk_pi12, mk_pi16, mk_pi19, mk_pi20, mk_pi22, mk_pi25, mk_pi26, mk_pi27, mk_pi29, mk_pi32, mk_ia1, mk_ia2, mk_ia3, mk_ia4, mk_ia5, mk_ia6, mk_ia7, mk_ia8, mk_ia9, mk_ia10, mk_ia11, mk_ia12, mk_ia13, mk_ia14, mk_ia15, mk_ia16, mk_is1, mk_is2, mk_is3, mk_is4, mk_is5, mk_is6, mk_is7, mk_is8, mk_is9, mk_is10, mk_is11, mk_is12, mk_is13, mk_is14, mk_is15, mk_is16, L0, L1, L2, L3, L4, L5, L6, L7, L8, L9, L10, L12, L20, L22, L24, L26, L27, L28, L32, L40, L60, L73, L95, L97, L222, L240, L441, L442, L622, Lm1, Lmh, L11, L13, L14, L15, L16, L17, L18, L19, L21, L23, L25, L30, L31, L33, L36, L39, L41, L44, L48, L53, L54, L55, L57, L58, L59, L91, L93, L98, L99, L100, L105, L106, L112, L114, L115, L119, L122, L160, L180, L200, L255, L1440, L24880, L63, Lm2, pX10_word, st, bI_t, Int.reduceEq, e1, c]
  · have cc : T.1.length = 0 ∨ rowF tp 6 ≠ -1 := Or.inl (by omega)
    simp only [if_pos cc]
    rw [decide_eq_false s0] at st
    refine ⟨m, ?_, h⟩
    simp (disch := (first | assumption | (refine sm_of ?_ ?_ <;> omega) | omega)) only [iI_add, iI_sub, iI_mul, iI_neg, iI_lt, iI_le, iI_eq, b1_s, b2_s, ↓reduceIte, mk_v, mk_gl23, mk_pl23, mk_gr1, mk_gr5, mk_gr6, mk_gr8, mk_gr9, mk_gr11, mk_gr13, mk_gr14, mk_gr15, mk_gr17, mk_gr18, mk_gr21, mk_gr24, mk_gr28, mk_gr30, mk_gr31, mk_gi0, mk_gi2, mk_gi3, mk_gi4, mk_gi7, mk_gi10, mk_gi12, mk_gi16, mk_gi19, mk_gi20, mk_gi22, mk_gi25, mk_gi26, mk_gi27, mk_gi29, mk_gi32, mk_pi0, mk_pi2, mk_pi3, mk_pi4, mk_pi7, mk_pi10, mk_pi12, mk_pi16, mk_pi19, mk_pi20, mk_pi22, mk_pi25, mk_pi26, mk_pi27, mk_pi29, mk_pi32, mk_ia1, mk_ia2, mk_ia3, mk_ia4, mk_ia5, mk_ia6, mk_ia7, mk_ia8, mk_ia9, mk_ia10, mk_ia11, mk_ia12, mk_ia13, mk_ia14, mk_ia15, mk_ia16, mk_is1, mk_is2, mk_is3, mk_is4, mk_is5, mk_is6, mk_is7, mk_is8, mk_is9, mk_is10, mk_is11, mk_is12, mk_is13, mk_is14, mk_is15, mk_is16, L0, L1, L2, L3, L4, L5, L6, L7, L8, L9, L10, L12, L20, L22, L24, L26, L27, L28, L32, L40, L60, L73, L95, L97, L222, L240, L441, L442, L622, Lm1, Lmh, L11, L13, L14, L15, L16, L17, L18, L19, L21, L23, L25, L30, L31, L33, L36, L39, L41, L44, L48, L53, L54, L55, L57, L58, L59, L91, L93, L98, L99, L100, L105, L106, L112, L114, L115, L119, L122, L160, L180, L200, L255, L1440, L24880, L63, Lm2, pX10_word, st, bI_f]
