/-! the reference: a store, a step, a script read off the tape -/
abbrev kS : Type := Int × Int × Int × List Int
/-- a store: where it goes wrong (-1: nowhere), its lines -/
def stF (tp : List Int) : Nat → Nat → Int × List (List Int)
  | 0, i => ((i : Int), [])
  | r + 1, i => if (rds tp 20 i).1 = [] then (((rds tp 20 i).2 : Int), []) else if pk tp (rds tp 20 i).2 = -1 then (-1, [(rds tp 20 i).1]) else if r = 0 ∨ pk tp (rds tp 20 i).2 ≠ 59 then ((skp tp (rds tp 20 i).2 : Int), [(rds tp 20 i).1]) else ((stF tp r (skp tp (rds tp 20 i).2 + 1)).1, (rds tp 20 i).1 :: (stF tp r (skp tp (rds tp 20 i).2 + 1)).2)
def srS (m m' : mS) : Prop := m'.2 = m.2 ∧ (∀ k, k ≠ 0 → k ≠ 2 → k ≠ 3 → m'.1 k = m.1 k) ∧ ∀ x, x ≠ 3 → x ≠ 4 → x ≠ 7 → m'.1 0 x = m.1 0 x
theorem srS.trans {m m1 m2 : mS} (h : srS m m1) (g : srS m1 m2) : srS m m2 := ⟨g.1.trans h.1, fun k a b c => (g.2.1 k a b c).trans (h.2.1 k a b c), fun x a b c => (g.2.2 x a b c).trans (h.2.2 x a b c)⟩
theorem srj.s0 {m m' : mS} (h : srj 0 m m') : srS m m' := ⟨h.1, fun k a _ _ => h.2.1 k a a, fun x a b _ => h.2.2 x a b⟩
theorem srj.s3 {m m' : mS} (h : srj 3 m m') : srS m m' := ⟨h.1, fun k a _ c => h.2.1 k a c, fun x a b _ => h.2.2 x a b⟩
theorem rds_nil {tp : List Int} {r i : Nat} (h : (rds tp (r + 1) i).1 = []) : (rds tp (r + 1) i).2 = skp tp i := by
  cases e : isSg (pk tp i)
  · rw [rds_f e]
  · rw [rds_t e] at h; cases h
theorem isSg_n {b : Int} (h : isSg b = true) : b ≠ -1 ∧ b ≠ 59 ∧ b ≠ 44 ∧ b ≠ 58 := by have := isSg_spec h; omega
theorem m_b82 {n : Nat} (hn : 300 ≤ n) {M : mm_M} {am : Nat} {m : mS} {tp : List Int} {p k : Nat} {w : Int} (h : Rd m tp p w) (hw : -1 ≤ w ∧ w ≤ 1000) : ∃ m', pX10_readStore_b82 n (pX10_readStore_l11 n (k + 1)) (mk M am m) am (iI 0) = some (iI (if w = -1 then (if pk tp p = -1 then -1 else (skp tp p : Int)) else w), mk M am m') ∧ srj 0 m m' := by
  have h6 := h.2.2.1
  have hl := h.2.1
  have t := rd_f3 h (k := p) hl
  obtain ⟨m2, i2, e2, t2, f2⟩ := m_ends hn (M := M) (am := am) t hw
  refine ⟨m2, ?_, (srj_f3 m _).trans f2⟩
  simp (disch := (first | assumption | (refine sm_of ?_ ?_ <;> omega) | omega)) only [iI_add, iI_sub, iI_mul, iI_neg, iI_lt, iI_le, iI_eq, b1_s, b2_s, ↓reduceIte, mk_v, mk_gl23, mk_pl23, mk_gr1, mk_gr5, mk_gr6, mk_gr8, mk_gr9, mk_gr11, mk_gr13, mk_gr14, mk_gr15, mk_gr17, mk_gr18, mk_gr21, mk_gr24, mk_gr28, mk_gr30, mk_gr31, mk_gi0, mk_gi2, mk_gi3, mk_gi4, mk_gi7, mk_gi10, mk_gi12, mk_gi16, mk_gi19, mk_gi20, mk_gi22, mk_gi25, mk_gi26, mk_gi27, mk_gi29, mk_gi32, mk_pi0, mk_pi2, mk_pi3, mk_pi4, mk_pi7, mk_pi10, mk_pi12, mk_pi16, mk_pi19, mk_pi20, mk_pi22, mk_pi25, mk_pi26, mk_pi27, mk_pi29, mk_pi32, mk_ia1, mk_ia2, mk_ia3, mk_ia4, mk_ia5, mk_ia6, mk_ia7, mk_ia8, mk_ia9, mk_ia10, mk_ia11, mk_ia12, mk_ia13, mk_ia14, mk_ia15, mk_ia16, mk_is1, mk_is2, mk_is3, mk_is4, mk_is5, mk_is6, mk_is7, mk_is8, mk_is9, mk_is10, mk_is11, mk_is12, mk_is13, mk_is14, mk_is15, mk_is16, L0, L1, L2, L3, L4, L5, L6, L7, L8, L9, L10, L12, L20, L22, L24, L26, L27, L28, L32, L40, L60, L73, L95, L97, L222, L240, L441, L442, L622, Lm1, Lmh, L11, L13, L14, L15, L16, L17, L18, L19, L21, L23, L25, L30, L31, L33, L36, L39, L41, L44, L48, L53, L54, L55, L57, L58, L59, L91, L93, L98, L99, L100, L105, L106, L112, L114, L115, L119, L122, L160, L180, L200, L255, L1440, L24880, L63, Lm2, pX10_readStore_b82, h6, Int.add_zero]
  show pX10_readStore_l11b n (pX10_readStore_l11 n k) (mk M am (setA m 0 (upI (m.1 0) 3 p))) am _ = _
  simp (disch := (first | assumption | (refine sm_of ?_ ?_ <;> omega) | omega)) only [iI_add, iI_sub, iI_mul, iI_neg, iI_lt, iI_le, iI_eq, b1_s, b2_s, ↓reduceIte, mk_v, mk_gl23, mk_pl23, mk_gr1, mk_gr5, mk_gr6, mk_gr8, mk_gr9, mk_gr11, mk_gr13, mk_gr14, mk_gr15, mk_gr17, mk_gr18, mk_gr21, mk_gr24, mk_gr28, mk_gr30, mk_gr31, mk_gi0, mk_gi2, mk_gi3, mk_gi4, mk_gi7, mk_gi10, mk_gi12, mk_gi16, mk_gi19, mk_gi20, mk_gi22, mk_gi25, mk_gi26, mk_gi27, mk_gi29, mk_gi32, mk_pi0, mk_pi2, mk_pi3, mk_pi4, mk_pi7, mk_pi10, mk_pi12, mk_pi16, mk_pi19, mk_pi20, mk_pi22, mk_pi25, mk_pi26, mk_pi27, mk_pi29, mk_pi32, mk_ia1, mk_ia2, mk_ia3, mk_ia4, mk_ia5, mk_ia6, mk_ia7, mk_ia8, mk_ia9, mk_ia10, mk_ia11, mk_ia12, mk_ia13, mk_ia14, mk_ia15, mk_ia16, mk_is1, mk_is2, mk_is3, mk_is4, mk_is5, mk_is6, mk_is7, mk_is8, mk_is9, mk_is10, mk_is11, mk_is12, mk_is13, mk_is14, mk_is15, mk_is16, L0, L1, L2, L3, L4, L5, L6, L7, L8, L9, L10, L12, L20, L22, L24, L26, L27, L28, L32, L40, L60, L73, L95, L97, L222, L240, L441, L442, L622, Lm1, Lmh, L11, L13, L14, L15, L16, L17, L18, L19, L21, L23, L25, L30, L31, L33, L36, L39, L41, L44, L48, L53, L54, L55, L57, L58, L59, L91, L93, L98, L99, L100, L105, L106, L112, L114, L115, L119, L122, L160, L180, L200, L255, L1440, L24880, L63, Lm2, pX10_readStore_l11b, e2]
theorem m_rst {n : Nat} (hn : 300 ≤ n) {M : mm_M} {am : Nat} {tp : List Int} : ∀ (k r c i : Nat) (m : mS), Rd m tp i (-1) → m.1 0 7 = c → c + r = 8 → 1 ≤ r → r + 1 < k → ∃ m', pX10_readStore_l11 n k (mk M am m) am (iI 1) = some (iI (stF tp r i).1, mk M am m') ∧ ((stF tp r i).1 = -1 → m'.1 0 7 = c + (stF tp r i).2.length ∧ ∀ q : Nat, q < (stF tp r i).2.length → m'.1 2 (c + q) = ((stF tp r i).2.getD q []).length ∧ rowA (m'.1 3) (20 * (c + q)) ((stF tp r i).2.getD q [])) ∧ (∀ q : Int, q < c → m'.1 2 q = m.1 2 q) ∧ (∀ q : Int, q < 20 * c → m'.1 3 q = m.1 3 q) ∧ srS m m' := by
  intro k
  induction k with
  | zero => intro r c i m _ _ _ _ h; omega
  | succ k ih =>
    intro r c i m h h7 hc hr hk
    obtain ⟨r, rfl⟩ : ∃ r', r = r' + 1 := ⟨r - 1, by omega⟩
    obtain ⟨k, rfl⟩ : ∃ k', k = k' + 1 := ⟨k - 1, by omega⟩
    have hi := h.2.1
    obtain ⟨m1, e1, t1, a1, b1, f1⟩ := m_readS hn (M := M) (am := am) (j := 3) (by decide) (by decide) (o := 20 * c) (most := 20) (by omega) (by simp [mz]; omega) (by simp [mz]) (by omega) (by omega) h
    have e1 : pX10_readSigns n (mk M am m) am (am + 3) (iI (20 * c)) (iI 20) = _ := e1
    have g := rds_le (tp := tp) 20 i hi
    have m17 : m1.1 0 7 = c := by rw [f1.2.2 7 (by decide) (by decide)]; exact h7
    have m12 : m1.1 2 = m.1 2 := f1.2.1 2 (by decide) (by decide)
    have t3 : Rd (setA (setA m1 2 (upI (m1.1 2) c (rds tp 20 i).1.length)) 0 (upI (m1.1 0) 7 (c + 1))) tp (skp tp (rds tp 20 i).2) (rdE tp 20 i) := ⟨⟨t1.1.1, t1.1.2.1, by rw [setA_e, upI_n _ _ (by decide)]; exact t1.1.2.2.1, by rw [setA_n _ _ (by decide), setA_n _ _ (by decide)]; exact t1.1.2.2.2⟩, t1.2.1, by rw [setA_e, upI_n _ _ (by decide)]; exact t1.2.2.1, by rw [setA_e, upI_n _ _ (by decide)]; exact t1.2.2.2⟩
    have s3 : srS m1 (setA (setA m1 2 (upI (m1.1 2) c (rds tp 20 i).1.length)) 0 (upI (m1.1 0) 7 (c + 1))) := ⟨rfl, fun k a b _ => by rw [setA_n _ _ a, setA_n _ _ b], fun x a b d => by rw [setA_e, upI_n _ _ d]⟩
    have q2 : (setA (setA m1 2 (upI (m1.1 2) c (rds tp 20 i).1.length)) 0 (upI (m1.1 0) 7 (c + 1))).1 2 = upI (m.1 2) c (rds tp 20 i).1.length := by rw [setA_n _ _ (by decide), setA_e, m12]
    have q3 : (setA (setA m1 2 (upI (m1.1 2) c (rds tp 20 i).1.length)) 0 (upI (m1.1 0) 7 (c + 1))).1 3 = m1.1 3 := by rw [setA_n _ _ (by decide), setA_n _ _ (by decide)]
    have q7 : (setA (setA m1 2 (upI (m1.1 2) c (rds tp 20 i).1.length)) 0 (upI (m1.1 0) 7 (c + 1))).1 0 7 = c + 1 := by rw [setA_e, upI_e]
    have unf : pX10_readStore_l11 n (k + 1 + 1) (mk M am m) am (iI 1) = (if iI (rdE tp 20 i) = iI (-1) then (mm_b2 (pX10_ahead n (mk M am (setA (setA m1 2 (upI (m1.1 2) c (rds tp 20 i).1.length)) 0 (upI (m1.1 0) 7 (c + 1)))) am) fun v9 M => (if v9 = 59 then (mm_b1 (mm_gi 10 7 M am) fun v10 => (if 8 ≤ v10 then (pX10_readStore_b82 n (pX10_readStore_l11 n (k + 1)) M am 0) else (pX10_readStore_b82 n (pX10_readStore_l11 n (k + 1)) M am 1))) else (pX10_readStore_b82 n (pX10_readStore_l11 n (k + 1)) M am 0))) else (pX10_readStore_b82 n (pX10_readStore_l11 n (k + 1)) (mk M am (setA (setA m1 2 (upI (m1.1 2) c (rds tp 20 i).1.length)) 0 (upI (m1.1 0) 7 (c + 1)))) am 0)) := by
      show pX10_readStore_l11b n (pX10_readStore_l11 n (k + 1)) (mk M am m) am (iI 1) = _
      have g4 := t3.2.2.2
      simp (disch := (first | assumption | (refine sm_of ?_ ?_ <;> omega) | omega)) only [pX10_readStore_l11b, L0, L1, z10, ↓reduceIte, mk_gr5, b1_s, mk_gi7, h7, mk_gr6, L20, iI_mul, e1, b2_s, mk_is2, m17, setA_n, iI_add, mk_pi7, mk_gi4, g4, iI_neg]
    generalize hm3 : setA (setA m1 2 (upI (m1.1 2) c (rds tp 20 i).1.length)) 0 (upI (m1.1 0) 7 (c + 1)) = m3 at *
    clear hm3
    have sp := skp_240 t1
    rw [skp_skp] at sp
    have s0 := skp_240 h
    have wb : -1 ≤ rdE tp 20 i ∧ rdE tp 20 i ≤ 1000 := by unfold rdE; (repeat' split) <;> omega
    have x2 : ∀ q : Int, q < c → m3.1 2 q = m.1 2 q := fun q hq => by rw [q2, upI_n _ _ (by omega)]
    have x3 : ∀ q : Int, q < 20 * c → m3.1 3 q = m.1 3 q := fun q hq => by rw [q3, b1 q (by omega)]
    have fs := f1.s3.trans s3
    by_cases cw : rdE tp 20 i = -1
    · have ne : (rds tp 20 i).1 ≠ [] := by intro z; unfold rdE at cw; rw [if_pos z] at cw; omega
      have ns : isSg (pk tp (rds tp 20 i).2) = false := by
        unfold rdE at cw; rw [if_neg ne] at cw
        cases e : isSg (pk tp (rds tp 20 i).2)
        · rfl
        · rw [e, if_pos rfl] at cw; omega
      obtain ⟨m4, e4, t4, f4⟩ := m_ahead hn (M := M) (am := am) t3
      rw [pk_skp] at e4
      rw [skp_skp] at t4
      have pb := pk_bd h.1.2.1 (rds tp 20 i).2
      have g7 : m4.1 0 7 = c + 1 := by rw [f4.2.2 7 (by decide) (by decide)]; exact q7
      have v2 : m4.1 2 = m3.1 2 := f4.2.1 2 (by decide) (by decide)
      have v3 : m4.1 3 = m3.1 3 := f4.2.1 3 (by decide) (by decide)
      have g3 := t4.2.2.1
      rw [cw] at t4
      by_cases c59 : pk tp (rds tp 20 i).2 = 59 ∧ r ≠ 0
      · have lt := tpk_lt (tp := tp) (i := (rds tp 20 i).2) (by omega)
        have t5 := rd_f3 t4 (k := skp tp (rds tp 20 i).2 + 1) (by omega)
        obtain ⟨m6, e6, r6, y2, y3, f6⟩ := ih r (c + 1) (skp tp (rds tp 20 i).2 + 1) (setA m4 0 (upI (m4.1 0) 3 ((skp tp (rds tp 20 i).2 + 1 : Nat) : Int))) t5 (by rw [setA_e, upI_n _ _ (by decide), g7]; omega) (by omega) (by omega) (by omega)
        have es : stF tp (r + 1) i = ((stF tp r (skp tp (rds tp 20 i).2 + 1)).1, (rds tp 20 i).1 :: (stF tp r (skp tp (rds tp 20 i).2 + 1)).2) := by
          simp only [stF]
          rw [if_neg ne, if_neg (by omega), if_neg (by omega)]
        rw [es]
        have z2 : (setA m4 0 (upI (m4.1 0) 3 ((skp tp (rds tp 20 i).2 + 1 : Nat) : Int))).1 2 = m3.1 2 := by rw [setA_n _ _ (by decide), v2]
        have z3 : (setA m4 0 (upI (m4.1 0) 3 ((skp tp (rds tp 20 i).2 + 1 : Nat) : Int))).1 3 = m3.1 3 := by rw [setA_n _ _ (by decide), v3]
        refine ⟨m6, ?_, fun z => ⟨?_, fun q hq => ?_⟩, fun q hq => ?_, fun q hq => ?_, ((fs.trans f4.s0).trans (srj_f3 m4 _).s0).trans f6⟩
        · rw [unf, cw, if_pos rfl, e4, b2_s]
          simp (disch := (first | assumption | (refine sm_of ?_ ?_ <;> omega) | omega)) only [iI_add, iI_sub, iI_mul, iI_neg, iI_lt, iI_le, iI_eq, b1_s, b2_s, ↓reduceIte, mk_v, mk_gl23, mk_pl23, mk_gr1, mk_gr5, mk_gr6, mk_gr8, mk_gr9, mk_gr11, mk_gr13, mk_gr14, mk_gr15, mk_gr17, mk_gr18, mk_gr21, mk_gr24, mk_gr28, mk_gr30, mk_gr31, mk_gi0, mk_gi2, mk_gi3, mk_gi4, mk_gi7, mk_gi10, mk_gi12, mk_gi16, mk_gi19, mk_gi20, mk_gi22, mk_gi25, mk_gi26, mk_gi27, mk_gi29, mk_gi32, mk_pi0, mk_pi2, mk_pi3, mk_pi4, mk_pi7, mk_pi10, mk_pi12, mk_pi16, mk_pi19, mk_pi20, mk_pi22, mk_pi25, mk_pi26, mk_pi27, mk_pi29, mk_pi32, mk_ia1, mk_ia2, mk_ia3, mk_ia4, mk_ia5, mk_ia6, mk_ia7, mk_ia8, mk_ia9, mk_ia10, mk_ia11, mk_ia12, mk_ia13, mk_ia14, mk_ia15, mk_ia16, mk_is1, mk_is2, mk_is3, mk_is4, mk_is5, mk_is6, mk_is7, mk_is8, mk_is9, mk_is10, mk_is11, mk_is12, mk_is13, mk_is14, mk_is15, mk_is16, L0, L1, L2, L3, L4, L5, L6, L7, L8, L9, L10, L12, L20, L22, L24, L26, L27, L28, L32, L40, L60, L73, L95, L97, L222, L240, L441, L442, L622, Lm1, Lmh, L11, L13, L14, L15, L16, L17, L18, L19, L21, L23, L25, L30, L31, L33, L36, L39, L41, L44, L48, L53, L54, L55, L57, L58, L59, L91, L93, L98, L99, L100, L105, L106, L112, L114, L115, L119, L122, L160, L180, L200, L255, L1440, L24880, L63, Lm2, c59.1, g7, show ¬ (8 : Int) ≤ (c : Int) + 1 by omega, pX10_readStore_b82, Int.reduceEq, g3]
          rw [show ((skp tp (rds tp 20 i).2 : Int) + 1) = ((skp tp (rds tp 20 i).2 + 1 : Nat) : Int) by omega, e6]
        · rw [(r6 z).1]; simp; omega
        · cases q with
          | zero =>
            rw [show ((c : Int) + ((0 : Nat) : Int)) = c by omega]
            refine ⟨?_, ?_⟩
            · rw [y2 _ (by omega), z2, q2, upI_e]; simp
            · refine rowA_cg (f := m1.1 3) (o := 20 * c) a1 (fun j hj => ?_)
              have : (rds tp 20 i).1.length ≤ 20 := g.2.2
              have hj : j < (rds tp 20 i).1.length := hj
              rw [y3 _ (by omega), z3, q3]
          | succ q =>
            have := (r6 z).2 q (by simp at hq; omega)
            rw [show ((c : Int) + ((q + 1 : Nat) : Int)) = ((c + 1 : Nat) : Int) + q by omega]
            exact this
        · rw [y2 q (by omega), z2]; exact x2 q hq
        · rw [y3 q (by omega), z3]; exact x3 q hq
      · obtain ⟨m5, e5, f5⟩ := m_b82 hn (M := M) (am := am) (k := k) t4 (by omega)
        rw [if_pos rfl, pk_skp, skp_skp] at e5
        have es : stF tp (r + 1) i = (if pk tp (rds tp 20 i).2 = -1 then -1 else (skp tp (rds tp 20 i).2 : Int), [(rds tp 20 i).1]) := by
          simp only [stF]
          rw [if_neg ne]
          by_cases d : pk tp (rds tp 20 i).2 = -1
          · rw [if_pos d, if_pos d]
          · rw [if_neg d, if_neg d, if_pos (by omega)]
        rw [es]
        have z2 : m5.1 2 = m3.1 2 := by rw [f5.2.1 2 (by decide) (by decide), v2]
        have z3 : m5.1 3 = m3.1 3 := by rw [f5.2.1 3 (by decide) (by decide), v3]
        refine ⟨m5, ?_, fun z => ⟨?_, fun q hq => ?_⟩, fun q hq => ?_, fun q hq => ?_, (fs.trans f4.s0).trans f5.s0⟩
        · rw [unf, cw, if_pos rfl, e4, b2_s]
          by_cases d : pk tp (rds tp 20 i).2 = 59
          · simp (disch := (first | assumption | (refine sm_of ?_ ?_ <;> omega) | omega)) only [iI_add, iI_sub, iI_mul, iI_neg, iI_lt, iI_le, iI_eq, b1_s, b2_s, ↓reduceIte, mk_v, mk_gl23, mk_pl23, mk_gr1, mk_gr5, mk_gr6, mk_gr8, mk_gr9, mk_gr11, mk_gr13, mk_gr14, mk_gr15, mk_gr17, mk_gr18, mk_gr21, mk_gr24, mk_gr28, mk_gr30, mk_gr31, mk_gi0, mk_gi2, mk_gi3, mk_gi4, mk_gi7, mk_gi10, mk_gi12, mk_gi16, mk_gi19, mk_gi20, mk_gi22, mk_gi25, mk_gi26, mk_gi27, mk_gi29, mk_gi32, mk_pi0, mk_pi2, mk_pi3, mk_pi4, mk_pi7, mk_pi10, mk_pi12, mk_pi16, mk_pi19, mk_pi20, mk_pi22, mk_pi25, mk_pi26, mk_pi27, mk_pi29, mk_pi32, mk_ia1, mk_ia2, mk_ia3, mk_ia4, mk_ia5, mk_ia6, mk_ia7, mk_ia8, mk_ia9, mk_ia10, mk_ia11, mk_ia12, mk_ia13, mk_ia14, mk_ia15, mk_ia16, mk_is1, mk_is2, mk_is3, mk_is4, mk_is5, mk_is6, mk_is7, mk_is8, mk_is9, mk_is10, mk_is11, mk_is12, mk_is13, mk_is14, mk_is15, mk_is16, L0, L1, L2, L3, L4, L5, L6, L7, L8, L9, L10, L12, L20, L22, L24, L26, L27, L28, L32, L40, L60, L73, L95, L97, L222, L240, L441, L442, L622, Lm1, Lmh, L11, L13, L14, L15, L16, L17, L18, L19, L21, L23, L25, L30, L31, L33, L36, L39, L41, L44, L48, L53, L54, L55, L57, L58, L59, L91, L93, L98, L99, L100, L105, L106, L112, L114, L115, L119, L122, L160, L180, L200, L255, L1440, L24880, L63, Lm2, d, g7, show (8 : Int) ≤ (c : Int) + 1 by omega]
            rw [← d]; exact e5
          · simp (disch := (first | assumption | (refine sm_of ?_ ?_ <;> omega) | omega)) only [iI_add, iI_sub, iI_mul, iI_neg, iI_lt, iI_le, iI_eq, b1_s, b2_s, ↓reduceIte, mk_v, mk_gl23, mk_pl23, mk_gr1, mk_gr5, mk_gr6, mk_gr8, mk_gr9, mk_gr11, mk_gr13, mk_gr14, mk_gr15, mk_gr17, mk_gr18, mk_gr21, mk_gr24, mk_gr28, mk_gr30, mk_gr31, mk_gi0, mk_gi2, mk_gi3, mk_gi4, mk_gi7, mk_gi10, mk_gi12, mk_gi16, mk_gi19, mk_gi20, mk_gi22, mk_gi25, mk_gi26, mk_gi27, mk_gi29, mk_gi32, mk_pi0, mk_pi2, mk_pi3, mk_pi4, mk_pi7, mk_pi10, mk_pi12, mk_pi16, mk_pi19, mk_pi20, mk_pi22, mk_pi25, mk_pi26, mk_pi27, mk_pi29, mk_pi32, mk_ia1, mk_ia2, mk_ia3, mk_ia4, mk_ia5, mk_ia6, mk_ia7, mk_ia8, mk_ia9, mk_ia10, mk_ia11, mk_ia12, mk_ia13, mk_ia14, mk_ia15, mk_ia16, mk_is1, mk_is2, mk_is3, mk_is4, mk_is5, mk_is6, mk_is7, mk_is8, mk_is9, mk_is10, mk_is11, mk_is12, mk_is13, mk_is14, mk_is15, mk_is16, L0, L1, L2, L3, L4, L5, L6, L7, L8, L9, L10, L12, L20, L22, L24, L26, L27, L28, L32, L40, L60, L73, L95, L97, L222, L240, L441, L442, L622, Lm1, Lmh, L11, L13, L14, L15, L16, L17, L18, L19, L21, L23, L25, L30, L31, L33, L36, L39, L41, L44, L48, L53, L54, L55, L57, L58, L59, L91, L93, L98, L99, L100, L105, L106, L112, L114, L115, L119, L122, L160, L180, L200, L255, L1440, L24880, L63, Lm2, d]
            exact e5
        · rw [f5.2.2 7 (by decide) (by decide), g7]; simp
        · obtain rfl : q = 0 := by simp at hq; omega
          rw [show ((c : Int) + ((0 : Nat) : Int)) = c by omega, z2, z3]
          refine ⟨?_, ?_⟩
          · rw [q2, upI_e]; simp
          · rw [q3]; exact a1
        · rw [z2]; exact x2 q hq
        · rw [z3]; exact x3 q hq
    · obtain ⟨m5, e5, f5⟩ := m_b82 hn (M := M) (am := am) (k := k) t3 wb
      rw [if_neg cw] at e5
      have es : (stF tp (r + 1) i).1 = rdE tp 20 i := by
        simp only [stF]
        unfold rdE at cw ⊢
        by_cases d : (rds tp 20 i).1 = []
        · rw [if_pos d, if_pos d, rds_nil d]
        · rw [if_neg d, if_neg d] at *
          cases e : isSg (pk tp (rds tp 20 i).2)
          · rw [e, if_neg (by decide)] at cw; exact absurd rfl cw
          · have := isSg_n e
            rw [if_neg this.1, if_pos (Or.inr this.2.1), if_pos rfl]
      refine ⟨m5, ?_, fun z => ?_, fun q hq => ?_, fun q hq => ?_, fs.trans f5.s0⟩
      · rw [unf, es]
        simp (disch := (first | assumption | (refine sm_of ?_ ?_ <;> omega) | omega)) only [iI_add, iI_sub, iI_mul, iI_neg, iI_lt, iI_le, iI_eq, b1_s, b2_s, ↓reduceIte, mk_v, mk_gl23, mk_pl23, mk_gr1, mk_gr5, mk_gr6, mk_gr8, mk_gr9, mk_gr11, mk_gr13, mk_gr14, mk_gr15, mk_gr17, mk_gr18, mk_gr21, mk_gr24, mk_gr28, mk_gr30, mk_gr31, mk_gi0, mk_gi2, mk_gi3, mk_gi4, mk_gi7, mk_gi10, mk_gi12, mk_gi16, mk_gi19, mk_gi20, mk_gi22, mk_gi25, mk_gi26, mk_gi27, mk_gi29, mk_gi32, mk_pi0, mk_pi2, mk_pi3, mk_pi4, mk_pi7, mk_pi10, mk_pi12, mk_pi16, mk_pi19, mk_pi20, mk_pi22, mk_pi25, mk_pi26, mk_pi27, mk_pi29, mk_pi32, mk_ia1, mk_ia2, mk_ia3, mk_ia4, mk_ia5, mk_ia6, mk_ia7, mk_ia8, mk_ia9, mk_ia10, mk_ia11, mk_ia12, mk_ia13, mk_ia14, mk_ia15, mk_ia16, mk_is1, mk_is2, mk_is3, mk_is4, mk_is5, mk_is6, mk_is7, mk_is8, mk_is9, mk_is10, mk_is11, mk_is12, mk_is13, mk_is14, mk_is15, mk_is16, L0, L1, L2, L3, L4, L5, L6, L7, L8, L9, L10, L12, L20, L22, L24, L26, L27, L28, L32, L40, L60, L73, L95, L97, L222, L240, L441, L442, L622, Lm1, Lmh, L11, L13, L14, L15, L16, L17, L18, L19, L21, L23, L25, L30, L31, L33, L36, L39, L41, L44, L48, L53, L54, L55, L57, L58, L59, L91, L93, L98, L99, L100, L105, L106, L112, L114, L115, L119, L122, L160, L180, L200, L255, L1440, L24880, L63, Lm2, cw]
        exact e5
      · rw [es] at z; exact absurd z cw
      · rw [f5.2.1 2 (by decide) (by decide)]; exact x2 q hq
      · rw [f5.2.1 3 (by decide) (by decide)]; exact x3 q hq
theorem m_rdStore {n : Nat} (hn : 300 ≤ n) {M : mm_M} {am : Nat} {m : mS} {tp : List Int} (h : Tm m tp) : ∃ m', pX10_readStore n (mk M am m) am = some (iI (stF tp 8 0).1, mk M am m') ∧ ((stF tp 8 0).1 = -1 → m'.1 0 7 = (stF tp 8 0).2.length ∧ ∀ q : Nat, q < (stF tp 8 0).2.length → m'.1 2 q = ((stF tp 8 0).2.getD q []).length ∧ rowA (m'.1 3) (20 * q) ((stF tp 8 0).2.getD q [])) ∧ srS m m' := by
  obtain ⟨m1, e1, t1, f1⟩ := m_begin (n := n) (M := M) (am := am) h
  have t2 : Rd (setA m1 0 (upI (m1.1 0) 7 0)) tp 0 (-1) := ⟨⟨t1.1.1, t1.1.2.1, by rw [setA_e, upI_n _ _ (by decide)]; exact t1.1.2.2.1, by rw [setA_n _ _ (by decide)]; exact t1.1.2.2.2⟩, t1.2.1, by rw [setA_e, upI_n _ _ (by decide)]; exact t1.2.2.1, by rw [setA_e, upI_n _ _ (by decide)]; exact t1.2.2.2⟩
  obtain ⟨m3, e3, r3, -, -, f3⟩ := m_rst hn (M := M) (am := am) n 8 0 0 _ t2 (by rw [setA_e, upI_e]; rfl) (by omega) (by omega) (by omega)
  refine ⟨m3, ?_, fun z => ⟨?_, fun q hq => ?_⟩, ?_⟩
  · simp (disch := (first | assumption | (refine sm_of ?_ ?_ <;> omega) | omega)) only [iI_add, iI_sub, iI_mul, iI_neg, iI_lt, iI_le, iI_eq, b1_s, b2_s, ↓reduceIte, mk_v, mk_gl23, mk_pl23, mk_gr1, mk_gr5, mk_gr6, mk_gr8, mk_gr9, mk_gr11, mk_gr13, mk_gr14, mk_gr15, mk_gr17, mk_gr18, mk_gr21, mk_gr24, mk_gr28, mk_gr30, mk_gr31, mk_gi0, mk_gi2, mk_gi3, mk_gi4, mk_gi7, mk_gi10, mk_gi12, mk_gi16, mk_gi19, mk_gi20, mk_gi22, mk_gi25, mk_gi26, mk_gi27, mk_gi29, mk_gi32, mk_pi0, mk_pi2, mk_pi3, mk_pi4, mk_pi7, mk_pi10, mk_pi12, mk_pi16, mk_pi19, mk_pi20, mk_pi22, mk_pi25, mk_pi26, mk_pi27, mk_pi29, mk_pi32, mk_ia1, mk_ia2, mk_ia3, mk_ia4, mk_ia5, mk_ia6, mk_ia7, mk_ia8, mk_ia9, mk_ia10, mk_ia11, mk_ia12, mk_ia13, mk_ia14, mk_ia15, mk_ia16, mk_is1, mk_is2, mk_is3, mk_is4, mk_is5, mk_is6, mk_is7, mk_is8, mk_is9, mk_is10, mk_is11, mk_is12, mk_is13, mk_is14, mk_is15, mk_is16, L0, L1, L2, L3, L4, L5, L6, L7, L8, L9, L10, L12, L20, L22, L24, L26, L27, L28, L32, L40, L60, L73, L95, L97, L222, L240, L441, L442, L622, Lm1, Lmh, L11, L13, L14, L15, L16, L17, L18, L19, L21, L23, L25, L30, L31, L33, L36, L39, L41, L44, L48, L53, L54, L55, L57, L58, L59, L91, L93, L98, L99, L100, L105, L106, L112, L114, L115, L119, L122, L160, L180, L200, L255, L1440, L24880, L63, Lm2, pX10_readStore, e1]
    exact e3
  · rw [(r3 z).1]; simp
  · have := (r3 z).2 q hq
    simp only [Int.natCast_zero, Int.zero_add, Int.cast_ofNat_Int] at this
    exact this
  · refine ⟨f3.1.trans f1.1, fun k a b c => ?_, fun x a b c => ?_⟩
    · rw [f3.2.1 k a b c, setA_n _ _ a, f1.2.1 k a a]
    · rw [f3.2.2 x a b c, setA_e, upI_n _ _ c, f1.2.2 x a b]
