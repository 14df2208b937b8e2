/-! the reference: scripts read, tried, done -/
def scF (tp : List Int) : Nat → Nat → Int × List kS
  | 0, i => ((i : Int), [])
  | r + 1, i => if (stepF tp i).1 = false then (((stepF tp i).2.1 : Int), []) else if pk tp (stepF tp i).2.1 = -1 then (-1, [(stepF tp i).2.2]) else if r = 0 ∨ pk tp (stepF tp i).2.1 ≠ 59 then ((skp tp (stepF tp i).2.1 : Int), [(stepF tp i).2.2]) else ((scF tp r (skp tp (stepF tp i).2.1 + 1)).1, (stepF tp i).2.2 :: (scF tp r (skp tp (stepF tp i).2.1 + 1)).2)
def kS0 : kS := (0, 0, 0, [])
theorem rds_len (tp : List Int) (r i : Nat) : (rds tp r i).1.length ≤ r := by
  induction r generalizing i with
  | zero => simp [rds_0]
  | succ r ih =>
    cases e : isSg (pk tp i)
    · rw [rds_f e]; simp
    · rw [rds_t e]; have := ih (skp tp i + 1); simp; omega
theorem rds_ok (tp : List Int) (r i : Nat) : okS (rds tp r i).1 := by
  induction r generalizing i with
  | zero => intro x hx; simp [rds_0] at hx
  | succ r ih =>
    cases e : isSg (pk tp i)
    · rw [rds_f e]; intro x hx; simp at hx
    · rw [rds_t e]
      intro x hx
      rcases List.mem_cons.mp hx with hx | hx
      · rw [hx]; exact e
      · exact ih _ x hx
/-- a step as it may be -/
def okZ (z : kS) : Prop := 0 ≤ z.1 ∧ z.1 ≤ 8 ∧ -1000000 ≤ z.2.1 ∧ z.2.1 ≤ 9 ∧ -1000000 ≤ z.2.2.1 ∧ z.2.2.1 ≤ 9 ∧ z.2.2.2.length ≤ 20 ∧ okS z.2.2.2 ∧ (z.1 = 4 → z.2.2.2.length ≤ 6)
theorem okS_nil : okS [] := fun x hx => by simp at hx
theorem tailF_ok {tp : List Int} {s x y : Int} {p : Nat} (hs : 0 ≤ s ∧ s ≤ 8) (hx : -1000000 ≤ x ∧ x ≤ 9) (hy : -1000000 ≤ y ∧ y ≤ 9) : okZ (tailF tp s x y p).2.2 := by
  have e : okZ (s, x, y, []) := ⟨hs.1, hs.2, hx.1, hx.2, hy.1, hy.2, by simp, okS_nil, fun _ => by simp⟩
  unfold tailF
  by_cases c : s = 0 ∨ s = 1 ∨ s = 4
  · rw [if_pos c]
    by_cases d : pk tp p ≠ 58
    · rw [if_pos d]; exact e
    · rw [if_neg d]
      by_cases g : (rds tp (if s = 4 then 6 else 20) (skp tp p + 1)).1 = []
      · rw [if_pos g]; exact e
      · rw [if_neg g]
        refine ⟨hs.1, hs.2, hx.1, hx.2, hy.1, hy.2, Nat.le_trans (rds_len _ _ _) (by split <;> omega), rds_ok _ _ _, fun z => ?_⟩
        have z : s = 4 := z
        show (rds tp (if s = 4 then 6 else 20) (skp tp p + 1)).1.length ≤ 6
        rw [if_pos z]; exact rds_len _ _ _
  · rw [if_neg c]; exact e
theorem isDg_spec {b : Int} (h : isDg b = true) : 48 ≤ b ∧ b ≤ 57 := by unfold isDg at h; exact of_decide_eq_true h
theorem stepF_ok {tp : List Int} {i : Nat} : okZ (stepF tp i).2.2 := by
  have sb := srt_bd (pk tp i)
  have e0 : okZ (0, 0, 0, []) := ⟨by decide, by decide, by decide, by decide, by decide, by decide, by simp, okS_nil, fun _ => by simp⟩
  unfold stepF
  by_cases c : srt (pk tp i) = -1
  · rw [if_pos c]; exact e0
  · rw [if_neg c]
    cases d : isDg (pk tp (skp tp i + 1))
    · rw [if_pos rfl]; exact e0
    · have := isDg_spec d
      rw [if_neg (by decide)]
      unfold secF
      have e : okZ (srt (pk tp i), pk tp (skp tp i + 1) - 48, 0, []) := ⟨by show 0 ≤ srt _; omega, by show srt _ ≤ 8; omega, by show -1000000 ≤ pk _ _ - 48; omega, by show pk _ _ - 48 ≤ 9; omega, by show (-1000000 : Int) ≤ 0; omega, by show (0 : Int) ≤ 9; omega, by simp, okS_nil, fun _ => by simp⟩
      by_cases g : srt (pk tp i) = 3 ∨ srt (pk tp i) = 4 ∨ srt (pk tp i) = 7
      · rw [if_pos g]
        by_cases h : pk tp (skp tp (skp tp i + 1) + 1) ≠ 44
        · rw [if_pos h]; exact e
        · rw [if_neg h]
          cases k : isDg (pk tp (skp tp (skp tp (skp tp i + 1) + 1) + 1))
          · rw [if_pos rfl]; exact e
          · have := isDg_spec k
            rw [if_neg (by decide)]
            exact tailF_ok (by omega) (by omega) (by omega)
      · rw [if_neg g]; exact tailF_ok (by omega) (by omega) (by omega)
theorem scF_ok (tp : List Int) (r i : Nat) : (∀ z ∈ (scF tp r i).2, okZ z) ∧ (scF tp r i).2.length ≤ r := by
  induction r generalizing i with
  | zero => exact ⟨fun z hz => by simp [scF] at hz, by simp [scF]⟩
  | succ r ih =>
    simp only [scF]
    have s := stepF_ok (tp := tp) (i := i)
    repeat' split
    · exact ⟨fun z hz => by simp at hz, by simp⟩
    · exact ⟨fun z hz => by simp at hz; rw [hz]; exact s, by simp⟩
    · exact ⟨fun z hz => by simp at hz; rw [hz]; exact s, by simp⟩
    · obtain ⟨i1, i2⟩ := ih (skp tp (stepF tp i).2.1 + 1)
      refine ⟨fun z hz => ?_, by simp; omega⟩
      rcases List.mem_cons.mp hz with hz | hz
      · rw [hz]; exact s
      · exact i1 z hz
def srC (m m' : mS) : Prop := m'.2 = m.2 ∧ (∀ k, k ≠ 0 → k ≠ 4 → k ≠ 5 → m'.1 k = m.1 k) ∧ ∀ x, x ≠ 3 → x ≠ 4 → m'.1 0 x = m.1 0 x
theorem srC.trans {m m1 m2 : mS} (h : srC m m1) (g : srC m1 m2) : srC m m2 := ⟨g.1.trans h.1, fun k a b c => (g.2.1 k a b c).trans (h.2.1 k a b c), fun x a b => (g.2.2 x a b).trans (h.2.2 x a b)⟩
theorem srj.c0 {m m' : mS} (h : srj 0 m m') : srC m m' := ⟨h.1, fun k a _ _ => h.2.1 k a a, h.2.2⟩
theorem srj.c4 {m m' : mS} (h : srj 4 m m') : srC m m' := ⟨h.1, fun k a b _ => h.2.1 k a b, h.2.2⟩
theorem m_b78 {n : Nat} (hn : 300 ≤ n) {M : mm_M} {am : Nat} {m : mS} {tp : List Int} {p k : Nat} {w : Int} (h : Rd m tp p w) (hw : -1 ≤ w ∧ w ≤ 1000) (x1 : Int32) : ∃ m', pX10_readScript_b78 n (pX10_readScript_l13 n (k + 1)) (mk M am m) am x1 (iI 0) = some (iI (if w = -1 then (if pk tp p = -1 then -1 else (skp tp p : Int)) else w), mk M am m') ∧ srj 0 m m' := by
  have h6 := h.2.2.1
  have hl := h.2.1
  have t := rd_f3 h (k := p) hl
  obtain ⟨m2, i2, e2, t2, f2⟩ := m_ends hn (M := M) (am := am) t hw
  refine ⟨m2, ?_, (srj_f3 m _).trans f2⟩
  simp (disch := (first | assumption | (refine sm_of ?_ ?_ <;> omega) | omega)) only [iI_add, iI_sub, iI_mul, iI_neg, iI_lt, iI_le, iI_eq, b1_s, b2_s, ↓reduceIte, mk_v, mk_gl23, mk_pl23, mk_gr1, mk_gr5, mk_gr6, mk_gr8, mk_gr9, mk_gr11, mk_gr13, mk_gr14, mk_gr15, mk_gr17, mk_gr18, mk_gr21, mk_gr24, mk_gr28, mk_gr30, mk_gr31, mk_gi0, mk_gi2, mk_gi3, mk_gi4, mk_gi7, mk_gi10, mk_gi12, mk_gi16, mk_gi19, mk_gi20, mk_gi22, mk_gi25, mk_gi26, mk_gi27, mk_gi29, mk_gi32, mk_pi0, mk_pi2, mk_pi3, mk_pi4, mk_pi7, mk_pi10, mk_pi12, mk_pi16, mk_pi19, mk_pi20, mk_pi22, mk_pi25, mk_pi26, mk_pi27, mk_pi29, mk_pi32, mk_ia1, mk_ia2, mk_ia3, mk_ia4, mk_ia5, mk_ia6, mk_ia7, mk_ia8, mk_ia9, mk_ia10, mk_ia11, mk_ia12, mk_ia13, mk_ia14, mk_ia15, mk_ia16, mk_is1, mk_is2, mk_is3, mk_is4, mk_is5, mk_is6, mk_is7, mk_is8, mk_is9, mk_is10, mk_is11, mk_is12, mk_is13, mk_is14, mk_is15, mk_is16, L0, L1, L2, L3, L4, L5, L6, L7, L8, L9, L10, L12, L20, L22, L24, L26, L27, L28, L32, L40, L60, L73, L95, L97, L222, L240, L441, L442, L622, Lm1, Lmh, L11, L13, L14, L15, L16, L17, L18, L19, L21, L23, L25, L30, L31, L33, L36, L39, L41, L44, L48, L53, L54, L55, L57, L58, L59, L91, L93, L98, L99, L100, L105, L106, L112, L114, L115, L119, L122, L160, L180, L200, L255, L1440, L24880, L63, Lm2, pX10_readScript_b78, h6, Int.add_zero]
  show pX10_readScript_l13b n (pX10_readScript_l13 n k) (mk M am (setA m 0 (upI (m.1 0) 3 p))) am _ _ = _
  simp (disch := (first | assumption | (refine sm_of ?_ ?_ <;> omega) | omega)) only [iI_add, iI_sub, iI_mul, iI_neg, iI_lt, iI_le, iI_eq, b1_s, b2_s, ↓reduceIte, mk_v, mk_gl23, mk_pl23, mk_gr1, mk_gr5, mk_gr6, mk_gr8, mk_gr9, mk_gr11, mk_gr13, mk_gr14, mk_gr15, mk_gr17, mk_gr18, mk_gr21, mk_gr24, mk_gr28, mk_gr30, mk_gr31, mk_gi0, mk_gi2, mk_gi3, mk_gi4, mk_gi7, mk_gi10, mk_gi12, mk_gi16, mk_gi19, mk_gi20, mk_gi22, mk_gi25, mk_gi26, mk_gi27, mk_gi29, mk_gi32, mk_pi0, mk_pi2, mk_pi3, mk_pi4, mk_pi7, mk_pi10, mk_pi12, mk_pi16, mk_pi19, mk_pi20, mk_pi22, mk_pi25, mk_pi26, mk_pi27, mk_pi29, mk_pi32, mk_ia1, mk_ia2, mk_ia3, mk_ia4, mk_ia5, mk_ia6, mk_ia7, mk_ia8, mk_ia9, mk_ia10, mk_ia11, mk_ia12, mk_ia13, mk_ia14, mk_ia15, mk_ia16, mk_is1, mk_is2, mk_is3, mk_is4, mk_is5, mk_is6, mk_is7, mk_is8, mk_is9, mk_is10, mk_is11, mk_is12, mk_is13, mk_is14, mk_is15, mk_is16, L0, L1, L2, L3, L4, L5, L6, L7, L8, L9, L10, L12, L20, L22, L24, L26, L27, L28, L32, L40, L60, L73, L95, L97, L222, L240, L441, L442, L622, Lm1, Lmh, L11, L13, L14, L15, L16, L17, L18, L19, L21, L23, L25, L30, L31, L33, L36, L39, L41, L44, L48, L53, L54, L55, L57, L58, L59, L91, L93, L98, L99, L100, L105, L106, L112, L114, L115, L119, L122, L160, L180, L200, L255, L1440, L24880, L63, Lm2, pX10_readScript_l13b, e2]
theorem pk_cg {tp : List Int} {i j : Nat} (h : skp tp i = skp tp j) : pk tp i = pk tp j := by unfold pk; rw [h]
theorem m_rsc {n : Nat} (hn : 300 ≤ n) {M : mm_M} {am : Nat} {tp : List Int} {s : Nat} (hs : s ≤ 4) : ∀ (k r c i : Nat) (m : mS), Rd m tp i (-1) → m.1 5 s = c → c + r = 12 → 1 ≤ r → r + 1 < k → ∃ m', pX10_readScript_l13 n k (mk M am m) am (iI s) (iI 1) = some (iI (scF tp r i).1, mk M am m') ∧ ((scF tp r i).1 = -1 → m'.1 5 s = c + (scF tp r i).2.length ∧ ∀ q : Nat, q < (scF tp r i).2.length → NwS (m'.1 4) (24 * (12 * s + (c + q))) ((scF tp r i).2.getD q kS0)) ∧ (∀ q : Int, ¬ (24 * (12 * (s : Int) + c) ≤ q ∧ q < 24 * (12 * s + 12)) → m'.1 4 q = m.1 4 q) ∧ (∀ q : Int, q ≠ s → m'.1 5 q = m.1 5 q) ∧ srC m m' := by
  intro k
  induction k with
  | zero => intro r c i m _ _ _ _ h; omega
  | succ k ih =>
    intro r c i m h h5 hc hr hk
    obtain ⟨r, rfl⟩ : ∃ r', r = r' + 1 := ⟨r - 1, by omega⟩
    obtain ⟨k, rfl⟩ : ∃ k', k = k' + 1 := ⟨k - 1, by omega⟩
    obtain ⟨m1, e1, ⟨i1, w1, t1, wb1, wb2, o1, o2⟩, b1, f1⟩ := m_rstep hn (M := M) (am := am) h (to := 24 * (12 * s + c)) (by omega)
    have m15 : m1.1 5 = m.1 5 := f1.2.1 5 (by decide) (by decide)
    have t3 : Rd (setA m1 5 (upI (m.1 5) s (c + 1))) tp i1 w1 := ⟨⟨t1.1.1, t1.1.2.1, by rw [setA_n _ _ (by decide)]; exact t1.1.2.2.1, by rw [setA_n _ _ (by decide)]; exact t1.1.2.2.2⟩, t1.2.1, by rw [setA_n _ _ (by decide)]; exact t1.2.2.1, by rw [setA_n _ _ (by decide)]; exact t1.2.2.2⟩
    have s3 : srC m1 (setA m1 5 (upI (m.1 5) s (c + 1))) := ⟨rfl, fun k _ _ b => by rw [setA_n _ _ b], fun x a b => by rw [setA_n _ _ (by decide)]⟩
    have q5 : (setA m1 5 (upI (m.1 5) s (c + 1))).1 5 = upI (m.1 5) s (c + 1) := setA_e _ _ _
    have q4 : (setA m1 5 (upI (m.1 5) s (c + 1))).1 4 = m1.1 4 := setA_n _ _ (by decide)
    have unf : pX10_readScript_l13 n (k + 1 + 1) (mk M am m) am (iI s) (iI 1) = (if iI w1 = iI (-1) then (mm_b2 (pX10_ahead n (mk M am (setA m1 5 (upI (m.1 5) s (c + 1)))) am) fun v8 M => (if v8 = 59 then (mm_b1 (mm_gr 10 9 M am) fun v9 => (mm_b1 (mm_ia M v9 (iI s)) fun v10 => (if 12 ≤ v10 then (pX10_readScript_b78 n (pX10_readScript_l13 n (k + 1)) M am (iI s) 0) else (pX10_readScript_b78 n (pX10_readScript_l13 n (k + 1)) M am (iI s) 1)))) else (pX10_readScript_b78 n (pX10_readScript_l13 n (k + 1)) M am (iI s) 0))) else (pX10_readScript_b78 n (pX10_readScript_l13 n (k + 1)) (mk M am (setA m1 5 (upI (m.1 5) s (c + 1)))) am (iI s) 0)) := by
      show pX10_readScript_l13b n (pX10_readScript_l13 n (k + 1)) (mk M am m) am (iI s) (iI 1) = _
      have g4 := t3.2.2.2
      simp (disch := (first | assumption | (refine sm_of ?_ ?_ <;> omega) | omega)) only [pX10_readScript_l13b, L0, L1, L12, L24, z10, ↓reduceIte, mk_gr9, b1_s, mk_ia5, h5, iI_mul, iI_add, e1, m15, mk_is5, mk_gi4, g4, iI_neg]
    generalize hm3 : setA m1 5 (upI (m.1 5) s (c + 1)) = m3 at *
    clear hm3
    have x4 : ∀ q : Int, ¬ (24 * (12 * (s : Int) + c) ≤ q ∧ q < 24 * (12 * s + 12)) → m3.1 4 q = m.1 4 q := fun q hq => by rw [q4, b1 q (by omega)]
    have x5 : ∀ q : Int, q ≠ s → m3.1 5 q = m.1 5 q := fun q hq => by rw [q5, upI_n _ _ hq]
    have fs := f1.c4.trans s3
    by_cases cw : w1 = -1
    · have ok : (stepF tp i).1 = true := by
        cases e : (stepF tp i).1
        · have := o1 e; omega
        · rfl
      obtain ⟨n1, n2, -⟩ := o2 ok
      have pe := pk_cg n2
      obtain ⟨m4, e4, t4, f4⟩ := m_ahead hn (M := M) (am := am) t3
      rw [pe] at e4
      rw [n2] at t4
      have pb := pk_bd h.1.2.1 (stepF tp i).2.1
      have g5 : m4.1 5 = m3.1 5 := f4.2.1 5 (by decide) (by decide)
      have g4' : m4.1 4 = m3.1 4 := f4.2.1 4 (by decide) (by decide)
      have g3 := t4.2.2.1
      rw [cw] at t4
      have v5 : m4.1 5 s = c + 1 := by rw [g5, q5, upI_e]
      by_cases c59 : pk tp (stepF tp i).2.1 = 59 ∧ r ≠ 0
      · have lt := tpk_lt (tp := tp) (i := (stepF tp i).2.1) (by omega)
        have t5 := rd_f3 t4 (k := skp tp (stepF tp i).2.1 + 1) (by omega)
        obtain ⟨m6, e6, r6, y4, y5, f6⟩ := ih r (c + 1) (skp tp (stepF tp i).2.1 + 1) (setA m4 0 (upI (m4.1 0) 3 ((skp tp (stepF tp i).2.1 + 1 : Nat) : Int))) t5 (by rw [setA_n _ _ (by decide), v5]; omega) (by omega) (by omega) (by omega)
        have es : scF tp (r + 1) i = ((scF tp r (skp tp (stepF tp i).2.1 + 1)).1, (stepF tp i).2.2 :: (scF tp r (skp tp (stepF tp i).2.1 + 1)).2) := by
          simp only [scF]
          rw [if_neg (by rw [ok]; decide), if_neg (by omega), if_neg (by omega)]
        rw [es]
        have z4 : (setA m4 0 (upI (m4.1 0) 3 ((skp tp (stepF tp i).2.1 + 1 : Nat) : Int))).1 4 = m3.1 4 := by rw [setA_n _ _ (by decide), g4']
        have z5 : (setA m4 0 (upI (m4.1 0) 3 ((skp tp (stepF tp i).2.1 + 1 : Nat) : Int))).1 5 = m3.1 5 := by rw [setA_n _ _ (by decide), g5]
        refine ⟨m6, ?_, fun z => ⟨?_, fun q hq => ?_⟩, fun q hq => ?_, fun q hq => ?_, ((fs.trans f4.c0).trans (srj_f3 m4 _).c0).trans f6⟩
        · rw [unf, cw, if_pos rfl, e4, b2_s]
          simp (disch := (first | assumption | (refine sm_of ?_ ?_ <;> omega) | omega)) only [iI_add, iI_sub, iI_mul, iI_neg, iI_lt, iI_le, iI_eq, b1_s, b2_s, ↓reduceIte, mk_v, mk_gl23, mk_pl23, mk_gr1, mk_gr5, mk_gr6, mk_gr8, mk_gr9, mk_gr11, mk_gr13, mk_gr14, mk_gr15, mk_gr17, mk_gr18, mk_gr21, mk_gr24, mk_gr28, mk_gr30, mk_gr31, mk_gi0, mk_gi2, mk_gi3, mk_gi4, mk_gi7, mk_gi10, mk_gi12, mk_gi16, mk_gi19, mk_gi20, mk_gi22, mk_gi25, mk_gi26, mk_gi27, mk_gi29, mk_gi32, mk_pi0, mk_pi2, mk_pi3, mk_pi4, mk_pi7, mk_pi10, mk_pi12, mk_pi16, mk_pi19, mk_pi20, mk_pi22, mk_pi25, mk_pi26, mk_pi27, mk_pi29, mk_pi32, mk_ia1, mk_ia2, mk_ia3, mk_ia4, mk_ia5, mk_ia6, mk_ia7, mk_ia8, mk_ia9, mk_ia10, mk_ia11, mk_ia12, mk_ia13, mk_ia14, mk_ia15, mk_ia16, mk_is1, mk_is2, mk_is3, mk_is4, mk_is5, mk_is6, mk_is7, mk_is8, mk_is9, mk_is10, mk_is11, mk_is12, mk_is13, mk_is14, mk_is15, mk_is16, L0, L1, L2, L3, L4, L5, L6, L7, L8, L9, L10, L12, L20, L22, L24, L26, L27, L28, L32, L40, L60, L73, L95, L97, L222, L240, L441, L442, L622, Lm1, Lmh, L11, L13, L14, L15, L16, L17, L18, L19, L21, L23, L25, L30, L31, L33, L36, L39, L41, L44, L48, L53, L54, L55, L57, L58, L59, L91, L93, L98, L99, L100, L105, L106, L112, L114, L115, L119, L122, L160, L180, L200, L255, L1440, L24880, L63, Lm2, c59.1, v5, show ¬ (12 : Int) ≤ (c : Int) + 1 by omega, pX10_readScript_b78, Int.reduceEq, g3]
          rw [show ((skp tp (stepF tp i).2.1 : Int) + 1) = ((skp tp (stepF tp i).2.1 + 1 : Nat) : Int) by omega, e6]
        · rw [(r6 z).1]; simp; omega
        · cases q with
          | zero =>
            rw [show ((c : Int) + ((0 : Nat) : Int)) = c by omega]
            obtain ⟨a1, a2, a3, a4, a5⟩ := n1
            have key : ∀ q : Int, 24 * (12 * (s : Int) + c) ≤ q → q < 24 * (12 * s + c) + 24 → m6.1 4 q = m1.1 4 q := fun q h1 h2 => by rw [y4 q (by omega), z4, q4]
            show NwS (m6.1 4) (24 * (12 * s + c)) (stepF tp i).2.2
            have l20 : (stepF tp i).2.2.2.2.2.length ≤ 20 := stepF_ok.2.2.2.2.2.2.1
            exact ⟨by rw [key _ (by omega) (by omega)]; exact a1, by rw [key _ (by omega) (by omega)]; exact a2, by rw [key _ (by omega) (by omega)]; exact a3, by rw [key _ (by omega) (by omega)]; exact a4, rowA_cg a5 (fun j hj => key _ (by omega) (by omega))⟩
          | succ q =>
            have := (r6 z).2 q (by simp at hq; omega)
            rw [show ((c : Int) + ((q + 1 : Nat) : Int)) = ((c + 1 : Nat) : Int) + q by omega]
            exact this
        · rw [y4 q (by omega), z4]; exact x4 q hq
        · rw [y5 q hq, z5]; exact x5 q hq
      · obtain ⟨m5, e5, f5⟩ := m_b78 hn (M := M) (am := am) (k := k) t4 (by omega) (iI s)
        rw [if_pos rfl, pk_skp, skp_skp] at e5
        have es : scF tp (r + 1) i = (if pk tp (stepF tp i).2.1 = -1 then -1 else (skp tp (stepF tp i).2.1 : Int), [(stepF tp i).2.2]) := by
          simp only [scF]
          rw [if_neg (by rw [ok]; decide)]
          by_cases d : pk tp (stepF tp i).2.1 = -1
          · rw [if_pos d, if_pos d]
          · rw [if_neg d, if_neg d, if_pos (by omega)]
        rw [es]
        have z4 : m5.1 4 = m3.1 4 := by rw [f5.2.1 4 (by decide) (by decide), g4']
        have z5 : m5.1 5 = m3.1 5 := by rw [f5.2.1 5 (by decide) (by decide), g5]
        refine ⟨m5, ?_, fun z => ⟨?_, fun q hq => ?_⟩, fun q hq => ?_, fun q hq => ?_, (fs.trans f4.c0).trans f5.c0⟩
        · rw [unf, cw, if_pos rfl, e4, b2_s]
          by_cases d : pk tp (stepF tp i).2.1 = 59
          · simp (disch := (first | assumption | (refine sm_of ?_ ?_ <;> omega) | omega)) only [iI_add, iI_sub, iI_mul, iI_neg, iI_lt, iI_le, iI_eq, b1_s, b2_s, ↓reduceIte, mk_v, mk_gl23, mk_pl23, mk_gr1, mk_gr5, mk_gr6, mk_gr8, mk_gr9, mk_gr11, mk_gr13, mk_gr14, mk_gr15, mk_gr17, mk_gr18, mk_gr21, mk_gr24, mk_gr28, mk_gr30, mk_gr31, mk_gi0, mk_gi2, mk_gi3, mk_gi4, mk_gi7, mk_gi10, mk_gi12, mk_gi16, mk_gi19, mk_gi20, mk_gi22, mk_gi25, mk_gi26, mk_gi27, mk_gi29, mk_gi32, mk_pi0, mk_pi2, mk_pi3, mk_pi4, mk_pi7, mk_pi10, mk_pi12, mk_pi16, mk_pi19, mk_pi20, mk_pi22, mk_pi25, mk_pi26, mk_pi27, mk_pi29, mk_pi32, mk_ia1, mk_ia2, mk_ia3, mk_ia4, mk_ia5, mk_ia6, mk_ia7, mk_ia8, mk_ia9, mk_ia10, mk_ia11, mk_ia12, mk_ia13, mk_ia14, mk_ia15, mk_ia16, mk_is1, mk_is2, mk_is3, mk_is4, mk_is5, mk_is6, mk_is7, mk_is8, mk_is9, mk_is10, mk_is11, mk_is12, mk_is13, mk_is14, mk_is15, mk_is16, L0, L1, L2, L3, L4, L5, L6, L7, L8, L9, L10, L12, L20, L22, L24, L26, L27, L28, L32, L40, L60, L73, L95, L97, L222, L240, L441, L442, L622, Lm1, Lmh, L11, L13, L14, L15, L16, L17, L18, L19, L21, L23, L25, L30, L31, L33, L36, L39, L41, L44, L48, L53, L54, L55, L57, L58, L59, L91, L93, L98, L99, L100, L105, L106, L112, L114, L115, L119, L122, L160, L180, L200, L255, L1440, L24880, L63, Lm2, d, v5, show (12 : Int) ≤ (c : Int) + 1 by omega]
            rw [← d]; exact e5
          · simp (disch := (first | assumption | (refine sm_of ?_ ?_ <;> omega) | omega)) only [iI_add, iI_sub, iI_mul, iI_neg, iI_lt, iI_le, iI_eq, b1_s, b2_s, ↓reduceIte, mk_v, mk_gl23, mk_pl23, mk_gr1, mk_gr5, mk_gr6, mk_gr8, mk_gr9, mk_gr11, mk_gr13, mk_gr14, mk_gr15, mk_gr17, mk_gr18, mk_gr21, mk_gr24, mk_gr28, mk_gr30, mk_gr31, mk_gi0, mk_gi2, mk_gi3, mk_gi4, mk_gi7, mk_gi10, mk_gi12, mk_gi16, mk_gi19, mk_gi20, mk_gi22, mk_gi25, mk_gi26, mk_gi27, mk_gi29, mk_gi32, mk_pi0, mk_pi2, mk_pi3, mk_pi4, mk_pi7, mk_pi10, mk_pi12, mk_pi16, mk_pi19, mk_pi20, mk_pi22, mk_pi25, mk_pi26, mk_pi27, mk_pi29, mk_pi32, mk_ia1, mk_ia2, mk_ia3, mk_ia4, mk_ia5, mk_ia6, mk_ia7, mk_ia8, mk_ia9, mk_ia10, mk_ia11, mk_ia12, mk_ia13, mk_ia14, mk_ia15, mk_ia16, mk_is1, mk_is2, mk_is3, mk_is4, mk_is5, mk_is6, mk_is7, mk_is8, mk_is9, mk_is10, mk_is11, mk_is12, mk_is13, mk_is14, mk_is15, mk_is16, L0, L1, L2, L3, L4, L5, L6, L7, L8, L9, L10, L12, L20, L22, L24, L26, L27, L28, L32, L40, L60, L73, L95, L97, L222, L240, L441, L442, L622, Lm1, Lmh, L11, L13, L14, L15, L16, L17, L18, L19, L21, L23, L25, L30, L31, L33, L36, L39, L41, L44, L48, L53, L54, L55, L57, L58, L59, L91, L93, L98, L99, L100, L105, L106, L112, L114, L115, L119, L122, L160, L180, L200, L255, L1440, L24880, L63, Lm2, d]
            exact e5
        · rw [z5, q5, upI_e]; simp
        · obtain rfl : q = 0 := by simp at hq; omega
          rw [show ((c : Int) + ((0 : Nat) : Int)) = c by omega, z4, q4]
          exact n1
        · rw [z4]; exact x4 q hq
        · rw [z5]; exact x5 q hq
    · obtain ⟨m5, e5, f5⟩ := m_b78 hn (M := M) (am := am) (k := k) t3 (by omega) (iI s)
      rw [if_neg cw] at e5
      have es : (scF tp (r + 1) i).1 = w1 := by
        simp only [scF]
        cases e : (stepF tp i).1
        · rw [if_pos rfl]; exact (o1 e).symm
        · obtain ⟨-, -, n3⟩ := o2 e
          rcases n3 with n3 | ⟨n3, n4, n5⟩
          · exact absurd n3 cw
          · rw [if_neg (by decide), if_neg n4, if_pos (Or.inr n5), n3]
      refine ⟨m5, ?_, fun z => ?_, fun q hq => ?_, fun q hq => ?_, fs.trans f5.c0⟩
      · rw [unf, es]
        simp (disch := (first | assumption | (refine sm_of ?_ ?_ <;> omega) | omega)) only [iI_add, iI_sub, iI_mul, iI_neg, iI_lt, iI_le, iI_eq, b1_s, b2_s, ↓reduceIte, mk_v, mk_gl23, mk_pl23, mk_gr1, mk_gr5, mk_gr6, mk_gr8, mk_gr9, mk_gr11, mk_gr13, mk_gr14, mk_gr15, mk_gr17, mk_gr18, mk_gr21, mk_gr24, mk_gr28, mk_gr30, mk_gr31, mk_gi0, mk_gi2, mk_gi3, mk_gi4, mk_gi7, mk_gi10, mk_gi12, mk_gi16, mk_gi19, mk_gi20, mk_gi22, mk_gi25, mk_gi26, mk_gi27, mk_gi29, mk_gi32, mk_pi0, mk_pi2, mk_pi3, mk_pi4, mk_pi7, mk_pi10, mk_pi12, mk_pi16, mk_pi19, mk_pi20, mk_pi22, mk_pi25, mk_pi26, mk_pi27, mk_pi29, mk_pi32, mk_ia1, mk_ia2, mk_ia3, mk_ia4, mk_ia5, mk_ia6, mk_ia7, mk_ia8, mk_ia9, mk_ia10, mk_ia11, mk_ia12, mk_ia13, mk_ia14, mk_ia15, mk_ia16, mk_is1, mk_is2, mk_is3, mk_is4, mk_is5, mk_is6, mk_is7, mk_is8, mk_is9, mk_is10, mk_is11, mk_is12, mk_is13, mk_is14, mk_is15, mk_is16, L0, L1, L2, L3, L4, L5, L6, L7, L8, L9, L10, L12, L20, L22, L24, L26, L27, L28, L32, L40, L60, L73, L95, L97, L222, L240, L441, L442, L622, Lm1, Lmh, L11, L13, L14, L15, L16, L17, L18, L19, L21, L23, L25, L30, L31, L33, L36, L39, L41, L44, L48, L53, L54, L55, L57, L58, L59, L91, L93, L98, L99, L100, L105, L106, L112, L114, L115, L119, L122, L160, L180, L200, L255, L1440, L24880, L63, Lm2, cw]
        exact e5
      · rw [es] at z; exact absurd z cw
      · rw [f5.2.1 4 (by decide) (by decide)]; exact x4 q hq
      · rw [f5.2.1 5 (by decide) (by decide)]; exact x5 q hq
theorem m_rdScript {n : Nat} (hn : 300 ≤ n) {M : mm_M} {am : Nat} {m : mS} {tp : List Int} (h : Tm m tp) {s : Nat} (hs : s ≤ 4) : ∃ m', pX10_readScript n (mk M am m) am (iI s) = some (iI (scF tp 12 0).1, mk M am m') ∧ ((scF tp 12 0).1 = -1 → m'.1 5 s = (scF tp 12 0).2.length ∧ ∀ q : Nat, q < (scF tp 12 0).2.length → NwS (m'.1 4) (24 * (12 * s + q)) ((scF tp 12 0).2.getD q kS0)) ∧ (∀ q : Int, q < 24 * (12 * (s : Int)) → m'.1 4 q = m.1 4 q) ∧ (∀ q : Int, q ≠ s → m'.1 5 q = m.1 5 q) ∧ srC m m' := by
  obtain ⟨m1, e1, t1, f1⟩ := m_begin (n := n) (M := M) (am := am) h
  have t2 : Rd (setA m1 5 (upI (m1.1 5) s 0)) tp 0 (-1) := ⟨⟨t1.1.1, t1.1.2.1, by rw [setA_n _ _ (by decide)]; exact t1.1.2.2.1, by rw [setA_n _ _ (by decide)]; exact t1.1.2.2.2⟩, t1.2.1, by rw [setA_n _ _ (by decide)]; exact t1.2.2.1, by rw [setA_n _ _ (by decide)]; exact t1.2.2.2⟩
  obtain ⟨m3, e3, r3, y4, y5, f3⟩ := m_rsc hn (M := M) (am := am) hs n 12 0 0 _ t2 (by rw [setA_e, upI_e]; rfl) (by omega) (by omega) (by omega)
  refine ⟨m3, ?_, fun z => ⟨?_, fun q hq => ?_⟩, fun q hq => ?_, fun q hq => ?_, ?_⟩
  · simp (disch := (first | assumption | (refine sm_of ?_ ?_ <;> omega) | omega)) only [iI_add, iI_sub, iI_mul, iI_neg, iI_lt, iI_le, iI_eq, b1_s, b2_s, ↓reduceIte, mk_v, mk_gl23, mk_pl23, mk_gr1, mk_gr5, mk_gr6, mk_gr8, mk_gr9, mk_gr11, mk_gr13, mk_gr14, mk_gr15, mk_gr17, mk_gr18, mk_gr21, mk_gr24, mk_gr28, mk_gr30, mk_gr31, mk_gi0, mk_gi2, mk_gi3, mk_gi4, mk_gi7, mk_gi10, mk_gi12, mk_gi16, mk_gi19, mk_gi20, mk_gi22, mk_gi25, mk_gi26, mk_gi27, mk_gi29, mk_gi32, mk_pi0, mk_pi2, mk_pi3, mk_pi4, mk_pi7, mk_pi10, mk_pi12, mk_pi16, mk_pi19, mk_pi20, mk_pi22, mk_pi25, mk_pi26, mk_pi27, mk_pi29, mk_pi32, mk_ia1, mk_ia2, mk_ia3, mk_ia4, mk_ia5, mk_ia6, mk_ia7, mk_ia8, mk_ia9, mk_ia10, mk_ia11, mk_ia12, mk_ia13, mk_ia14, mk_ia15, mk_ia16, mk_is1, mk_is2, mk_is3, mk_is4, mk_is5, mk_is6, mk_is7, mk_is8, mk_is9, mk_is10, mk_is11, mk_is12, mk_is13, mk_is14, mk_is15, mk_is16, L0, L1, L2, L3, L4, L5, L6, L7, L8, L9, L10, L12, L20, L22, L24, L26, L27, L28, L32, L40, L60, L73, L95, L97, L222, L240, L441, L442, L622, Lm1, Lmh, L11, L13, L14, L15, L16, L17, L18, L19, L21, L23, L25, L30, L31, L33, L36, L39, L41, L44, L48, L53, L54, L55, L57, L58, L59, L91, L93, L98, L99, L100, L105, L106, L112, L114, L115, L119, L122, L160, L180, L200, L255, L1440, L24880, L63, Lm2, pX10_readScript, e1]
    exact e3
  · rw [(r3 z).1]; simp
  · have := (r3 z).2 q hq
    rw [show (((0 : Nat) : Int) + (q : Int)) = q by omega] at this
    exact this
  · rw [y4 q (by omega), setA_n _ _ (by decide), f1.2.1 4 (by decide) (by decide)]
  · rw [y5 q hq, setA_e, upI_n _ _ hq, f1.2.1 5 (by decide) (by decide)]
  · refine ⟨f3.1.trans f1.1, fun k a b c => ?_, fun x a b => ?_⟩
    · rw [f3.2.1 k a b c, setA_n _ _ c, f1.2.1 k a a]
    · rw [f3.2.2 x a b, setA_n _ _ (by decide), f1.2.2 x a b]
