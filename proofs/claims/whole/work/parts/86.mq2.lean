/-! the reference: unlike words, what is beside, spelling -/
def cntR (P : Nat → Bool) (k : Nat) : Nat := ((List.range k).filter P).length
theorem cntR_succ (P : Nat → Bool) (k : Nat) : cntR P (k + 1) = cntR P k + if P k = true then 1 else 0 := by
  unfold cntR
  rw [List.range_succ, List.filter_append, List.length_append]
  by_cases c : P k = true <;> simp [c]
theorem cntR_le (P : Nat → Bool) (k : Nat) : cntR P k ≤ k := by
  unfold cntR
  exact Nat.le_trans (List.length_filter_le _ _) (by simp)
def unlK (ls : List kL) (y : Int) : Int := if ls.length = 0 ∨ y < 1 ∨ 6 < y then -1 else (cntR (fun i => opK ls (aL ls) i y) (aL ls).length : Nat)
theorem m_rest {n : Nat} {M : mm_M} {am : Nat} {m : mS} {ls : List kL} (hN : NwL (m.1 7) ls) (ho : okL ls) {L : List kH} (hH : Hl m L) (hok : okH ls L) {i : Nat} (hi : i < L.length) : pX10_restOf n (mk M am m) am (iI i) = some (iI (sgK ls L i), mk M am m) := by
  obtain ⟨l200, h19, hA⟩ := hH
  obtain ⟨a1, a2⟩ := hA i hi
  obtain ⟨o1, o2⟩ := hok.get hi
  have q := m_long (n := n) (M := M) (am := am) hN ho o1
  rw [sgK_k hok hi]
  simp (disch := (first | assumption | (refine sm_of ?_ ?_ <;> omega) | omega)) only [iI_add, iI_sub, iI_mul, iI_neg, iI_lt, iI_le, iI_eq, b1_s, b2_s, ↓reduceIte, mk_v, mk_gl23, mk_pl23, mk_gr1, mk_gr5, mk_gr6, mk_gr8, mk_gr9, mk_gr11, mk_gr13, mk_gr14, mk_gr15, mk_gr17, mk_gr18, mk_gr21, mk_gr24, mk_gr28, mk_gr30, mk_gr31, mk_gi0, mk_gi2, mk_gi3, mk_gi4, mk_gi7, mk_gi10, mk_gi12, mk_gi16, mk_gi19, mk_gi20, mk_gi22, mk_gi25, mk_gi26, mk_gi27, mk_gi29, mk_gi32, mk_pi0, mk_pi2, mk_pi3, mk_pi4, mk_pi7, mk_pi10, mk_pi12, mk_pi16, mk_pi19, mk_pi20, mk_pi22, mk_pi25, mk_pi26, mk_pi27, mk_pi29, mk_pi32, mk_ia1, mk_ia2, mk_ia3, mk_ia4, mk_ia5, mk_ia6, mk_ia7, mk_ia8, mk_ia9, mk_ia10, mk_ia11, mk_ia12, mk_ia13, mk_ia14, mk_ia15, mk_ia16, mk_is1, mk_is2, mk_is3, mk_is4, mk_is5, mk_is6, mk_is7, mk_is8, mk_is9, mk_is10, mk_is11, mk_is12, mk_is13, mk_is14, mk_is15, mk_is16, L0, L1, L2, L3, L4, L5, L6, L7, L8, L9, L10, L12, L20, L22, L24, L26, L27, L28, L32, L40, L60, L73, L95, L97, L222, L240, L441, L442, L622, Lm1, Lmh, L11, L13, L14, L15, L16, L17, L18, L19, L21, L23, L25, L30, L31, L33, L36, L39, L41, L44, L48, L53, L54, L55, L57, L58, L59, L91, L93, L98, L99, L100, L105, L106, L112, L114, L115, L119, L122, L160, L180, L200, L255, L1440, L24880, L63, Lm2, pX10_restOf, a1, a2, q]
theorem sgK_bd {ls : List kL} (ho : okL ls) {L : List kH} (hok : okH ls L) {i : Nat} (hi : i < L.length) : 1 ≤ sgK ls L i ∧ sgK ls L i ≤ 20 := by
  obtain ⟨o1, o2⟩ := hok.get hi
  have := (ho.2 _ o1).2.1
  rw [sgK_k hok hi]; omega
theorem m_unlike {n : Nat} (hn : 300 ≤ n) {M : mm_M} {am : Nat} {m : mS} {T : kT} {wd : List Int} (h : Mq m T wd) {y : Int} (hy : sm y) : ∃ m', pX10_unlike n (mk M am m) am (iI y) = some (iI (unlK T.1 y), mk M am m') ∧ sx m m' := by
  have st := m_store (n := n) (M := M) (am := am) h.1.1 h.2.1.1
  by_cases s0 : 0 < T.1.length
  · rw [decide_eq_true s0] at st
    by_cases g : 1 ≤ y ∧ y ≤ 6
    · obtain ⟨m1, e1, hH, hok, f1, w20⟩ := m_la hn (M := M) (am := am) h
      obtain ⟨h1, h2, -⟩ := f1.q h
      refine ⟨m1, ?_, f1⟩
      have i1 := m_inT (n := n) (M := mk M am m) hy (sm_of (show -1000000000 ≤ (1 : Int) by omega) (by omega)) (sm_of (show -1000000000 ≤ (6 : Int) by omega) (by omega)) g
      unfold unlK
      rw [if_neg (by omega)]
      have sh : ∀ k : Nat, k + 1 < (aL T.1).length → pX10_sharedAt n (mk M am m1) am (iI k) = some (iI (shK T.1 (aL T.1) k), mk M am m1) := fun k hk => m_shared hn (M := M) (am := am) h1.1 h2.1 hH hok w20 hk
      have rs : ∀ k : Nat, k < (aL T.1).length → pX10_restOf n (mk M am m1) am (iI k) = some (iI (sgK T.1 (aL T.1) k), mk M am m1) := fun k hk => m_rest h1.1 h2.1 hH hok hk
      have sb : ∀ k : Nat, k < (aL T.1).length → _ := fun k hk => sgK_bd h2.1 hok hk
      obtain ⟨l200, h19, hA⟩ := hH
      have hall := h2.1.all
      generalize aL T.1 = L at *
      have loop : ∀ (k i : Nat), i ≤ L.length → L.length < i + k → pX10_unlike_l27 n k (mk M am m1) am (iI y) (iI (cntR (fun i => opK T.1 L i y) i)) (iI i) = some (iI (cntR (fun i => opK T.1 L i y) L.length), mk M am m1) := by
        intro k
        induction k with
        | zero => intro i a b; omega
        | succ k ih =>
          intro i i1 i2
          show pX10_unlike_l27b n (pX10_unlike_l27 n k) (mk M am m1) am _ _ _ = _
          by_cases d : (L.length : Int) ≤ i
          · simp (disch := (first | assumption | (refine sm_of ?_ ?_ <;> omega) | omega)) only [iI_add, iI_sub, iI_mul, iI_neg, iI_lt, iI_le, iI_eq, b1_s, b2_s, ↓reduceIte, mk_v, mk_gl23, mk_pl23, mk_gr1, mk_gr5, mk_gr6, mk_gr8, mk_gr9, mk_gr11, mk_gr13, mk_gr14, mk_gr15, mk_gr17, mk_gr18, mk_gr21, mk_gr24, mk_gr28, mk_gr30, mk_gr31, mk_gi0, mk_gi2, mk_gi3, mk_gi4, mk_gi7, mk_gi10, mk_gi12, mk_gi16, mk_gi19, mk_gi20, mk_gi22, mk_gi25, mk_gi26, mk_gi27, mk_gi29, mk_gi32, mk_pi0, mk_pi2, mk_pi3, mk_pi4, mk_pi7, mk_pi10, mk_pi12, mk_pi16, mk_pi19, mk_pi20, mk_pi22, mk_pi25, mk_pi26, mk_pi27, mk_pi29, mk_pi32, mk_ia1, mk_ia2, mk_ia3, mk_ia4, mk_ia5, mk_ia6, mk_ia7, mk_ia8, mk_ia9, mk_ia10, mk_ia11, mk_ia12, mk_ia13, mk_ia14, mk_ia15, mk_ia16, mk_is1, mk_is2, mk_is3, mk_is4, mk_is5, mk_is6, mk_is7, mk_is8, mk_is9, mk_is10, mk_is11, mk_is12, mk_is13, mk_is14, mk_is15, mk_is16, L0, L1, L2, L3, L4, L5, L6, L7, L8, L9, L10, L12, L20, L22, L24, L26, L27, L28, L32, L40, L60, L73, L95, L97, L222, L240, L441, L442, L622, Lm1, Lmh, L11, L13, L14, L15, L16, L17, L18, L19, L21, L23, L25, L30, L31, L33, L36, L39, L41, L44, L48, L53, L54, L55, L57, L58, L59, L91, L93, L98, L99, L100, L105, L106, L112, L114, L115, L119, L122, L160, L180, L200, L255, L1440, L24880, L63, Lm2, pX10_unlike_l27b, h19, d]
            rw [show i = L.length by omega]
          · have r1 := rs i (by omega)
            have b1 := sb i (by omega)
            have cs := cntR_succ (fun i => opK T.1 L i y) i
            have e2 := ih (i + 1) (by omega) (by omega)
            have cl := cntR_le (fun i => opK T.1 L i y) i
            have b64 : pX10_unlike_b64 n (pX10_unlike_l27 n k) (mk M am m1) am (iI y) (iI (cntR (fun i => opK T.1 L i y) i)) (iI i) (bI (opK T.1 L i y)) = some (iI (cntR (fun i => opK T.1 L i y) L.length), mk M am m1) := by
              cases e : opK T.1 L i y
              · rw [e] at cs
                rw [cs] at e2
                simp (disch := (first | assumption | (refine sm_of ?_ ?_ <;> omega) | omega)) only [iI_add, iI_sub, iI_mul, iI_neg, iI_lt, iI_le, iI_eq, b1_s, b2_s, ↓reduceIte, mk_v, mk_gl23, mk_pl23, mk_gr1, mk_gr5, mk_gr6, mk_gr8, mk_gr9, mk_gr11, mk_gr13, mk_gr14, mk_gr15, mk_gr17, mk_gr18, mk_gr21, mk_gr24, mk_gr28, mk_gr30, mk_gr31, mk_gi0, mk_gi2, mk_gi3, mk_gi4, mk_gi7, mk_gi10, mk_gi12, mk_gi16, mk_gi19, mk_gi20, mk_gi22, mk_gi25, mk_gi26, mk_gi27, mk_gi29, mk_gi32, mk_pi0, mk_pi2, mk_pi3, mk_pi4, mk_pi7, mk_pi10, mk_pi12, mk_pi16, mk_pi19, mk_pi20, mk_pi22, mk_pi25, mk_pi26, mk_pi27, mk_pi29, mk_pi32, mk_ia1, mk_ia2, mk_ia3, mk_ia4, mk_ia5, mk_ia6, mk_ia7, mk_ia8, mk_ia9, mk_ia10, mk_ia11, mk_ia12, mk_ia13, mk_ia14, mk_ia15, mk_ia16, mk_is1, mk_is2, mk_is3, mk_is4, mk_is5, mk_is6, mk_is7, mk_is8, mk_is9, mk_is10, mk_is11, mk_is12, mk_is13, mk_is14, mk_is15, mk_is16, L0, L1, L2, L3, L4, L5, L6, L7, L8, L9, L10, L12, L20, L22, L24, L26, L27, L28, L32, L40, L60, L73, L95, L97, L222, L240, L441, L442, L622, Lm1, Lmh, L11, L13, L14, L15, L16, L17, L18, L19, L21, L23, L25, L30, L31, L33, L36, L39, L41, L44, L48, L53, L54, L55, L57, L58, L59, L91, L93, L98, L99, L100, L105, L106, L112, L114, L115, L119, L122, L160, L180, L200, L255, L1440, L24880, L63, Lm2, pX10_unlike_b64, bI_0, Int.add_zero]
                rw [show ((i : Int) + 1) = ((i + 1 : Nat) : Int) by omega]
                exact e2
              · rw [e] at cs
                rw [cs] at e2
                simp (disch := (first | assumption | (refine sm_of ?_ ?_ <;> omega) | omega)) only [iI_add, iI_sub, iI_mul, iI_neg, iI_lt, iI_le, iI_eq, b1_s, b2_s, ↓reduceIte, mk_v, mk_gl23, mk_pl23, mk_gr1, mk_gr5, mk_gr6, mk_gr8, mk_gr9, mk_gr11, mk_gr13, mk_gr14, mk_gr15, mk_gr17, mk_gr18, mk_gr21, mk_gr24, mk_gr28, mk_gr30, mk_gr31, mk_gi0, mk_gi2, mk_gi3, mk_gi4, mk_gi7, mk_gi10, mk_gi12, mk_gi16, mk_gi19, mk_gi20, mk_gi22, mk_gi25, mk_gi26, mk_gi27, mk_gi29, mk_gi32, mk_pi0, mk_pi2, mk_pi3, mk_pi4, mk_pi7, mk_pi10, mk_pi12, mk_pi16, mk_pi19, mk_pi20, mk_pi22, mk_pi25, mk_pi26, mk_pi27, mk_pi29, mk_pi32, mk_ia1, mk_ia2, mk_ia3, mk_ia4, mk_ia5, mk_ia6, mk_ia7, mk_ia8, mk_ia9, mk_ia10, mk_ia11, mk_ia12, mk_ia13, mk_ia14, mk_ia15, mk_ia16, mk_is1, mk_is2, mk_is3, mk_is4, mk_is5, mk_is6, mk_is7, mk_is8, mk_is9, mk_is10, mk_is11, mk_is12, mk_is13, mk_is14, mk_is15, mk_is16, L0, L1, L2, L3, L4, L5, L6, L7, L8, L9, L10, L12, L20, L22, L24, L26, L27, L28, L32, L40, L60, L73, L95, L97, L222, L240, L441, L442, L622, Lm1, Lmh, L11, L13, L14, L15, L16, L17, L18, L19, L21, L23, L25, L30, L31, L33, L36, L39, L41, L44, L48, L53, L54, L55, L57, L58, L59, L91, L93, L98, L99, L100, L105, L106, L112, L114, L115, L119, L122, L160, L180, L200, L255, L1440, L24880, L63, Lm2, pX10_unlike_b64, bI_0, Bool.true_eq_false]
                rw [show ((i : Int) + 1) = ((i + 1 : Nat) : Int) by omega]
                exact e2
            by_cases z1 : sgK T.1 L i < y
            · have e : opK T.1 L i y = false := by unfold opK; rw [decide_eq_false (by omega)]; rfl
              rw [e] at b64
              simp (disch := (first | assumption | (refine sm_of ?_ ?_ <;> omega) | omega)) only [iI_add, iI_sub, iI_mul, iI_neg, iI_lt, iI_le, iI_eq, b1_s, b2_s, ↓reduceIte, mk_v, mk_gl23, mk_pl23, mk_gr1, mk_gr5, mk_gr6, mk_gr8, mk_gr9, mk_gr11, mk_gr13, mk_gr14, mk_gr15, mk_gr17, mk_gr18, mk_gr21, mk_gr24, mk_gr28, mk_gr30, mk_gr31, mk_gi0, mk_gi2, mk_gi3, mk_gi4, mk_gi7, mk_gi10, mk_gi12, mk_gi16, mk_gi19, mk_gi20, mk_gi22, mk_gi25, mk_gi26, mk_gi27, mk_gi29, mk_gi32, mk_pi0, mk_pi2, mk_pi3, mk_pi4, mk_pi7, mk_pi10, mk_pi12, mk_pi16, mk_pi19, mk_pi20, mk_pi22, mk_pi25, mk_pi26, mk_pi27, mk_pi29, mk_pi32, mk_ia1, mk_ia2, mk_ia3, mk_ia4, mk_ia5, mk_ia6, mk_ia7, mk_ia8, mk_ia9, mk_ia10, mk_ia11, mk_ia12, mk_ia13, mk_ia14, mk_ia15, mk_ia16, mk_is1, mk_is2, mk_is3, mk_is4, mk_is5, mk_is6, mk_is7, mk_is8, mk_is9, mk_is10, mk_is11, mk_is12, mk_is13, mk_is14, mk_is15, mk_is16, L0, L1, L2, L3, L4, L5, L6, L7, L8, L9, L10, L12, L20, L22, L24, L26, L27, L28, L32, L40, L60, L73, L95, L97, L222, L240, L441, L442, L622, Lm1, Lmh, L11, L13, L14, L15, L16, L17, L18, L19, L21, L23, L25, L30, L31, L33, L36, L39, L41, L44, L48, L53, L54, L55, L57, L58, L59, L91, L93, L98, L99, L100, L105, L106, L112, L114, L115, L119, L122, L160, L180, L200, L255, L1440, L24880, L63, Lm2, pX10_unlike_l27b, h19, d, r1, z1]
              exact b64
            · by_cases z2 : i = 0
              · have e : opK T.1 L i y = true := by
                  unfold opK
                  have : shK T.1 L ((i : Int) - 1) = -1 := by unfold shK; rw [if_neg (by omega)]
                  rw [decide_eq_true (by omega), this, decide_eq_true (by omega)]; rfl
                have z2' : ((i : Int) = 0) = True := eq_true (by omega)
                rw [e] at b64
                simp (disch := (first | assumption | (refine sm_of ?_ ?_ <;> omega) | omega)) only [iI_add, iI_sub, iI_mul, iI_neg, iI_lt, iI_le, iI_eq, b1_s, b2_s, ↓reduceIte, mk_v, mk_gl23, mk_pl23, mk_gr1, mk_gr5, mk_gr6, mk_gr8, mk_gr9, mk_gr11, mk_gr13, mk_gr14, mk_gr15, mk_gr17, mk_gr18, mk_gr21, mk_gr24, mk_gr28, mk_gr30, mk_gr31, mk_gi0, mk_gi2, mk_gi3, mk_gi4, mk_gi7, mk_gi10, mk_gi12, mk_gi16, mk_gi19, mk_gi20, mk_gi22, mk_gi25, mk_gi26, mk_gi27, mk_gi29, mk_gi32, mk_pi0, mk_pi2, mk_pi3, mk_pi4, mk_pi7, mk_pi10, mk_pi12, mk_pi16, mk_pi19, mk_pi20, mk_pi22, mk_pi25, mk_pi26, mk_pi27, mk_pi29, mk_pi32, mk_ia1, mk_ia2, mk_ia3, mk_ia4, mk_ia5, mk_ia6, mk_ia7, mk_ia8, mk_ia9, mk_ia10, mk_ia11, mk_ia12, mk_ia13, mk_ia14, mk_ia15, mk_ia16, mk_is1, mk_is2, mk_is3, mk_is4, mk_is5, mk_is6, mk_is7, mk_is8, mk_is9, mk_is10, mk_is11, mk_is12, mk_is13, mk_is14, mk_is15, mk_is16, L0, L1, L2, L3, L4, L5, L6, L7, L8, L9, L10, L12, L20, L22, L24, L26, L27, L28, L32, L40, L60, L73, L95, L97, L222, L240, L441, L442, L622, Lm1, Lmh, L11, L13, L14, L15, L16, L17, L18, L19, L21, L23, L25, L30, L31, L33, L36, L39, L41, L44, L48, L53, L54, L55, L57, L58, L59, L91, L93, L98, L99, L100, L105, L106, L112, L114, L115, L119, L122, L160, L180, L200, L255, L1440, L24880, L63, Lm2, pX10_unlike_l27b, h19, d, r1, z1, z2']
                exact b64
              · have s1 := sh (i - 1) (by omega)
                rw [show (((i - 1 : Nat)) : Int) = (i : Int) - 1 by omega] at s1
                have b2 := shK_bd T.1 L ((i : Int) - 1) hall
                by_cases z3 : y ≤ shK T.1 L ((i : Int) - 1)
                · have e : opK T.1 L i y = false := by unfold opK; rw [decide_eq_false (show ¬ shK T.1 L ((i : Int) - 1) < y by omega), Bool.and_false]
                  rw [e] at b64
                  simp (disch := (first | assumption | (refine sm_of ?_ ?_ <;> omega) | omega)) only [iI_add, iI_sub, iI_mul, iI_neg, iI_lt, iI_le, iI_eq, b1_s, b2_s, ↓reduceIte, mk_v, mk_gl23, mk_pl23, mk_gr1, mk_gr5, mk_gr6, mk_gr8, mk_gr9, mk_gr11, mk_gr13, mk_gr14, mk_gr15, mk_gr17, mk_gr18, mk_gr21, mk_gr24, mk_gr28, mk_gr30, mk_gr31, mk_gi0, mk_gi2, mk_gi3, mk_gi4, mk_gi7, mk_gi10, mk_gi12, mk_gi16, mk_gi19, mk_gi20, mk_gi22, mk_gi25, mk_gi26, mk_gi27, mk_gi29, mk_gi32, mk_pi0, mk_pi2, mk_pi3, mk_pi4, mk_pi7, mk_pi10, mk_pi12, mk_pi16, mk_pi19, mk_pi20, mk_pi22, mk_pi25, mk_pi26, mk_pi27, mk_pi29, mk_pi32, mk_ia1, mk_ia2, mk_ia3, mk_ia4, mk_ia5, mk_ia6, mk_ia7, mk_ia8, mk_ia9, mk_ia10, mk_ia11, mk_ia12, mk_ia13, mk_ia14, mk_ia15, mk_ia16, mk_is1, mk_is2, mk_is3, mk_is4, mk_is5, mk_is6, mk_is7, mk_is8, mk_is9, mk_is10, mk_is11, mk_is12, mk_is13, mk_is14, mk_is15, mk_is16, L0, L1, L2, L3, L4, L5, L6, L7, L8, L9, L10, L12, L20, L22, L24, L26, L27, L28, L32, L40, L60, L73, L95, L97, L222, L240, L441, L442, L622, Lm1, Lmh, L11, L13, L14, L15, L16, L17, L18, L19, L21, L23, L25, L30, L31, L33, L36, L39, L41, L44, L48, L53, L54, L55, L57, L58, L59, L91, L93, L98, L99, L100, L105, L106, L112, L114, L115, L119, L122, L160, L180, L200, L255, L1440, L24880, L63, Lm2, pX10_unlike_l27b, h19, d, r1, z1, show ¬ (i : Int) = 0 by omega, s1, z3]
                  exact b64
                · have e : opK T.1 L i y = true := by unfold opK; rw [decide_eq_true (show shK T.1 L ((i : Int) - 1) < y by omega), decide_eq_true (by omega)]; rfl
                  rw [e] at b64
                  simp (disch := (first | assumption | (refine sm_of ?_ ?_ <;> omega) | omega)) only [iI_add, iI_sub, iI_mul, iI_neg, iI_lt, iI_le, iI_eq, b1_s, b2_s, ↓reduceIte, mk_v, mk_gl23, mk_pl23, mk_gr1, mk_gr5, mk_gr6, mk_gr8, mk_gr9, mk_gr11, mk_gr13, mk_gr14, mk_gr15, mk_gr17, mk_gr18, mk_gr21, mk_gr24, mk_gr28, mk_gr30, mk_gr31, mk_gi0, mk_gi2, mk_gi3, mk_gi4, mk_gi7, mk_gi10, mk_gi12, mk_gi16, mk_gi19, mk_gi20, mk_gi22, mk_gi25, mk_gi26, mk_gi27, mk_gi29, mk_gi32, mk_pi0, mk_pi2, mk_pi3, mk_pi4, mk_pi7, mk_pi10, mk_pi12, mk_pi16, mk_pi19, mk_pi20, mk_pi22, mk_pi25, mk_pi26, mk_pi27, mk_pi29, mk_pi32, mk_ia1, mk_ia2, mk_ia3, mk_ia4, mk_ia5, mk_ia6, mk_ia7, mk_ia8, mk_ia9, mk_ia10, mk_ia11, mk_ia12, mk_ia13, mk_ia14, mk_ia15, mk_ia16, mk_is1, mk_is2, mk_is3, mk_is4, mk_is5, mk_is6, mk_is7, mk_is8, mk_is9, mk_is10, mk_is11, mk_is12, mk_is13, mk_is14, mk_is15, mk_is16, L0, L1, L2, L3, L4, L5, L6, L7, L8, L9, L10, L12, L20, L22, L24, L26, L27, L28, L32, L40, L60, L73, L95, L97, L222, L240, L441, L442, L622, Lm1, Lmh, L11, L13, L14, L15, L16, L17, L18, L19, L21, L23, L25, L30, L31, L33, L36, L39, L41, L44, L48, L53, L54, L55, L57, L58, L59, L91, L93, L98, L99, L100, L105, L106, L112, L114, L115, L119, L122, L160, L180, L200, L255, L1440, L24880, L63, Lm2, pX10_unlike_l27b, h19, d, r1, z1, show ¬ (i : Int) = 0 by omega, s1, z3]
                  exact b64
      simp (disch := (first | assumption | (refine sm_of ?_ ?_ <;> omega) | omega)) only [iI_add, iI_sub, iI_mul, iI_neg, iI_lt, iI_le, iI_eq, b1_s, b2_s, ↓reduceIte, mk_v, mk_gl23, mk_pl23, mk_gr1, mk_gr5, mk_gr6, mk_gr8, mk_gr9, mk_gr11, mk_gr13, mk_gr14, mk_gr15, mk_gr17, mk_gr18, mk_gr21, mk_gr24, mk_gr28, mk_gr30, mk_gr31, mk_gi0, mk_gi2, mk_gi3, mk_gi4, mk_gi7, mk_gi10, mk_gi12, mk_gi16, mk_gi19, mk_gi20, mk_gi22, mk_gi25, mk_gi26, mk_gi27, mk_gi29, mk_gi32, mk_pi0, mk_pi2, mk_pi3, mk_pi4, mk_pi7, mk_pi10, mk_pi12, mk_pi16, mk_pi19, mk_pi20, mk_pi22, mk_pi25, mk_pi26, mk_pi27, mk_pi29, mk_pi32, mk_ia1, mk_ia2, mk_ia3, mk_ia4, mk_ia5, mk_ia6, mk_ia7, mk_ia8, mk_ia9, mk_ia10, mk_ia11, mk_ia12, mk_ia13, mk_ia14, mk_ia15, mk_ia16, mk_is1, mk_is2, mk_is3, mk_is4, mk_is5, mk_is6, mk_is7, mk_is8, mk_is9, mk_is10, mk_is11, mk_is12, mk_is13, mk_is14, mk_is15, mk_is16, L0, L1, L2, L3, L4, L5, L6, L7, L8, L9, L10, L12, L20, L22, L24, L26, L27, L28, L32, L40, L60, L73, L95, L97, L222, L240, L441, L442, L622, Lm1, Lmh, L11, L13, L14, L15, L16, L17, L18, L19, L21, L23, L25, L30, L31, L33, L36, L39, L41, L44, L48, L53, L54, L55, L57, L58, L59, L91, L93, L98, L99, L100, L105, L106, L112, L114, L115, L119, L122, L160, L180, L200, L255, L1440, L24880, L63, Lm2, pX10_unlike, st, bI_t, i1, e1, Int.reduceEq]
      exact loop n 0 (by omega) (by omega)
    · refine ⟨m, ?_, sx.rfl⟩
      have i1 := m_inF (n := n) (M := mk M am m) hy (sm_of (show -1000000000 ≤ (1 : Int) by omega) (by omega)) (sm_of (show -1000000000 ≤ (6 : Int) by omega) (by omega)) g
      have e : unlK T.1 y = -1 := by unfold unlK; rw [if_pos (by omega)]
      rw [e]
      simp (disch := (first | assumption | (refine sm_of ?_ ?_ <;> omega) | omega)) only [iI_add, iI_sub, iI_mul, iI_neg, iI_lt, iI_le, iI_eq, b1_s, b2_s, ↓reduceIte, mk_v, mk_gl23, mk_pl23, mk_gr1, mk_gr5, mk_gr6, mk_gr8, mk_gr9, mk_gr11, mk_gr13, mk_gr14, mk_gr15, mk_gr17, mk_gr18, mk_gr21, mk_gr24, mk_gr28, mk_gr30, mk_gr31, mk_gi0, mk_gi2, mk_gi3, mk_gi4, mk_gi7, mk_gi10, mk_gi12, mk_gi16, mk_gi19, mk_gi20, mk_gi22, mk_gi25, mk_gi26, mk_gi27, mk_gi29, mk_gi32, mk_pi0, mk_pi2, mk_pi3, mk_pi4, mk_pi7, mk_pi10, mk_pi12, mk_pi16, mk_pi19, mk_pi20, mk_pi22, mk_pi25, mk_pi26, mk_pi27, mk_pi29, mk_pi32, mk_ia1, mk_ia2, mk_ia3, mk_ia4, mk_ia5, mk_ia6, mk_ia7, mk_ia8, mk_ia9, mk_ia10, mk_ia11, mk_ia12, mk_ia13, mk_ia14, mk_ia15, mk_ia16, mk_is1, mk_is2, mk_is3, mk_is4, mk_is5, mk_is6, mk_is7, mk_is8, mk_is9, mk_is10, mk_is11, mk_is12, mk_is13, mk_is14, mk_is15, mk_is16, L0, L1, L2, L3, L4, L5, L6, L7, L8, L9, L10, L12, L20, L22, L24, L26, L27, L28, L32, L40, L60, L73, L95, L97, L222, L240, L441, L442, L622, Lm1, Lmh, L11, L13, L14, L15, L16, L17, L18, L19, L21, L23, L25, L30, L31, L33, L36, L39, L41, L44, L48, L53, L54, L55, L57, L58, L59, L91, L93, L98, L99, L100, L105, L106, L112, L114, L115, L119, L122, L160, L180, L200, L255, L1440, L24880, L63, Lm2, pX10_unlike, st, bI_t, i1, Int.reduceEq]
  · refine ⟨m, ?_, sx.rfl⟩
    rw [decide_eq_false s0] at st
    have e : unlK T.1 y = -1 := by unfold unlK; rw [if_pos (by omega)]
    rw [e]
    simp (disch := (first | assumption | (refine sm_of ?_ ?_ <;> omega) | omega)) only [iI_add, iI_sub, iI_mul, iI_neg, iI_lt, iI_le, iI_eq, b1_s, b2_s, ↓reduceIte, mk_v, mk_gl23, mk_pl23, mk_gr1, mk_gr5, mk_gr6, mk_gr8, mk_gr9, mk_gr11, mk_gr13, mk_gr14, mk_gr15, mk_gr17, mk_gr18, mk_gr21, mk_gr24, mk_gr28, mk_gr30, mk_gr31, mk_gi0, mk_gi2, mk_gi3, mk_gi4, mk_gi7, mk_gi10, mk_gi12, mk_gi16, mk_gi19, mk_gi20, mk_gi22, mk_gi25, mk_gi26, mk_gi27, mk_gi29, mk_gi32, mk_pi0, mk_pi2, mk_pi3, mk_pi4, mk_pi7, mk_pi10, mk_pi12, mk_pi16, mk_pi19, mk_pi20, mk_pi22, mk_pi25, mk_pi26, mk_pi27, mk_pi29, mk_pi32, mk_ia1, mk_ia2, mk_ia3, mk_ia4, mk_ia5, mk_ia6, mk_ia7, mk_ia8, mk_ia9, mk_ia10, mk_ia11, mk_ia12, mk_ia13, mk_ia14, mk_ia15, mk_ia16, mk_is1, mk_is2, mk_is3, mk_is4, mk_is5, mk_is6, mk_is7, mk_is8, mk_is9, mk_is10, mk_is11, mk_is12, mk_is13, mk_is14, mk_is15, mk_is16, L0, L1, L2, L3, L4, L5, L6, L7, L8, L9, L10, L12, L20, L22, L24, L26, L27, L28, L32, L40, L60, L73, L95, L97, L222, L240, L441, L442, L622, Lm1, Lmh, L11, L13, L14, L15, L16, L17, L18, L19, L21, L23, L25, L30, L31, L33, L36, L39, L41, L44, L48, L53, L54, L55, L57, L58, L59, L91, L93, L98, L99, L100, L105, L106, L112, L114, L115, L119, L122, L160, L180, L200, L255, L1440, L24880, L63, Lm2, pX10_unlike, st, bI_f]
/-- the sign beside a hit, as its number (-1: none) -/
def bsA (ls : List kL) (wl : Nat) (af : Bool) (h : kH) : Int := if af = true then atD ((lnN ls h.1).2.drop (h.2 + wl)) 0 else atD ((lnN ls h.1).2.take h.2).reverse 0
def besK (ls : List kL) (wd : List Int) (af : Bool) (s : Int) : Int := if wd = [] ∨ s < 0 ∨ 27 < s then -1 else (cntR (fun i => decide (bsA ls wd.length af ((hL ls wd).getD i (0, 0)) = if s = 27 then -1 else s)) (hL ls wd).length : Nat)
theorem m_beside {n : Nat} (hn : 300 ≤ n) {M : mm_M} {am : Nat} {m : mS} {T : kT} {wd : List Int} (h : Mq m T wd) {af : Bool} {y : Int} (hy : sm y) : ∃ m', pX10_beside n (mk M am m) am (bI af) (iI y) = some (iI (besK T.1 wd af y), mk M am m') ∧ sx m m' := by
  by_cases g : 0 ≤ y ∧ y ≤ 27
  · have i1 := m_inT (n := n) (M := mk M am m) hy (sm_of (show -1000000000 ≤ (0 : Int) by omega) (by omega)) (sm_of (show -1000000000 ≤ (27 : Int) by omega) (by omega)) g
    by_cases c : wd = []
    · refine ⟨m, ?_, sx.rfl⟩
      have e : besK T.1 wd af y = -1 := by unfold besK; rw [if_pos (Or.inl c)]
      rw [e]
      simp (disch := (first | assumption | (refine sm_of ?_ ?_ <;> omega) | omega)) only [iI_add, iI_sub, iI_mul, iI_neg, iI_lt, iI_le, iI_eq, b1_s, b2_s, ↓reduceIte, mk_v, mk_gl23, mk_pl23, mk_gr1, mk_gr5, mk_gr6, mk_gr8, mk_gr9, mk_gr11, mk_gr13, mk_gr14, mk_gr15, mk_gr17, mk_gr18, mk_gr21, mk_gr24, mk_gr28, mk_gr30, mk_gr31, mk_gi0, mk_gi2, mk_gi3, mk_gi4, mk_gi7, mk_gi10, mk_gi12, mk_gi16, mk_gi19, mk_gi20, mk_gi22, mk_gi25, mk_gi26, mk_gi27, mk_gi29, mk_gi32, mk_pi0, mk_pi2, mk_pi3, mk_pi4, mk_pi7, mk_pi10, mk_pi12, mk_pi16, mk_pi19, mk_pi20, mk_pi22, mk_pi25, mk_pi26, mk_pi27, mk_pi29, mk_pi32, mk_ia1, mk_ia2, mk_ia3, mk_ia4, mk_ia5, mk_ia6, mk_ia7, mk_ia8, mk_ia9, mk_ia10, mk_ia11, mk_ia12, mk_ia13, mk_ia14, mk_ia15, mk_ia16, mk_is1, mk_is2, mk_is3, mk_is4, mk_is5, mk_is6, mk_is7, mk_is8, mk_is9, mk_is10, mk_is11, mk_is12, mk_is13, mk_is14, mk_is15, mk_is16, L0, L1, L2, L3, L4, L5, L6, L7, L8, L9, L10, L12, L20, L22, L24, L26, L27, L28, L32, L40, L60, L73, L95, L97, L222, L240, L441, L442, L622, Lm1, Lmh, L11, L13, L14, L15, L16, L17, L18, L19, L21, L23, L25, L30, L31, L33, L36, L39, L41, L44, L48, L53, L54, L55, L57, L58, L59, L91, L93, L98, L99, L100, L105, L106, L112, L114, L115, L119, L122, L160, L180, L200, L255, L1440, L24880, L63, Lm2, pX10_beside, i1, m_lwF h c, Int.reduceEq]
    · obtain ⟨m1, e1, hH, hok, f1, w20⟩ := m_lwT hn (M := M) (am := am) h c
      obtain ⟨h1, h2, h3, h4, h5, h6, h7⟩ := f1.q h
      have l10 := h2.1.1
      refine ⟨m1, ?_, f1⟩
      unfold besK
      rw [if_neg (fun z => by rcases z with z | z | z; exact c z; omega; omega)]
      obtain ⟨l200, h19, hA⟩ := hH
      generalize hL T.1 wd = L at *
      generalize hP : (fun i => decide (bsA T.1 wd.length af (L.getD i (0, 0)) = if y = 27 then -1 else y)) = P
      have loop : ∀ (k i : Nat), i ≤ L.length → L.length < i + k → pX10_beside_l24 n k (mk M am m1) am (bI af) (iI y) (iI (cntR P i)) (iI i) = some (iI (cntR P L.length), mk M am m1) := by
        intro k
        induction k with
        | zero => intro i a b; omega
        | succ k ih =>
          intro i i1 i2
          show pX10_beside_l24b n (pX10_beside_l24 n k) (mk M am m1) am _ _ _ _ = _
          by_cases d : (L.length : Int) ≤ i
          · simp (disch := (first | assumption | (refine sm_of ?_ ?_ <;> omega) | omega)) only [iI_add, iI_sub, iI_mul, iI_neg, iI_lt, iI_le, iI_eq, b1_s, b2_s, ↓reduceIte, mk_v, mk_gl23, mk_pl23, mk_gr1, mk_gr5, mk_gr6, mk_gr8, mk_gr9, mk_gr11, mk_gr13, mk_gr14, mk_gr15, mk_gr17, mk_gr18, mk_gr21, mk_gr24, mk_gr28, mk_gr30, mk_gr31, mk_gi0, mk_gi2, mk_gi3, mk_gi4, mk_gi7, mk_gi10, mk_gi12, mk_gi16, mk_gi19, mk_gi20, mk_gi22, mk_gi25, mk_gi26, mk_gi27, mk_gi29, mk_gi32, mk_pi0, mk_pi2, mk_pi3, mk_pi4, mk_pi7, mk_pi10, mk_pi12, mk_pi16, mk_pi19, mk_pi20, mk_pi22, mk_pi25, mk_pi26, mk_pi27, mk_pi29, mk_pi32, mk_ia1, mk_ia2, mk_ia3, mk_ia4, mk_ia5, mk_ia6, mk_ia7, mk_ia8, mk_ia9, mk_ia10, mk_ia11, mk_ia12, mk_ia13, mk_ia14, mk_ia15, mk_ia16, mk_is1, mk_is2, mk_is3, mk_is4, mk_is5, mk_is6, mk_is7, mk_is8, mk_is9, mk_is10, mk_is11, mk_is12, mk_is13, mk_is14, mk_is15, mk_is16, L0, L1, L2, L3, L4, L5, L6, L7, L8, L9, L10, L12, L20, L22, L24, L26, L27, L28, L32, L40, L60, L73, L95, L97, L222, L240, L441, L442, L622, Lm1, Lmh, L11, L13, L14, L15, L16, L17, L18, L19, L21, L23, L25, L30, L31, L33, L36, L39, L41, L44, L48, L53, L54, L55, L57, L58, L59, L91, L93, L98, L99, L100, L105, L106, L112, L114, L115, L119, L122, L160, L180, L200, L255, L1440, L24880, L63, Lm2, pX10_beside_l24b, h19, d]
            rw [show i = L.length by omega]
          · have hi : i < L.length := by omega
            obtain ⟨a1, a2⟩ := hA i hi
            obtain ⟨o1, o2⟩ := hok.get hi
            have ll := (h2.1.2 _ o1).2.1
            have oks := (h2.1.2 _ o1).2.2.1
            have cs := cntR_succ P i
            have e2 := ih (i + 1) (by omega) (by omega)
            have cl := cntR_le P i
            have pv : P i = decide (bsA T.1 wd.length af (L.getD i (0, 0)) = if y = 27 then -1 else y) := by rw [← hP]
            have b78 : pX10_beside_b78 n (pX10_beside_l24 n k) (mk M am m1) am (bI af) (iI y) (iI (cntR P i)) (iI i) (iI (bsA T.1 wd.length af (L.getD i (0, 0)))) = some (iI (cntR P L.length), mk M am m1) := by
              have vb : -1 ≤ bsA T.1 wd.length af (L.getD i (0, 0)) ∧ bsA T.1 wd.length af (L.getD i (0, 0)) ≤ 26 := by
                unfold bsA
                split
                · exact atD_bd (oks.drop _) 0
                · exact atD_bd (oks.take _).rev 0
              generalize bsA T.1 wd.length af (L.getD i (0, 0)) = v at *
              by_cases z : y = 27
              · rw [if_pos z] at pv
                by_cases w : v = -1
                · rw [pv, decide_eq_true w, if_pos rfl] at cs
                  rw [cs] at e2
                  simp (disch := (first | assumption | (refine sm_of ?_ ?_ <;> omega) | omega)) only [iI_add, iI_sub, iI_mul, iI_neg, iI_lt, iI_le, iI_eq, b1_s, b2_s, ↓reduceIte, mk_v, mk_gl23, mk_pl23, mk_gr1, mk_gr5, mk_gr6, mk_gr8, mk_gr9, mk_gr11, mk_gr13, mk_gr14, mk_gr15, mk_gr17, mk_gr18, mk_gr21, mk_gr24, mk_gr28, mk_gr30, mk_gr31, mk_gi0, mk_gi2, mk_gi3, mk_gi4, mk_gi7, mk_gi10, mk_gi12, mk_gi16, mk_gi19, mk_gi20, mk_gi22, mk_gi25, mk_gi26, mk_gi27, mk_gi29, mk_gi32, mk_pi0, mk_pi2, mk_pi3, mk_pi4, mk_pi7, mk_pi10, mk_pi12, mk_pi16, mk_pi19, mk_pi20, mk_pi22, mk_pi25, mk_pi26, mk_pi27, mk_pi29, mk_pi32, mk_ia1, mk_ia2, mk_ia3, mk_ia4, mk_ia5, mk_ia6, mk_ia7, mk_ia8, mk_ia9, mk_ia10, mk_ia11, mk_ia12, mk_ia13, mk_ia14, mk_ia15, mk_ia16, mk_is1, mk_is2, mk_is3, mk_is4, mk_is5, mk_is6, mk_is7, mk_is8, mk_is9, mk_is10, mk_is11, mk_is12, mk_is13, mk_is14, mk_is15, mk_is16, L0, L1, L2, L3, L4, L5, L6, L7, L8, L9, L10, L12, L20, L22, L24, L26, L27, L28, L32, L40, L60, L73, L95, L97, L222, L240, L441, L442, L622, Lm1, Lmh, L11, L13, L14, L15, L16, L17, L18, L19, L21, L23, L25, L30, L31, L33, L36, L39, L41, L44, L48, L53, L54, L55, L57, L58, L59, L91, L93, L98, L99, L100, L105, L106, L112, L114, L115, L119, L122, L160, L180, L200, L255, L1440, L24880, L63, Lm2, pX10_beside_b78, pX10_beside_b94, z, w]
                  rw [show ((i : Int) + 1) = ((i + 1 : Nat) : Int) by omega, ← z]
                  exact e2
                · rw [pv, decide_eq_false w, if_neg (by decide)] at cs
                  rw [cs] at e2
                  simp (disch := (first | assumption | (refine sm_of ?_ ?_ <;> omega) | omega)) only [iI_add, iI_sub, iI_mul, iI_neg, iI_lt, iI_le, iI_eq, b1_s, b2_s, ↓reduceIte, mk_v, mk_gl23, mk_pl23, mk_gr1, mk_gr5, mk_gr6, mk_gr8, mk_gr9, mk_gr11, mk_gr13, mk_gr14, mk_gr15, mk_gr17, mk_gr18, mk_gr21, mk_gr24, mk_gr28, mk_gr30, mk_gr31, mk_gi0, mk_gi2, mk_gi3, mk_gi4, mk_gi7, mk_gi10, mk_gi12, mk_gi16, mk_gi19, mk_gi20, mk_gi22, mk_gi25, mk_gi26, mk_gi27, mk_gi29, mk_gi32, mk_pi0, mk_pi2, mk_pi3, mk_pi4, mk_pi7, mk_pi10, mk_pi12, mk_pi16, mk_pi19, mk_pi20, mk_pi22, mk_pi25, mk_pi26, mk_pi27, mk_pi29, mk_pi32, mk_ia1, mk_ia2, mk_ia3, mk_ia4, mk_ia5, mk_ia6, mk_ia7, mk_ia8, mk_ia9, mk_ia10, mk_ia11, mk_ia12, mk_ia13, mk_ia14, mk_ia15, mk_ia16, mk_is1, mk_is2, mk_is3, mk_is4, mk_is5, mk_is6, mk_is7, mk_is8, mk_is9, mk_is10, mk_is11, mk_is12, mk_is13, mk_is14, mk_is15, mk_is16, L0, L1, L2, L3, L4, L5, L6, L7, L8, L9, L10, L12, L20, L22, L24, L26, L27, L28, L32, L40, L60, L73, L95, L97, L222, L240, L441, L442, L622, Lm1, Lmh, L11, L13, L14, L15, L16, L17, L18, L19, L21, L23, L25, L30, L31, L33, L36, L39, L41, L44, L48, L53, L54, L55, L57, L58, L59, L91, L93, L98, L99, L100, L105, L106, L112, L114, L115, L119, L122, L160, L180, L200, L255, L1440, L24880, L63, Lm2, pX10_beside_b78, pX10_beside_b94, z, w, Int.add_zero]
                  rw [show ((i : Int) + 1) = ((i + 1 : Nat) : Int) by omega, ← z]
                  exact e2
              · rw [if_neg z] at pv
                by_cases w : v = y
                · rw [pv, decide_eq_true w, if_pos rfl] at cs
                  rw [cs] at e2
                  simp (disch := (first | assumption | (refine sm_of ?_ ?_ <;> omega) | omega)) only [iI_add, iI_sub, iI_mul, iI_neg, iI_lt, iI_le, iI_eq, b1_s, b2_s, ↓reduceIte, mk_v, mk_gl23, mk_pl23, mk_gr1, mk_gr5, mk_gr6, mk_gr8, mk_gr9, mk_gr11, mk_gr13, mk_gr14, mk_gr15, mk_gr17, mk_gr18, mk_gr21, mk_gr24, mk_gr28, mk_gr30, mk_gr31, mk_gi0, mk_gi2, mk_gi3, mk_gi4, mk_gi7, mk_gi10, mk_gi12, mk_gi16, mk_gi19, mk_gi20, mk_gi22, mk_gi25, mk_gi26, mk_gi27, mk_gi29, mk_gi32, mk_pi0, mk_pi2, mk_pi3, mk_pi4, mk_pi7, mk_pi10, mk_pi12, mk_pi16, mk_pi19, mk_pi20, mk_pi22, mk_pi25, mk_pi26, mk_pi27, mk_pi29, mk_pi32, mk_ia1, mk_ia2, mk_ia3, mk_ia4, mk_ia5, mk_ia6, mk_ia7, mk_ia8, mk_ia9, mk_ia10, mk_ia11, mk_ia12, mk_ia13, mk_ia14, mk_ia15, mk_ia16, mk_is1, mk_is2, mk_is3, mk_is4, mk_is5, mk_is6, mk_is7, mk_is8, mk_is9, mk_is10, mk_is11, mk_is12, mk_is13, mk_is14, mk_is15, mk_is16, L0, L1, L2, L3, L4, L5, L6, L7, L8, L9, L10, L12, L20, L22, L24, L26, L27, L28, L32, L40, L60, L73, L95, L97, L222, L240, L441, L442, L622, Lm1, Lmh, L11, L13, L14, L15, L16, L17, L18, L19, L21, L23, L25, L30, L31, L33, L36, L39, L41, L44, L48, L53, L54, L55, L57, L58, L59, L91, L93, L98, L99, L100, L105, L106, L112, L114, L115, L119, L122, L160, L180, L200, L255, L1440, L24880, L63, Lm2, pX10_beside_b78, pX10_beside_b94, z, w]
                  rw [show ((i : Int) + 1) = ((i + 1 : Nat) : Int) by omega]
                  exact e2
                · rw [pv, decide_eq_false w, if_neg (by decide)] at cs
                  rw [cs] at e2
                  simp (disch := (first | assumption | (refine sm_of ?_ ?_ <;> omega) | omega)) only [iI_add, iI_sub, iI_mul, iI_neg, iI_lt, iI_le, iI_eq, b1_s, b2_s, ↓reduceIte, mk_v, mk_gl23, mk_pl23, mk_gr1, mk_gr5, mk_gr6, mk_gr8, mk_gr9, mk_gr11, mk_gr13, mk_gr14, mk_gr15, mk_gr17, mk_gr18, mk_gr21, mk_gr24, mk_gr28, mk_gr30, mk_gr31, mk_gi0, mk_gi2, mk_gi3, mk_gi4, mk_gi7, mk_gi10, mk_gi12, mk_gi16, mk_gi19, mk_gi20, mk_gi22, mk_gi25, mk_gi26, mk_gi27, mk_gi29, mk_gi32, mk_pi0, mk_pi2, mk_pi3, mk_pi4, mk_pi7, mk_pi10, mk_pi12, mk_pi16, mk_pi19, mk_pi20, mk_pi22, mk_pi25, mk_pi26, mk_pi27, mk_pi29, mk_pi32, mk_ia1, mk_ia2, mk_ia3, mk_ia4, mk_ia5, mk_ia6, mk_ia7, mk_ia8, mk_ia9, mk_ia10, mk_ia11, mk_ia12, mk_ia13, mk_ia14, mk_ia15, mk_ia16, mk_is1, mk_is2, mk_is3, mk_is4, mk_is5, mk_is6, mk_is7, mk_is8, mk_is9, mk_is10, mk_is11, mk_is12, mk_is13, mk_is14, mk_is15, mk_is16, L0, L1, L2, L3, L4, L5, L6, L7, L8, L9, L10, L12, L20, L22, L24, L26, L27, L28, L32, L40, L60, L73, L95, L97, L222, L240, L441, L442, L622, Lm1, Lmh, L11, L13, L14, L15, L16, L17, L18, L19, L21, L23, L25, L30, L31, L33, L36, L39, L41, L44, L48, L53, L54, L55, L57, L58, L59, L91, L93, L98, L99, L100, L105, L106, L112, L114, L115, L119, L122, L160, L180, L200, L255, L1440, L24880, L63, Lm2, pX10_beside_b78, pX10_beside_b94, z, w, Int.add_zero]
                  rw [show ((i : Int) + 1) = ((i + 1 : Nat) : Int) by omega]
                  exact e2
            cases af with
            | false =>
              have q : pX10_before n (mk M am m1) am (iI (L.getD i (0, 0)).1) (iI (L.getD i (0, 0)).2) (iI 0) = some (iI (bsA T.1 wd.length false (L.getD i (0, 0))), mk M am m1) := m_bef (n := n) (M := M) (am := am) h1.1 h2.1 (i := 0) o1 (by omega) (by omega)
              rw [bI_f] at b78 ⊢
              simp (disch := (first | assumption | (refine sm_of ?_ ?_ <;> omega) | omega)) only [iI_add, iI_sub, iI_mul, iI_neg, iI_lt, iI_le, iI_eq, b1_s, b2_s, ↓reduceIte, mk_v, mk_gl23, mk_pl23, mk_gr1, mk_gr5, mk_gr6, mk_gr8, mk_gr9, mk_gr11, mk_gr13, mk_gr14, mk_gr15, mk_gr17, mk_gr18, mk_gr21, mk_gr24, mk_gr28, mk_gr30, mk_gr31, mk_gi0, mk_gi2, mk_gi3, mk_gi4, mk_gi7, mk_gi10, mk_gi12, mk_gi16, mk_gi19, mk_gi20, mk_gi22, mk_gi25, mk_gi26, mk_gi27, mk_gi29, mk_gi32, mk_pi0, mk_pi2, mk_pi3, mk_pi4, mk_pi7, mk_pi10, mk_pi12, mk_pi16, mk_pi19, mk_pi20, mk_pi22, mk_pi25, mk_pi26, mk_pi27, mk_pi29, mk_pi32, mk_ia1, mk_ia2, mk_ia3, mk_ia4, mk_ia5, mk_ia6, mk_ia7, mk_ia8, mk_ia9, mk_ia10, mk_ia11, mk_ia12, mk_ia13, mk_ia14, mk_ia15, mk_ia16, mk_is1, mk_is2, mk_is3, mk_is4, mk_is5, mk_is6, mk_is7, mk_is8, mk_is9, mk_is10, mk_is11, mk_is12, mk_is13, mk_is14, mk_is15, mk_is16, L0, L1, L2, L3, L4, L5, L6, L7, L8, L9, L10, L12, L20, L22, L24, L26, L27, L28, L32, L40, L60, L73, L95, L97, L222, L240, L441, L442, L622, Lm1, Lmh, L11, L13, L14, L15, L16, L17, L18, L19, L21, L23, L25, L30, L31, L33, L36, L39, L41, L44, L48, L53, L54, L55, L57, L58, L59, L91, L93, L98, L99, L100, L105, L106, L112, L114, L115, L119, L122, L160, L180, L200, L255, L1440, L24880, L63, Lm2, pX10_beside_l24b, h19, d, a1, a2, q]
              exact b78
            | true =>
              have q : pX10_following n (mk M am m1) am (iI (L.getD i (0, 0)).1) (iI (L.getD i (0, 0)).2) (iI 0) = some (iI (bsA T.1 wd.length true (L.getD i (0, 0))), mk M am m1) := m_fol (n := n) (M := M) (am := am) h1.1 h2.1 (i := 0) w20 (by omega) o1 (by omega) (by omega)
              rw [bI_t] at b78 ⊢
              simp (disch := (first | assumption | (refine sm_of ?_ ?_ <;> omega) | omega)) only [iI_add, iI_sub, iI_mul, iI_neg, iI_lt, iI_le, iI_eq, b1_s, b2_s, ↓reduceIte, mk_v, mk_gl23, mk_pl23, mk_gr1, mk_gr5, mk_gr6, mk_gr8, mk_gr9, mk_gr11, mk_gr13, mk_gr14, mk_gr15, mk_gr17, mk_gr18, mk_gr21, mk_gr24, mk_gr28, mk_gr30, mk_gr31, mk_gi0, mk_gi2, mk_gi3, mk_gi4, mk_gi7, mk_gi10, mk_gi12, mk_gi16, mk_gi19, mk_gi20, mk_gi22, mk_gi25, mk_gi26, mk_gi27, mk_gi29, mk_gi32, mk_pi0, mk_pi2, mk_pi3, mk_pi4, mk_pi7, mk_pi10, mk_pi12, mk_pi16, mk_pi19, mk_pi20, mk_pi22, mk_pi25, mk_pi26, mk_pi27, mk_pi29, mk_pi32, mk_ia1, mk_ia2, mk_ia3, mk_ia4, mk_ia5, mk_ia6, mk_ia7, mk_ia8, mk_ia9, mk_ia10, mk_ia11, mk_ia12, mk_ia13, mk_ia14, mk_ia15, mk_ia16, mk_is1, mk_is2, mk_is3, mk_is4, mk_is5, mk_is6, mk_is7, mk_is8, mk_is9, mk_is10, mk_is11, mk_is12, mk_is13, mk_is14, mk_is15, mk_is16, L0, L1, L2, L3, L4, L5, L6, L7, L8, L9, L10, L12, L20, L22, L24, L26, L27, L28, L32, L40, L60, L73, L95, L97, L222, L240, L441, L442, L622, Lm1, Lmh, L11, L13, L14, L15, L16, L17, L18, L19, L21, L23, L25, L30, L31, L33, L36, L39, L41, L44, L48, L53, L54, L55, L57, L58, L59, L91, L93, L98, L99, L100, L105, L106, L112, L114, L115, L119, L122, L160, L180, L200, L255, L1440, L24880, L63, Lm2, pX10_beside_l24b, h19, d, Int.reduceEq, a1, a2, q]
              exact b78
      simp (disch := (first | assumption | (refine sm_of ?_ ?_ <;> omega) | omega)) only [iI_add, iI_sub, iI_mul, iI_neg, iI_lt, iI_le, iI_eq, b1_s, b2_s, ↓reduceIte, mk_v, mk_gl23, mk_pl23, mk_gr1, mk_gr5, mk_gr6, mk_gr8, mk_gr9, mk_gr11, mk_gr13, mk_gr14, mk_gr15, mk_gr17, mk_gr18, mk_gr21, mk_gr24, mk_gr28, mk_gr30, mk_gr31, mk_gi0, mk_gi2, mk_gi3, mk_gi4, mk_gi7, mk_gi10, mk_gi12, mk_gi16, mk_gi19, mk_gi20, mk_gi22, mk_gi25, mk_gi26, mk_gi27, mk_gi29, mk_gi32, mk_pi0, mk_pi2, mk_pi3, mk_pi4, mk_pi7, mk_pi10, mk_pi12, mk_pi16, mk_pi19, mk_pi20, mk_pi22, mk_pi25, mk_pi26, mk_pi27, mk_pi29, mk_pi32, mk_ia1, mk_ia2, mk_ia3, mk_ia4, mk_ia5, mk_ia6, mk_ia7, mk_ia8, mk_ia9, mk_ia10, mk_ia11, mk_ia12, mk_ia13, mk_ia14, mk_ia15, mk_ia16, mk_is1, mk_is2, mk_is3, mk_is4, mk_is5, mk_is6, mk_is7, mk_is8, mk_is9, mk_is10, mk_is11, mk_is12, mk_is13, mk_is14, mk_is15, mk_is16, L0, L1, L2, L3, L4, L5, L6, L7, L8, L9, L10, L12, L20, L22, L24, L26, L27, L28, L32, L40, L60, L73, L95, L97, L222, L240, L441, L442, L622, Lm1, Lmh, L11, L13, L14, L15, L16, L17, L18, L19, L21, L23, L25, L30, L31, L33, L36, L39, L41, L44, L48, L53, L54, L55, L57, L58, L59, L91, L93, L98, L99, L100, L105, L106, L112, L114, L115, L119, L122, L160, L180, L200, L255, L1440, L24880, L63, Lm2, pX10_beside, i1, e1, Int.reduceEq]
      exact loop n 0 (by omega) (by omega)
  · refine ⟨m, ?_, sx.rfl⟩
    have i1 := m_inF (n := n) (M := mk M am m) hy (sm_of (show -1000000000 ≤ (0 : Int) by omega) (by omega)) (sm_of (show -1000000000 ≤ (27 : Int) by omega) (by omega)) g
    have e : besK T.1 wd af y = -1 := by unfold besK; rw [if_pos (by omega)]
    rw [e]
    simp (disch := (first | assumption | (refine sm_of ?_ ?_ <;> omega) | omega)) only [iI_add, iI_sub, iI_mul, iI_neg, iI_lt, iI_le, iI_eq, b1_s, b2_s, ↓reduceIte, mk_v, mk_gl23, mk_pl23, mk_gr1, mk_gr5, mk_gr6, mk_gr8, mk_gr9, mk_gr11, mk_gr13, mk_gr14, mk_gr15, mk_gr17, mk_gr18, mk_gr21, mk_gr24, mk_gr28, mk_gr30, mk_gr31, mk_gi0, mk_gi2, mk_gi3, mk_gi4, mk_gi7, mk_gi10, mk_gi12, mk_gi16, mk_gi19, mk_gi20, mk_gi22, mk_gi25, mk_gi26, mk_gi27, mk_gi29, mk_gi32, mk_pi0, mk_pi2, mk_pi3, mk_pi4, mk_pi7, mk_pi10, mk_pi12, mk_pi16, mk_pi19, mk_pi20, mk_pi22, mk_pi25, mk_pi26, mk_pi27, mk_pi29, mk_pi32, mk_ia1, mk_ia2, mk_ia3, mk_ia4, mk_ia5, mk_ia6, mk_ia7, mk_ia8, mk_ia9, mk_ia10, mk_ia11, mk_ia12, mk_ia13, mk_ia14, mk_ia15, mk_ia16, mk_is1, mk_is2, mk_is3, mk_is4, mk_is5, mk_is6, mk_is7, mk_is8, mk_is9, mk_is10, mk_is11, mk_is12, mk_is13, mk_is14, mk_is15, mk_is16, L0, L1, L2, L3, L4, L5, L6, L7, L8, L9, L10, L12, L20, L22, L24, L26, L27, L28, L32, L40, L60, L73, L95, L97, L222, L240, L441, L442, L622, Lm1, Lmh, L11, L13, L14, L15, L16, L17, L18, L19, L21, L23, L25, L30, L31, L33, L36, L39, L41, L44, L48, L53, L54, L55, L57, L58, L59, L91, L93, L98, L99, L100, L105, L106, L112, L114, L115, L119, L122, L160, L180, L200, L255, L1440, L24880, L63, Lm2, pX10_beside, i1]
/-- a hit spelled -/
def spellL (xs : List Int) (p wl : Nat) : List Int := (xs.take p).drop (p - 5) ++ [91] ++ (xs.take (p + wl)).drop p ++ [93] ++ (xs.take (min xs.length (p + wl + 5))).drop (p + wl)
def spK (ls : List kL) (wd : List Int) (x y : Int) : Int := if 0 ≤ x ∧ x < (hL ls wd).length then (if y = -1 then ((spellL (lnN ls (gH (hL ls wd) x).1).2 (gH (hL ls wd) x).2 wd.length).length : Int) else if 0 ≤ y ∧ y < (spellL (lnN ls (gH (hL ls wd) x).1).2 (gH (hL ls wd) x).2 wd.length).length then (spellL (lnN ls (gH (hL ls wd) x).1).2 (gH (hL ls wd) x).2 wd.length).getD y.toNat 0 else -1) else -1
def Spl (m : mS) (acc : List Int) : Prop := m.1 0 29 = acc.length ∧ ∀ i : Nat, i < acc.length → m.1 14 i = acc.getD i 0
def spx (m m' : mS) : Prop := m'.2 = m.2 ∧ (∀ j, j ≠ 0 → j ≠ 14 → m'.1 j = m.1 j) ∧ ∀ x, x ≠ 29 → m'.1 0 x = m.1 0 x
theorem spx.trans {m m1 m2 : mS} (h : spx m m1) (g : spx m1 m2) : spx m m2 := ⟨g.1.trans h.1, fun j a b => (g.2.1 j a b).trans (h.2.1 j a b), fun x a => (g.2.2 x a).trans (h.2.2 x a)⟩
theorem m_spells {n : Nat} {M : mm_M} {am : Nat} {m : mS} {acc : List Int} (h : Spl m acc) (hl : acc.length < 18) (c : Int) : ∃ m', pX10_spells n (mk M am m) am (iI c) = some (mk M am m') ∧ Spl m' (acc ++ [c]) ∧ spx m m' := by
  obtain ⟨h1, h2⟩ := h
  refine ⟨setA (setA m 14 (upI (m.1 14) acc.length c)) 0 (upI (m.1 0) 29 (acc.length + 1)), ?_, ⟨?_, fun i hi => ?_⟩, ⟨rfl, fun j a b => ?_, fun x a => ?_⟩⟩
  · simp (disch := (first | assumption | (refine sm_of ?_ ?_ <;> omega) | omega)) only [iI_add, iI_sub, iI_mul, iI_neg, iI_lt, iI_le, iI_eq, b1_s, b2_s, ↓reduceIte, mk_v, mk_gl23, mk_pl23, mk_gr1, mk_gr5, mk_gr6, mk_gr8, mk_gr9, mk_gr11, mk_gr13, mk_gr14, mk_gr15, mk_gr17, mk_gr18, mk_gr21, mk_gr24, mk_gr28, mk_gr30, mk_gr31, mk_gi0, mk_gi2, mk_gi3, mk_gi4, mk_gi7, mk_gi10, mk_gi12, mk_gi16, mk_gi19, mk_gi20, mk_gi22, mk_gi25, mk_gi26, mk_gi27, mk_gi29, mk_gi32, mk_pi0, mk_pi2, mk_pi3, mk_pi4, mk_pi7, mk_pi10, mk_pi12, mk_pi16, mk_pi19, mk_pi20, mk_pi22, mk_pi25, mk_pi26, mk_pi27, mk_pi29, mk_pi32, mk_ia1, mk_ia2, mk_ia3, mk_ia4, mk_ia5, mk_ia6, mk_ia7, mk_ia8, mk_ia9, mk_ia10, mk_ia11, mk_ia12, mk_ia13, mk_ia14, mk_ia15, mk_ia16, mk_is1, mk_is2, mk_is3, mk_is4, mk_is5, mk_is6, mk_is7, mk_is8, mk_is9, mk_is10, mk_is11, mk_is12, mk_is13, mk_is14, mk_is15, mk_is16, L0, L1, L2, L3, L4, L5, L6, L7, L8, L9, L10, L12, L20, L22, L24, L26, L27, L28, L32, L40, L60, L73, L95, L97, L222, L240, L441, L442, L622, Lm1, Lmh, L11, L13, L14, L15, L16, L17, L18, L19, L21, L23, L25, L30, L31, L33, L36, L39, L41, L44, L48, L53, L54, L55, L57, L58, L59, L91, L93, L98, L99, L100, L105, L106, L112, L114, L115, L119, L122, L160, L180, L200, L255, L1440, L24880, L63, Lm2, pX10_spells, h1, setA_n]
  · rw [setA_e, upI_e]; simp
  · rw [setA_n _ _ (by decide), setA_e]
    simp at hi
    by_cases e : i = acc.length
    · subst e; rw [upI_e]; simp
    · rw [upI_n _ _ (by omega), h2 i (by omega), List.getD_eq_getElem?_getD, List.getD_eq_getElem?_getD, List.getElem?_append_left (by omega)]
  · rw [setA_n _ _ a, setA_n _ _ b]
  · rw [setA_e, upI_n _ _ a]
theorem m_byte {n : Nat} {M : mm_M} {b : Int} (h : isSg b = true) : pX10_byteBy n M (iI (dec b)) = some (iI b, M) := by
  have := isSg_spec h
  have db := dec_bd h
  simp (disch := (first | assumption | (refine sm_of ?_ ?_ <;> omega) | fail)) only [iI_add, iI_sub, iI_mul, iI_neg, iI_lt, iI_le, iI_eq, b1_s, b2_s, ↓reduceIte, L0, L1, L2, L3, L4, L5, L6, L7, L8, L9, L10, L12, L20, L22, L24, L26, L27, L28, L32, L40, L60, L73, L95, L97, L222, L240, L441, L442, L622, Lm1, Lmh, L11, L13, L14, L15, L16, L17, L18, L19, L21, L23, L25, L30, L31, L33, L36, L39, L41, L44, L48, L53, L54, L55, L57, L58, L59, L91, L93, L98, L99, L100, L105, L106, L112, L114, L115, L119, L122, L160, L180, L200, L255, L1440, L24880, L63, Lm2, pX10_byteBy]
  unfold dec
  by_cases c : b = 95
  · simp [c]
  · rw [if_neg c, if_neg (by omega)]; congr 3; omega
theorem td_cons {xs : List Int} {p q : Nat} (h : q < p) (hp : p ≤ xs.length) : (xs.take p).drop q = xs.getD q 0 :: (xs.take p).drop (q + 1) := by
  rw [List.drop_eq_getElem_cons (by simp; omega), List.getElem_take, getD_of (by omega)]
theorem td_nil {xs : List Int} {p q : Nat} (h : p ≤ q) : (xs.take p).drop q = [] := List.drop_eq_nil_of_le (by simp; omega)
theorem NwL_spx {m m' : mS} {ls : List kL} (h : spx m m') (g : NwL (m.1 7) ls) : NwL (m'.1 7) ls := by rw [h.2.1 7 (by decide) (by decide)]; exact g
theorem m_sp53 {n : Nat} {M : mm_M} {am : Nat} {ls : List kL} (ho : okL ls) {l p wl : Nat} (hl : l < ls.length) (hp : p + wl ≤ (lnN ls l).2.length) (hwl : wl ≤ 6) {y : Int32} : ∀ (k q : Nat) (m : mS) (acc : List Int), NwL (m.1 7) ls → Spl m acc → q ≤ p → p < q + k → acc.length + (p - q) ≤ 5 → ∃ m', pX10_spell_l53 n k (mk M am m) am y (iI l) (iI p) (iI q) = pX10_spell_l90 n n (mk M am m') am y (iI l) (iI p) (iI p) ∧ Spl m' (acc ++ ((lnN ls l).2.take p).drop q ++ [91]) ∧ spx m m' := by
  have ll := (ho.2 l hl).2.1
  have oks := (ho.2 l hl).2.2.1
  have l10 := ho.1
  intro k
  induction k with
  | zero => intro q m acc _ _ h1 h2; omega
  | succ k ih =>
    intro q m acc hN hS h1 h2 h3
    show ∃ m', pX10_spell_l53b n (pX10_spell_l53 n k) (mk M am m) am y _ _ _ = _ ∧ _
    by_cases d : (p : Int) ≤ q
    · obtain ⟨m1, e1, s1, f1⟩ := m_spells (n := n) (M := M) (am := am) hS (by omega) 91
      refine ⟨m1, ?_, by rw [td_nil (by omega), List.append_nil]; exact s1, f1⟩
      simp (disch := (first | assumption | (refine sm_of ?_ ?_ <;> omega) | omega)) only [iI_add, iI_sub, iI_mul, iI_neg, iI_lt, iI_le, iI_eq, b1_s, b2_s, ↓reduceIte, mk_v, mk_gl23, mk_pl23, mk_gr1, mk_gr5, mk_gr6, mk_gr8, mk_gr9, mk_gr11, mk_gr13, mk_gr14, mk_gr15, mk_gr17, mk_gr18, mk_gr21, mk_gr24, mk_gr28, mk_gr30, mk_gr31, mk_gi0, mk_gi2, mk_gi3, mk_gi4, mk_gi7, mk_gi10, mk_gi12, mk_gi16, mk_gi19, mk_gi20, mk_gi22, mk_gi25, mk_gi26, mk_gi27, mk_gi29, mk_gi32, mk_pi0, mk_pi2, mk_pi3, mk_pi4, mk_pi7, mk_pi10, mk_pi12, mk_pi16, mk_pi19, mk_pi20, mk_pi22, mk_pi25, mk_pi26, mk_pi27, mk_pi29, mk_pi32, mk_ia1, mk_ia2, mk_ia3, mk_ia4, mk_ia5, mk_ia6, mk_ia7, mk_ia8, mk_ia9, mk_ia10, mk_ia11, mk_ia12, mk_ia13, mk_ia14, mk_ia15, mk_ia16, mk_is1, mk_is2, mk_is3, mk_is4, mk_is5, mk_is6, mk_is7, mk_is8, mk_is9, mk_is10, mk_is11, mk_is12, mk_is13, mk_is14, mk_is15, mk_is16, L0, L1, L2, L3, L4, L5, L6, L7, L8, L9, L10, L12, L20, L22, L24, L26, L27, L28, L32, L40, L60, L73, L95, L97, L222, L240, L441, L442, L622, Lm1, Lmh, L11, L13, L14, L15, L16, L17, L18, L19, L21, L23, L25, L30, L31, L33, L36, L39, L41, L44, L48, L53, L54, L55, L57, L58, L59, L91, L93, L98, L99, L100, L105, L106, L112, L114, L115, L119, L122, L160, L180, L200, L255, L1440, L24880, L63, Lm2, pX10_spell_l53b, d, e1]
    · have sg := m_sign (n := n) (M := M) (am := am) hN ho hl (show q < _ by omega)
      have os := oks.get (show q < (lnN ls l).2.length by omega)
      obtain ⟨m1, e1, s1, f1⟩ := m_spells (n := n) (M := M) (am := am) hS (by omega) ((lnN ls l).2.getD q 0)
      obtain ⟨m2, e2, s2, f2⟩ := ih (q + 1) m1 _ (NwL_spx f1 hN) s1 (by omega) (by omega) (by simp; omega)
      refine ⟨m2, ?_, by rw [td_cons (by omega) (by omega)]; simpa using s2, f1.trans f2⟩
      simp (disch := (first | assumption | (refine sm_of ?_ ?_ <;> omega) | omega)) only [iI_add, iI_sub, iI_mul, iI_neg, iI_lt, iI_le, iI_eq, b1_s, b2_s, ↓reduceIte, mk_v, mk_gl23, mk_pl23, mk_gr1, mk_gr5, mk_gr6, mk_gr8, mk_gr9, mk_gr11, mk_gr13, mk_gr14, mk_gr15, mk_gr17, mk_gr18, mk_gr21, mk_gr24, mk_gr28, mk_gr30, mk_gr31, mk_gi0, mk_gi2, mk_gi3, mk_gi4, mk_gi7, mk_gi10, mk_gi12, mk_gi16, mk_gi19, mk_gi20, mk_gi22, mk_gi25, mk_gi26, mk_gi27, mk_gi29, mk_gi32, mk_pi0, mk_pi2, mk_pi3, mk_pi4, mk_pi7, mk_pi10, mk_pi12, mk_pi16, mk_pi19, mk_pi20, mk_pi22, mk_pi25, mk_pi26, mk_pi27, mk_pi29, mk_pi32, mk_ia1, mk_ia2, mk_ia3, mk_ia4, mk_ia5, mk_ia6, mk_ia7, mk_ia8, mk_ia9, mk_ia10, mk_ia11, mk_ia12, mk_ia13, mk_ia14, mk_ia15, mk_ia16, mk_is1, mk_is2, mk_is3, mk_is4, mk_is5, mk_is6, mk_is7, mk_is8, mk_is9, mk_is10, mk_is11, mk_is12, mk_is13, mk_is14, mk_is15, mk_is16, L0, L1, L2, L3, L4, L5, L6, L7, L8, L9, L10, L12, L20, L22, L24, L26, L27, L28, L32, L40, L60, L73, L95, L97, L222, L240, L441, L442, L622, Lm1, Lmh, L11, L13, L14, L15, L16, L17, L18, L19, L21, L23, L25, L30, L31, L33, L36, L39, L41, L44, L48, L53, L54, L55, L57, L58, L59, L91, L93, L98, L99, L100, L105, L106, L112, L114, L115, L119, L122, L160, L180, L200, L255, L1440, L24880, L63, Lm2, pX10_spell_l53b, d, sg, m_byte os, e1]
      rw [show ((q : Int) + 1) = ((q + 1 : Nat) : Int) by omega, e2]
theorem m_sp90 {n : Nat} {M : mm_M} {am : Nat} {ls : List kL} (ho : okL ls) {l p wl : Nat} (hl : l < ls.length) (hp : p + wl ≤ (lnN ls l).2.length) (hwl : wl ≤ 6) {y : Int32} : ∀ (k q : Nat) (m : mS) (acc : List Int), NwL (m.1 7) ls → m.1 0 16 = wl → Spl m acc → q ≤ p + wl → p + wl < q + k → acc.length + (p + wl - q) ≤ 12 → ∃ m', pX10_spell_l90 n k (mk M am m) am y (iI l) (iI p) (iI q) = pX10_spell_l137 n n (mk M am m') am y (iI l) (iI p) (iI ((p + wl : Nat) : Int)) ∧ Spl m' (acc ++ ((lnN ls l).2.take (p + wl)).drop q ++ [93]) ∧ spx m m' := by
  have ll := (ho.2 l hl).2.1
  have oks := (ho.2 l hl).2.2.1
  have l10 := ho.1
  intro k
  induction k with
  | zero => intro q m acc _ _ _ h1 h2; omega
  | succ k ih =>
    intro q m acc hN h16 hS h1 h2 h3
    show ∃ m', pX10_spell_l90b n (pX10_spell_l90 n k) (mk M am m) am y _ _ _ = _ ∧ _
    by_cases d : (p : Int) + wl ≤ q
    · obtain ⟨m1, e1, s1, f1⟩ := m_spells (n := n) (M := M) (am := am) hS (by omega) 93
      have g16 : m1.1 0 16 = wl := by rw [f1.2.2 16 (by decide)]; exact h16
      refine ⟨m1, ?_, by rw [td_nil (by omega), List.append_nil]; exact s1, f1⟩
      simp (disch := (first | assumption | (refine sm_of ?_ ?_ <;> omega) | omega)) only [iI_add, iI_sub, iI_mul, iI_neg, iI_lt, iI_le, iI_eq, b1_s, b2_s, ↓reduceIte, mk_v, mk_gl23, mk_pl23, mk_gr1, mk_gr5, mk_gr6, mk_gr8, mk_gr9, mk_gr11, mk_gr13, mk_gr14, mk_gr15, mk_gr17, mk_gr18, mk_gr21, mk_gr24, mk_gr28, mk_gr30, mk_gr31, mk_gi0, mk_gi2, mk_gi3, mk_gi4, mk_gi7, mk_gi10, mk_gi12, mk_gi16, mk_gi19, mk_gi20, mk_gi22, mk_gi25, mk_gi26, mk_gi27, mk_gi29, mk_gi32, mk_pi0, mk_pi2, mk_pi3, mk_pi4, mk_pi7, mk_pi10, mk_pi12, mk_pi16, mk_pi19, mk_pi20, mk_pi22, mk_pi25, mk_pi26, mk_pi27, mk_pi29, mk_pi32, mk_ia1, mk_ia2, mk_ia3, mk_ia4, mk_ia5, mk_ia6, mk_ia7, mk_ia8, mk_ia9, mk_ia10, mk_ia11, mk_ia12, mk_ia13, mk_ia14, mk_ia15, mk_ia16, mk_is1, mk_is2, mk_is3, mk_is4, mk_is5, mk_is6, mk_is7, mk_is8, mk_is9, mk_is10, mk_is11, mk_is12, mk_is13, mk_is14, mk_is15, mk_is16, L0, L1, L2, L3, L4, L5, L6, L7, L8, L9, L10, L12, L20, L22, L24, L26, L27, L28, L32, L40, L60, L73, L95, L97, L222, L240, L441, L442, L622, Lm1, Lmh, L11, L13, L14, L15, L16, L17, L18, L19, L21, L23, L25, L30, L31, L33, L36, L39, L41, L44, L48, L53, L54, L55, L57, L58, L59, L91, L93, L98, L99, L100, L105, L106, L112, L114, L115, L119, L122, L160, L180, L200, L255, L1440, L24880, L63, Lm2, pX10_spell_l90b, h16, d, pX10_spell_b122, e1, g16]
      rw [show ((p : Int) + wl) = ((p + wl : Nat) : Int) by omega]
    · have sg := m_sign (n := n) (M := M) (am := am) hN ho hl (show q < _ by omega)
      have os := oks.get (show q < (lnN ls l).2.length by omega)
      obtain ⟨m1, e1, s1, f1⟩ := m_spells (n := n) (M := M) (am := am) hS (by omega) ((lnN ls l).2.getD q 0)
      obtain ⟨m2, e2, s2, f2⟩ := ih (q + 1) m1 _ (NwL_spx f1 hN) (by rw [f1.2.2 16 (by decide)]; exact h16) s1 (by omega) (by omega) (by simp; omega)
      refine ⟨m2, ?_, by rw [td_cons (by omega) (by omega)]; simpa using s2, f1.trans f2⟩
      simp (disch := (first | assumption | (refine sm_of ?_ ?_ <;> omega) | omega)) only [iI_add, iI_sub, iI_mul, iI_neg, iI_lt, iI_le, iI_eq, b1_s, b2_s, ↓reduceIte, mk_v, mk_gl23, mk_pl23, mk_gr1, mk_gr5, mk_gr6, mk_gr8, mk_gr9, mk_gr11, mk_gr13, mk_gr14, mk_gr15, mk_gr17, mk_gr18, mk_gr21, mk_gr24, mk_gr28, mk_gr30, mk_gr31, mk_gi0, mk_gi2, mk_gi3, mk_gi4, mk_gi7, mk_gi10, mk_gi12, mk_gi16, mk_gi19, mk_gi20, mk_gi22, mk_gi25, mk_gi26, mk_gi27, mk_gi29, mk_gi32, mk_pi0, mk_pi2, mk_pi3, mk_pi4, mk_pi7, mk_pi10, mk_pi12, mk_pi16, mk_pi19, mk_pi20, mk_pi22, mk_pi25, mk_pi26, mk_pi27, mk_pi29, mk_pi32, mk_ia1, mk_ia2, mk_ia3, mk_ia4, mk_ia5, mk_ia6, mk_ia7, mk_ia8, mk_ia9, mk_ia10, mk_ia11, mk_ia12, mk_ia13, mk_ia14, mk_ia15, mk_ia16, mk_is1, mk_is2, mk_is3, mk_is4, mk_is5, mk_is6, mk_is7, mk_is8, mk_is9, mk_is10, mk_is11, mk_is12, mk_is13, mk_is14, mk_is15, mk_is16, L0, L1, L2, L3, L4, L5, L6, L7, L8, L9, L10, L12, L20, L22, L24, L26, L27, L28, L32, L40, L60, L73, L95, L97, L222, L240, L441, L442, L622, Lm1, Lmh, L11, L13, L14, L15, L16, L17, L18, L19, L21, L23, L25, L30, L31, L33, L36, L39, L41, L44, L48, L53, L54, L55, L57, L58, L59, L91, L93, L98, L99, L100, L105, L106, L112, L114, L115, L119, L122, L160, L180, L200, L255, L1440, L24880, L63, Lm2, pX10_spell_l90b, h16, d, sg, m_byte os, e1]
      rw [show ((q : Int) + 1) = ((q + 1 : Nat) : Int) by omega, e2]
theorem m_sp137 {n : Nat} {M : mm_M} {am : Nat} {ls : List kL} (ho : okL ls) {l p wl e : Nat} (hl : l < ls.length) (hp : p + wl ≤ (lnN ls l).2.length) (hwl : wl ≤ 6) (he : e = min (lnN ls l).2.length (p + wl + 5)) {y : Int32} : ∀ (k q : Nat) (m : mS) (acc : List Int), NwL (m.1 7) ls → m.1 0 16 = wl → Spl m acc → q ≤ e → e < q + k → acc.length + (e - q) ≤ 18 → ∃ m', pX10_spell_l137 n k (mk M am m) am y (iI l) (iI p) (iI q) = pX10_spell_b179 n (mk M am m') am y ∧ Spl m' (acc ++ ((lnN ls l).2.take e).drop q) ∧ spx m m' := by
  have ll := (ho.2 l hl).2.1
  have oks := (ho.2 l hl).2.2.1
  have l10 := ho.1
  have me : mm_min (iI (lnN ls l).2.length) (iI ((p : Int) + wl + 5)) = iI e := by
    rw [min_i (sm_of (by omega) (by omega)) (sm_of (by omega) (by omega)), he]; congr 1; omega
  intro k
  induction k with
  | zero => intro q m acc _ _ _ h1 h2; omega
  | succ k ih =>
    intro q m acc hN h16 hS h1 h2 h3
    show ∃ m', pX10_spell_l137b n (pX10_spell_l137 n k) (mk M am m) am y _ _ _ = _ ∧ _
    have lg := m_long (n := n) (M := M) (am := am) hN ho hl
    by_cases d : (e : Int) ≤ q
    · refine ⟨m, ?_, by rw [td_nil (by omega), List.append_nil]; exact hS, ⟨rfl, fun _ _ _ => rfl, fun _ _ => rfl⟩⟩
      simp (disch := (first | assumption | (refine sm_of ?_ ?_ <;> omega) | omega)) only [iI_add, iI_sub, iI_mul, iI_neg, iI_lt, iI_le, iI_eq, b1_s, b2_s, ↓reduceIte, mk_v, mk_gl23, mk_pl23, mk_gr1, mk_gr5, mk_gr6, mk_gr8, mk_gr9, mk_gr11, mk_gr13, mk_gr14, mk_gr15, mk_gr17, mk_gr18, mk_gr21, mk_gr24, mk_gr28, mk_gr30, mk_gr31, mk_gi0, mk_gi2, mk_gi3, mk_gi4, mk_gi7, mk_gi10, mk_gi12, mk_gi16, mk_gi19, mk_gi20, mk_gi22, mk_gi25, mk_gi26, mk_gi27, mk_gi29, mk_gi32, mk_pi0, mk_pi2, mk_pi3, mk_pi4, mk_pi7, mk_pi10, mk_pi12, mk_pi16, mk_pi19, mk_pi20, mk_pi22, mk_pi25, mk_pi26, mk_pi27, mk_pi29, mk_pi32, mk_ia1, mk_ia2, mk_ia3, mk_ia4, mk_ia5, mk_ia6, mk_ia7, mk_ia8, mk_ia9, mk_ia10, mk_ia11, mk_ia12, mk_ia13, mk_ia14, mk_ia15, mk_ia16, mk_is1, mk_is2, mk_is3, mk_is4, mk_is5, mk_is6, mk_is7, mk_is8, mk_is9, mk_is10, mk_is11, mk_is12, mk_is13, mk_is14, mk_is15, mk_is16, L0, L1, L2, L3, L4, L5, L6, L7, L8, L9, L10, L12, L20, L22, L24, L26, L27, L28, L32, L40, L60, L73, L95, L97, L222, L240, L441, L442, L622, Lm1, Lmh, L11, L13, L14, L15, L16, L17, L18, L19, L21, L23, L25, L30, L31, L33, L36, L39, L41, L44, L48, L53, L54, L55, L57, L58, L59, L91, L93, L98, L99, L100, L105, L106, L112, L114, L115, L119, L122, L160, L180, L200, L255, L1440, L24880, L63, Lm2, pX10_spell_l137b, h16, lg, me, d]
    · have sg := m_sign (n := n) (M := M) (am := am) hN ho hl (show q < _ by omega)
      have os := oks.get (show q < (lnN ls l).2.length by omega)
      obtain ⟨m1, e1, s1, f1⟩ := m_spells (n := n) (M := M) (am := am) hS (by omega) ((lnN ls l).2.getD q 0)
      obtain ⟨m2, e2, s2, f2⟩ := ih (q + 1) m1 _ (NwL_spx f1 hN) (by rw [f1.2.2 16 (by decide)]; exact h16) s1 (by omega) (by omega) (by simp; omega)
      refine ⟨m2, ?_, by rw [td_cons (by omega) (by omega)]; simpa using s2, f1.trans f2⟩
      simp (disch := (first | assumption | (refine sm_of ?_ ?_ <;> omega) | omega)) only [iI_add, iI_sub, iI_mul, iI_neg, iI_lt, iI_le, iI_eq, b1_s, b2_s, ↓reduceIte, mk_v, mk_gl23, mk_pl23, mk_gr1, mk_gr5, mk_gr6, mk_gr8, mk_gr9, mk_gr11, mk_gr13, mk_gr14, mk_gr15, mk_gr17, mk_gr18, mk_gr21, mk_gr24, mk_gr28, mk_gr30, mk_gr31, mk_gi0, mk_gi2, mk_gi3, mk_gi4, mk_gi7, mk_gi10, mk_gi12, mk_gi16, mk_gi19, mk_gi20, mk_gi22, mk_gi25, mk_gi26, mk_gi27, mk_gi29, mk_gi32, mk_pi0, mk_pi2, mk_pi3, mk_pi4, mk_pi7, mk_pi10, mk_pi12, mk_pi16, mk_pi19, mk_pi20, mk_pi22, mk_pi25, mk_pi26, mk_pi27, mk_pi29, mk_pi32, mk_ia1, mk_ia2, mk_ia3, mk_ia4, mk_ia5, mk_ia6, mk_ia7, mk_ia8, mk_ia9, mk_ia10, mk_ia11, mk_ia12, mk_ia13, mk_ia14, mk_ia15, mk_ia16, mk_is1, mk_is2, mk_is3, mk_is4, mk_is5, mk_is6, mk_is7, mk_is8, mk_is9, mk_is10, mk_is11, mk_is12, mk_is13, mk_is14, mk_is15, mk_is16, L0, L1, L2, L3, L4, L5, L6, L7, L8, L9, L10, L12, L20, L22, L24, L26, L27, L28, L32, L40, L60, L73, L95, L97, L222, L240, L441, L442, L622, Lm1, Lmh, L11, L13, L14, L15, L16, L17, L18, L19, L21, L23, L25, L30, L31, L33, L36, L39, L41, L44, L48, L53, L54, L55, L57, L58, L59, L91, L93, L98, L99, L100, L105, L106, L112, L114, L115, L119, L122, L160, L180, L200, L255, L1440, L24880, L63, Lm2, pX10_spell_l137b, h16, lg, me, d, sg, m_byte os, e1]
      rw [show ((q : Int) + 1) = ((q + 1 : Nat) : Int) by omega, e2]
theorem spellL_len {xs : List Int} {p wl : Nat} (h : p + wl ≤ xs.length) (h6 : wl ≤ 6) : (spellL xs p wl).length = min 5 p + wl + min 5 (xs.length - p - wl) + 2 := by
  unfold spellL
  simp
  omega
def sxp (m m' : mS) : Prop := (∀ j, j ≠ 0 → j ≠ 10 → j ≠ 11 → j ≠ 14 → m'.1 j = m.1 j) ∧ ∀ x, x ≠ 19 → x ≠ 20 → x ≠ 29 → m'.1 0 x = m.1 0 x
theorem hL_w {ls : List kL} (hd : numD ls) {wd : List Int} {i : Nat} (hi : i < (hL ls wd).length) : ((hL ls wd).getD i (0, 0)).2 + wd.length ≤ (lnN ls ((hL ls wd).getD i (0, 0)).1).2.length := by
  unfold hL at hi ⊢
  by_cases c : wd = []
  · rw [if_pos c] at hi; simp at hi
  · rw [if_neg c] at hi ⊢
    have : (fbL ls wd ls.length).getD i (0, 0) ∈ fbL ls wd ls.length := by rw [List.getD_eq_getElem?_getD, List.getElem?_eq_getElem hi]; exact List.getElem_mem hi
    obtain ⟨p1, p2, p3⟩ := (fb_mem hd).mp this
    have p := (List.isPrefixOf_iff_prefix.mp p3).length_le
    rw [List.length_drop] at p
    omega
theorem m_spell {n : Nat} (hn : 300 ≤ n) {M : mm_M} {am : Nat} {m : mS} {T : kT} {wd : List Int} (h : Mq m T wd) {x y : Int} (hx : sm x) (hy : sm y) : ∃ m', pX10_spell n (mk M am m) am (iI x) (iI y) = some (iI (spK T.1 wd x y), mk M am m') ∧ sxp m m' := by
  by_cases c : wd = []
  · refine ⟨m, ?_, ⟨fun _ _ _ _ _ => rfl, fun _ _ _ _ => rfl⟩⟩
    have e : spK T.1 wd x y = -1 := by unfold spK hL; rw [if_pos c, if_neg (by simp <;> omega)]
    rw [e]
    simp (disch := (first | assumption | (refine sm_of ?_ ?_ <;> omega) | omega)) only [iI_add, iI_sub, iI_mul, iI_neg, iI_lt, iI_le, iI_eq, b1_s, b2_s, ↓reduceIte, mk_v, mk_gl23, mk_pl23, mk_gr1, mk_gr5, mk_gr6, mk_gr8, mk_gr9, mk_gr11, mk_gr13, mk_gr14, mk_gr15, mk_gr17, mk_gr18, mk_gr21, mk_gr24, mk_gr28, mk_gr30, mk_gr31, mk_gi0, mk_gi2, mk_gi3, mk_gi4, mk_gi7, mk_gi10, mk_gi12, mk_gi16, mk_gi19, mk_gi20, mk_gi22, mk_gi25, mk_gi26, mk_gi27, mk_gi29, mk_gi32, mk_pi0, mk_pi2, mk_pi3, mk_pi4, mk_pi7, mk_pi10, mk_pi12, mk_pi16, mk_pi19, mk_pi20, mk_pi22, mk_pi25, mk_pi26, mk_pi27, mk_pi29, mk_pi32, mk_ia1, mk_ia2, mk_ia3, mk_ia4, mk_ia5, mk_ia6, mk_ia7, mk_ia8, mk_ia9, mk_ia10, mk_ia11, mk_ia12, mk_ia13, mk_ia14, mk_ia15, mk_ia16, mk_is1, mk_is2, mk_is3, mk_is4, mk_is5, mk_is6, mk_is7, mk_is8, mk_is9, mk_is10, mk_is11, mk_is12, mk_is13, mk_is14, mk_is15, mk_is16, L0, L1, L2, L3, L4, L5, L6, L7, L8, L9, L10, L12, L20, L22, L24, L26, L27, L28, L32, L40, L60, L73, L95, L97, L222, L240, L441, L442, L622, Lm1, Lmh, L11, L13, L14, L15, L16, L17, L18, L19, L21, L23, L25, L30, L31, L33, L36, L39, L41, L44, L48, L53, L54, L55, L57, L58, L59, L91, L93, L98, L99, L100, L105, L106, L112, L114, L115, L119, L122, L160, L180, L200, L255, L1440, L24880, L63, Lm2, pX10_spell, m_lwF h c]
  · obtain ⟨m1, e1, hH, hok, f1, w20⟩ := m_lwT hn (M := M) (am := am) h c
    obtain ⟨h1, h2, h3, h4, h5, h6, h7⟩ := f1.q h
    have hw := fun (i : Nat) (hi : i < (hL T.1 wd).length) => hL_w h2.2.1 hi
    obtain ⟨l200, h19, hA⟩ := hH
    unfold spK
    generalize hL T.1 wd = L at *
    have l10 := h2.1.1
    by_cases d : 0 ≤ x ∧ x < L.length
    · obtain ⟨k, rfl⟩ := Int.eq_ofNat_of_zero_le d.1
      have hk : k < L.length := by omega
      obtain ⟨a1, a2⟩ := hA k hk
      obtain ⟨o1, o2⟩ := hok.get hk
      have ww := hw k hk
      have ll := (h2.1.2 _ o1).2.1
      have i1 := m_inT (n := n) (M := mk M am m1) hx (sm_of (show -1000000000 ≤ (0 : Int) by omega) (by omega)) (sm_of (show -1000000000 ≤ (L.length : Int) - 1 by omega) (by omega)) (by omega)
      have sl := spellL_len ww h6
      rw [if_pos d, gH_k]
      have t0 : NwL ((setA m1 0 (upI (m1.1 0) 29 0)).1 7) T.1 := by rw [setA_n _ _ (by decide)]; exact h1.1
      have s0 : Spl (setA m1 0 (upI (m1.1 0) 29 0)) [] := ⟨by rw [setA_e, upI_e]; rfl, fun i hi => by simp at hi⟩
      have a1' : (setA m1 0 (upI (m1.1 0) 29 0)).1 10 k = (L.getD k (0, 0)).1 := by rw [setA_n _ _ (by decide)]; exact a1
      have a2' : (setA m1 0 (upI (m1.1 0) 29 0)).1 11 k = (L.getD k (0, 0)).2 := by rw [setA_n _ _ (by decide)]; exact a2
      have g16 : (setA m1 0 (upI (m1.1 0) 29 0)).1 0 16 = wd.length := by rw [setA_e, upI_n _ _ (by decide)]; exact h3
      generalize (L.getD k (0, 0)).1 = l at *
      generalize (L.getD k (0, 0)).2 = p at *
      obtain ⟨m2, e2, s2, f2⟩ := m_sp53 (n := n) (M := M) (am := am) h2.1 o1 ww h6 (y := iI y) n (p - 5) _ [] t0 s0 (by omega) (by omega) (by simp; omega)
      obtain ⟨m3, e3, s3, f3⟩ := m_sp90 (n := n) (M := M) (am := am) h2.1 o1 ww h6 (y := iI y) n p m2 _ (NwL_spx f2 t0) (by rw [f2.2.2 16 (by decide)]; exact g16) s2 (by omega) (by omega) (by simp; omega)
      obtain ⟨m4, e4, s4, f4⟩ := m_sp137 (n := n) (M := M) (am := am) h2.1 o1 ww h6 rfl (y := iI y) n (p + wd.length) m3 _ (NwL_spx f3 (NwL_spx f2 t0)) (by rw [f3.2.2 16 (by decide), f2.2.2 16 (by decide)]; exact g16) s3 (by omega) (by omega) (by simp; omega)
      have es : ([] : List Int) ++ ((lnN T.1 l).2.take p).drop (p - 5) ++ [91] ++ ((lnN T.1 l).2.take (p + wd.length)).drop p ++ [93] ++ ((lnN T.1 l).2.take (min (lnN T.1 l).2.length (p + wd.length + 5))).drop (p + wd.length) = spellL (lnN T.1 l).2 p wd.length := rfl
      rw [es] at s4
      generalize spellL (lnN T.1 l).2 p wd.length = B at *
      have fall := (f2.trans f3).trans f4
      refine ⟨m4, ?_, ⟨fun j j0 j10 j11 j14 => ?_, fun z z19 z20 z29 => ?_⟩⟩
      · have mx : mm_max (iI 0) (iI ((p : Int) - 5)) = iI ((p - 5 : Nat) : Int) := by rw [max_i (sm_of (by omega) (by omega))]; congr 1; omega
        simp (disch := (first | assumption | (refine sm_of ?_ ?_ <;> omega) | omega)) only [iI_add, iI_sub, iI_mul, iI_neg, iI_lt, iI_le, iI_eq, b1_s, b2_s, ↓reduceIte, mk_v, mk_gl23, mk_pl23, mk_gr1, mk_gr5, mk_gr6, mk_gr8, mk_gr9, mk_gr11, mk_gr13, mk_gr14, mk_gr15, mk_gr17, mk_gr18, mk_gr21, mk_gr24, mk_gr28, mk_gr30, mk_gr31, mk_gi0, mk_gi2, mk_gi3, mk_gi4, mk_gi7, mk_gi10, mk_gi12, mk_gi16, mk_gi19, mk_gi20, mk_gi22, mk_gi25, mk_gi26, mk_gi27, mk_gi29, mk_gi32, mk_pi0, mk_pi2, mk_pi3, mk_pi4, mk_pi7, mk_pi10, mk_pi12, mk_pi16, mk_pi19, mk_pi20, mk_pi22, mk_pi25, mk_pi26, mk_pi27, mk_pi29, mk_pi32, mk_ia1, mk_ia2, mk_ia3, mk_ia4, mk_ia5, mk_ia6, mk_ia7, mk_ia8, mk_ia9, mk_ia10, mk_ia11, mk_ia12, mk_ia13, mk_ia14, mk_ia15, mk_ia16, mk_is1, mk_is2, mk_is3, mk_is4, mk_is5, mk_is6, mk_is7, mk_is8, mk_is9, mk_is10, mk_is11, mk_is12, mk_is13, mk_is14, mk_is15, mk_is16, L0, L1, L2, L3, L4, L5, L6, L7, L8, L9, L10, L12, L20, L22, L24, L26, L27, L28, L32, L40, L60, L73, L95, L97, L222, L240, L441, L442, L622, Lm1, Lmh, L11, L13, L14, L15, L16, L17, L18, L19, L21, L23, L25, L30, L31, L33, L36, L39, L41, L44, L48, L53, L54, L55, L57, L58, L59, L91, L93, L98, L99, L100, L105, L106, L112, L114, L115, L119, L122, L160, L180, L200, L255, L1440, L24880, L63, Lm2, pX10_spell, e1, h19, i1, Int.reduceEq, a1', a2', mx, e2, e3, e4]
        obtain ⟨q1, q2⟩ := s4
        by_cases z : y = -1
        · simp (disch := (first | assumption | (refine sm_of ?_ ?_ <;> omega) | omega)) only [iI_add, iI_sub, iI_mul, iI_neg, iI_lt, iI_le, iI_eq, b1_s, b2_s, ↓reduceIte, mk_v, mk_gl23, mk_pl23, mk_gr1, mk_gr5, mk_gr6, mk_gr8, mk_gr9, mk_gr11, mk_gr13, mk_gr14, mk_gr15, mk_gr17, mk_gr18, mk_gr21, mk_gr24, mk_gr28, mk_gr30, mk_gr31, mk_gi0, mk_gi2, mk_gi3, mk_gi4, mk_gi7, mk_gi10, mk_gi12, mk_gi16, mk_gi19, mk_gi20, mk_gi22, mk_gi25, mk_gi26, mk_gi27, mk_gi29, mk_gi32, mk_pi0, mk_pi2, mk_pi3, mk_pi4, mk_pi7, mk_pi10, mk_pi12, mk_pi16, mk_pi19, mk_pi20, mk_pi22, mk_pi25, mk_pi26, mk_pi27, mk_pi29, mk_pi32, mk_ia1, mk_ia2, mk_ia3, mk_ia4, mk_ia5, mk_ia6, mk_ia7, mk_ia8, mk_ia9, mk_ia10, mk_ia11, mk_ia12, mk_ia13, mk_ia14, mk_ia15, mk_ia16, mk_is1, mk_is2, mk_is3, mk_is4, mk_is5, mk_is6, mk_is7, mk_is8, mk_is9, mk_is10, mk_is11, mk_is12, mk_is13, mk_is14, mk_is15, mk_is16, L0, L1, L2, L3, L4, L5, L6, L7, L8, L9, L10, L12, L20, L22, L24, L26, L27, L28, L32, L40, L60, L73, L95, L97, L222, L240, L441, L442, L622, Lm1, Lmh, L11, L13, L14, L15, L16, L17, L18, L19, L21, L23, L25, L30, L31, L33, L36, L39, L41, L44, L48, L53, L54, L55, L57, L58, L59, L91, L93, L98, L99, L100, L105, L106, L112, L114, L115, L119, L122, L160, L180, L200, L255, L1440, L24880, L63, Lm2, pX10_spell_b179, z, q1]
        · rw [if_neg z]
          by_cases g : 0 ≤ y ∧ y < B.length
          · have i2 := m_inT (n := n) (M := mk M am m4) hy (sm_of (show -1000000000 ≤ (0 : Int) by omega) (by omega)) (sm_of (show -1000000000 ≤ (B.length : Int) - 1 by omega) (by omega)) (by omega)
            obtain ⟨v, rfl⟩ := Int.eq_ofNat_of_zero_le g.1
            have q3 := q2 v (by omega)
            rw [if_pos g]
            simp (disch := (first | assumption | (refine sm_of ?_ ?_ <;> omega) | omega)) only [iI_add, iI_sub, iI_mul, iI_neg, iI_lt, iI_le, iI_eq, b1_s, b2_s, ↓reduceIte, mk_v, mk_gl23, mk_pl23, mk_gr1, mk_gr5, mk_gr6, mk_gr8, mk_gr9, mk_gr11, mk_gr13, mk_gr14, mk_gr15, mk_gr17, mk_gr18, mk_gr21, mk_gr24, mk_gr28, mk_gr30, mk_gr31, mk_gi0, mk_gi2, mk_gi3, mk_gi4, mk_gi7, mk_gi10, mk_gi12, mk_gi16, mk_gi19, mk_gi20, mk_gi22, mk_gi25, mk_gi26, mk_gi27, mk_gi29, mk_gi32, mk_pi0, mk_pi2, mk_pi3, mk_pi4, mk_pi7, mk_pi10, mk_pi12, mk_pi16, mk_pi19, mk_pi20, mk_pi22, mk_pi25, mk_pi26, mk_pi27, mk_pi29, mk_pi32, mk_ia1, mk_ia2, mk_ia3, mk_ia4, mk_ia5, mk_ia6, mk_ia7, mk_ia8, mk_ia9, mk_ia10, mk_ia11, mk_ia12, mk_ia13, mk_ia14, mk_ia15, mk_ia16, mk_is1, mk_is2, mk_is3, mk_is4, mk_is5, mk_is6, mk_is7, mk_is8, mk_is9, mk_is10, mk_is11, mk_is12, mk_is13, mk_is14, mk_is15, mk_is16, L0, L1, L2, L3, L4, L5, L6, L7, L8, L9, L10, L12, L20, L22, L24, L26, L27, L28, L32, L40, L60, L73, L95, L97, L222, L240, L441, L442, L622, Lm1, Lmh, L11, L13, L14, L15, L16, L17, L18, L19, L21, L23, L25, L30, L31, L33, L36, L39, L41, L44, L48, L53, L54, L55, L57, L58, L59, L91, L93, L98, L99, L100, L105, L106, L112, L114, L115, L119, L122, L160, L180, L200, L255, L1440, L24880, L63, Lm2, pX10_spell_b179, z, q1, i2, Int.reduceEq, q3]
            rw [Int.toNat_natCast]
          · have i2 := m_inF (n := n) (M := mk M am m4) hy (sm_of (show -1000000000 ≤ (0 : Int) by omega) (by omega)) (sm_of (show -1000000000 ≤ (B.length : Int) - 1 by omega) (by omega)) (by omega)
            rw [if_neg g]
            simp (disch := (first | assumption | (refine sm_of ?_ ?_ <;> omega) | omega)) only [iI_add, iI_sub, iI_mul, iI_neg, iI_lt, iI_le, iI_eq, b1_s, b2_s, ↓reduceIte, mk_v, mk_gl23, mk_pl23, mk_gr1, mk_gr5, mk_gr6, mk_gr8, mk_gr9, mk_gr11, mk_gr13, mk_gr14, mk_gr15, mk_gr17, mk_gr18, mk_gr21, mk_gr24, mk_gr28, mk_gr30, mk_gr31, mk_gi0, mk_gi2, mk_gi3, mk_gi4, mk_gi7, mk_gi10, mk_gi12, mk_gi16, mk_gi19, mk_gi20, mk_gi22, mk_gi25, mk_gi26, mk_gi27, mk_gi29, mk_gi32, mk_pi0, mk_pi2, mk_pi3, mk_pi4, mk_pi7, mk_pi10, mk_pi12, mk_pi16, mk_pi19, mk_pi20, mk_pi22, mk_pi25, mk_pi26, mk_pi27, mk_pi29, mk_pi32, mk_ia1, mk_ia2, mk_ia3, mk_ia4, mk_ia5, mk_ia6, mk_ia7, mk_ia8, mk_ia9, mk_ia10, mk_ia11, mk_ia12, mk_ia13, mk_ia14, mk_ia15, mk_ia16, mk_is1, mk_is2, mk_is3, mk_is4, mk_is5, mk_is6, mk_is7, mk_is8, mk_is9, mk_is10, mk_is11, mk_is12, mk_is13, mk_is14, mk_is15, mk_is16, L0, L1, L2, L3, L4, L5, L6, L7, L8, L9, L10, L12, L20, L22, L24, L26, L27, L28, L32, L40, L60, L73, L95, L97, L222, L240, L441, L442, L622, Lm1, Lmh, L11, L13, L14, L15, L16, L17, L18, L19, L21, L23, L25, L30, L31, L33, L36, L39, L41, L44, L48, L53, L54, L55, L57, L58, L59, L91, L93, L98, L99, L100, L105, L106, L112, L114, L115, L119, L122, L160, L180, L200, L255, L1440, L24880, L63, Lm2, pX10_spell_b179, z, q1, i2]
      · rw [fall.2.1 j j0 j14, setA_n _ _ j0, f1.2.1 j j0 j10 j11]
      · rw [fall.2.2 z z29, setA_e, upI_n _ _ z29, f1.2.2 z z19 z20]
    · refine ⟨m1, ?_, ⟨fun j j0 j10 j11 j14 => f1.2.1 j j0 j10 j11, fun z z19 z20 z29 => f1.2.2 z z19 z20⟩⟩
      have i1 := m_inF (n := n) (M := mk M am m1) hx (sm_of (show -1000000000 ≤ (0 : Int) by omega) (by omega)) (sm_of (show -1000000000 ≤ (L.length : Int) - 1 by omega) (by omega)) (by omega)
      rw [if_neg d]
      simp (disch := (first | assumption | (refine sm_of ?_ ?_ <;> omega) | omega)) only [iI_add, iI_sub, iI_mul, iI_neg, iI_lt, iI_le, iI_eq, b1_s, b2_s, ↓reduceIte, mk_v, mk_gl23, mk_pl23, mk_gr1, mk_gr5, mk_gr6, mk_gr8, mk_gr9, mk_gr11, mk_gr13, mk_gr14, mk_gr15, mk_gr17, mk_gr18, mk_gr21, mk_gr24, mk_gr28, mk_gr30, mk_gr31, mk_gi0, mk_gi2, mk_gi3, mk_gi4, mk_gi7, mk_gi10, mk_gi12, mk_gi16, mk_gi19, mk_gi20, mk_gi22, mk_gi25, mk_gi26, mk_gi27, mk_gi29, mk_gi32, mk_pi0, mk_pi2, mk_pi3, mk_pi4, mk_pi7, mk_pi10, mk_pi12, mk_pi16, mk_pi19, mk_pi20, mk_pi22, mk_pi25, mk_pi26, mk_pi27, mk_pi29, mk_pi32, mk_ia1, mk_ia2, mk_ia3, mk_ia4, mk_ia5, mk_ia6, mk_ia7, mk_ia8, mk_ia9, mk_ia10, mk_ia11, mk_ia12, mk_ia13, mk_ia14, mk_ia15, mk_ia16, mk_is1, mk_is2, mk_is3, mk_is4, mk_is5, mk_is6, mk_is7, mk_is8, mk_is9, mk_is10, mk_is11, mk_is12, mk_is13, mk_is14, mk_is15, mk_is16, L0, L1, L2, L3, L4, L5, L6, L7, L8, L9, L10, L12, L20, L22, L24, L26, L27, L28, L32, L40, L60, L73, L95, L97, L222, L240, L441, L442, L622, Lm1, Lmh, L11, L13, L14, L15, L16, L17, L18, L19, L21, L23, L25, L30, L31, L33, L36, L39, L41, L44, L48, L53, L54, L55, L57, L58, L59, L91, L93, L98, L99, L100, L105, L106, L112, L114, L115, L119, L122, L160, L180, L200, L255, L1440, L24880, L63, Lm2, pX10_spell, e1, h19, i1, Int.reduceEq]
