/-! the class: texts and words taken -/
theorem ClW.im0 {M : mm_M} {ax : Nat} {B : Int} {hi : Bool} {np cp ns : Nat} {d : Int64} {tp : List Int} {T : kT} {wd : List Int} {ps : List kT} {im : Option kT} {sc : List (List kS)} {rf : Nat → Int} {fw ff : Bool} (h : ClW M ax B hi np cp ns d tp T wd ps im sc rf fw ff) : ClW M ax B hi np cp ns d tp T wd ps none sc rf fw ff := by
  obtain ⟨c0, c1, c2, c3, c4, c5, c6, c7, c8, c9, c10, c11, c12, c13, c14, c15⟩ := h
  obtain ⟨I, i1, i2⟩ := c3
  exact ⟨c0, c1, c2, ⟨I, i1, fun J hJ => (by cases hJ)⟩, c4, c5, c6, c7, c8, c9, c10, c11, c12, c13, c14, c15⟩
theorem st_n {M : mm_M} {a : Nat} {B : Int} {T : kT} (h : St M a B T) : mm_gi 6 1 M a = some (iI T.1.length) ∧ T.1.length ≤ 10 := by
  obtain ⟨F, D, cc, C, ⟨hO, hLv, -, -, -⟩, e, -⟩ := h
  have cl : cc = T.1.length := by rw [e, lns_len]
  rw [← cl]
  exact ⟨gi_at hO.2.2 1 rfl, hO.1⟩
theorem k_fault {n : Nat} (hn : 300 ≤ n) {M : mm_M} {ax : Nat} {B : Int} {tp : List Int} {T : kT} {wd : List Int} {ps : List kT} {im : Option kT} {sc : List (List kS)} {rf : Nat → Int} (h : Cls M ax B tp T wd ps im sc rf) (hB : 0 ≤ B) {y : Int} (hy : sm y) : ∃ M', pX9_fault n M ax (iI y) = some (iI (fltK tp y), M') ∧ Cls M' ax B tp T wd ps im sc rf ∧ fr M M' ax 2875 := by
  obtain ⟨np, d, fw, ff, h⟩ := h
  unfold fltK
  by_cases y0 : y = 0
  · subst y0
    obtain ⟨M1, C, e1, h1, -, -, f1⟩ := c_stX hn h hB
    refine ⟨M1, ?_, ⟨np, d, fw, ff, h1⟩, f1⟩
    simp (disch := (first | assumption | (refine sm_of ?_ ?_ <;> omega) | fail)) only [iI_add, iI_sub, iI_mul, iI_neg, iI_lt, iI_le, iI_eq, b1_s, b2_s, ↓reduceIte, L0, L1, L2, L3, L4, L5, L6, L7, L8, L9, L10, L12, L20, L22, L24, L26, L27, L28, L32, L40, L60, L73, L95, L97, L222, L240, L441, L442, L622, Lm1, Lmh, L11, L13, L14, L15, L16, L17, L18, L19, L21, L23, L25, L30, L31, L33, L36, L39, L41, L44, L48, L53, L54, L55, L57, L58, L59, L91, L93, L98, L99, L100, L105, L106, L112, L114, L115, L119, L122, L160, L180, L200, L255, L1440, L24880, L63, Lm2, pX9_fault, h.1.all, e1]
  · by_cases y1 : y = 1
    · subst y1
      obtain ⟨M1, e1, h1, -, f1⟩ := c_scX hn h
      refine ⟨M1, ?_, ⟨np, d, fw, ff, h1⟩, f1⟩
      have l4 := h.2.2.2.2.2.2.2.2.2.2.2.2.2.2.2.1
      obtain ⟨f9, r1, r2⟩ := h.2.2.2.2.2.2.2.2.2.1
      have ra := ra_at r1 (i := (sc.length : Int)) (by omega) (by omega) (by omega) (sm_of (by omega) (by omega))
      rw [Int.toNat_natCast, r2 _ (by omega)] at ra
      simp (disch := (first | assumption | (refine sm_of ?_ ?_ <;> omega) | fail)) only [iI_add, iI_sub, iI_mul, iI_neg, iI_lt, iI_le, iI_eq, b1_s, b2_s, ↓reduceIte, L0, L1, L2, L3, L4, L5, L6, L7, L8, L9, L10, L12, L20, L22, L24, L26, L27, L28, L32, L40, L60, L73, L95, L97, L222, L240, L441, L442, L622, Lm1, Lmh, L11, L13, L14, L15, L16, L17, L18, L19, L21, L23, L25, L30, L31, L33, L36, L39, L41, L44, L48, L53, L54, L55, L57, L58, L59, L91, L93, L98, L99, L100, L105, L106, L112, L114, L115, L119, L122, L160, L180, L200, L255, L1440, L24880, L63, Lm2, pX9_fault, h.1.all, Int.reduceEq, ra, e1]
    · by_cases y2 : y = 2
      · subst y2
        obtain ⟨M1, e1, h1, -, f1⟩ := c_row hn h (most := 20) (by omega)
        have e1 : pX8_rowFault n M (ax + 1) (ax + 132) (iI 20) = _ := e1
        refine ⟨M1, ?_, ⟨np, d, fw, ff, h1⟩, f1⟩
        simp (disch := (first | assumption | (refine sm_of ?_ ?_ <;> omega) | fail)) only [iI_add, iI_sub, iI_mul, iI_neg, iI_lt, iI_le, iI_eq, b1_s, b2_s, ↓reduceIte, L0, L1, L2, L3, L4, L5, L6, L7, L8, L9, L10, L12, L20, L22, L24, L26, L27, L28, L32, L40, L60, L73, L95, L97, L222, L240, L441, L442, L622, Lm1, Lmh, L11, L13, L14, L15, L16, L17, L18, L19, L21, L23, L25, L30, L31, L33, L36, L39, L41, L44, L48, L53, L54, L55, L57, L58, L59, L91, L93, L98, L99, L100, L105, L106, L112, L114, L115, L119, L122, L160, L180, L200, L255, L1440, L24880, L63, Lm2, pX9_fault, h.1.all, Int.reduceEq, e1]
      · by_cases y3 : y = 3
        · subst y3
          obtain ⟨M1, e1, h1, -, f1⟩ := c_row hn h (most := 6) (by omega)
          have e1 : pX8_rowFault n M (ax + 1) (ax + 132) (iI 6) = _ := e1
          refine ⟨M1, ?_, ⟨np, d, fw, ff, h1⟩, f1⟩
          simp (disch := (first | assumption | (refine sm_of ?_ ?_ <;> omega) | fail)) only [iI_add, iI_sub, iI_mul, iI_neg, iI_lt, iI_le, iI_eq, b1_s, b2_s, ↓reduceIte, L0, L1, L2, L3, L4, L5, L6, L7, L8, L9, L10, L12, L20, L22, L24, L26, L27, L28, L32, L40, L60, L73, L95, L97, L222, L240, L441, L442, L622, Lm1, Lmh, L11, L13, L14, L15, L16, L17, L18, L19, L21, L23, L25, L30, L31, L33, L36, L39, L41, L44, L48, L53, L54, L55, L57, L58, L59, L91, L93, L98, L99, L100, L105, L106, L112, L114, L115, L119, L122, L160, L180, L200, L255, L1440, L24880, L63, Lm2, pX9_fault, h.1.all, Int.reduceEq, e1]
        · refine ⟨M, ?_, ⟨np, d, fw, ff, h⟩, fr.rfl⟩
          simp (disch := (first | assumption | (refine sm_of ?_ ?_ <;> omega) | fail)) only [iI_add, iI_sub, iI_mul, iI_neg, iI_lt, iI_le, iI_eq, b1_s, b2_s, ↓reduceIte, L0, L1, L2, L3, L4, L5, L6, L7, L8, L9, L10, L12, L20, L22, L24, L26, L27, L28, L32, L40, L60, L73, L95, L97, L222, L240, L441, L442, L622, Lm1, Lmh, L11, L13, L14, L15, L16, L17, L18, L19, L21, L23, L25, L30, L31, L33, L36, L39, L41, L44, L48, L53, L54, L55, L57, L58, L59, L91, L93, L98, L99, L100, L105, L106, L112, L114, L115, L119, L122, L160, L180, L200, L255, L1440, L24880, L63, Lm2, pX9_fault, h.1.all, y0, y1, y2, y3]
theorem stF_bd {tp : List Int} (h : tp.length ≤ 240) : ∀ (r i : Nat), i ≤ tp.length → -1 ≤ (stF tp r i).1 ∧ (stF tp r i).1 ≤ 240 := by
  intro r
  induction r with
  | zero => intro i hi; simp only [stF]; omega
  | succ r ih =>
    intro i hi
    have g := rds_le (tp := tp) 20 i hi
    have s := skp_le (tp := tp) (i := (rds tp 20 i).2) g.1
    simp only [stF]
    by_cases c : (rds tp 20 i).1 = []
    · rw [if_pos c]; exact ⟨by show (-1 : Int) ≤ ((rds tp 20 i).2 : Int); omega, by show ((rds tp 20 i).2 : Int) ≤ 240; omega⟩
    · rw [if_neg c]
      by_cases e : pk tp (rds tp 20 i).2 = -1
      · rw [if_pos e]; exact ⟨by show (-1 : Int) ≤ -1; omega, by show (-1 : Int) ≤ 240; omega⟩
      · rw [if_neg e]
        have lt := tpk_lt (tp := tp) (i := (rds tp 20 i).2) e
        by_cases u : r = 0 ∨ pk tp (rds tp 20 i).2 ≠ 59
        · rw [if_pos u]; exact ⟨by show (-1 : Int) ≤ (skp tp (rds tp 20 i).2 : Int); omega, by show (skp tp (rds tp 20 i).2 : Int) ≤ 240; omega⟩
        · rw [if_neg u]; exact ih _ (by omega)
theorem k_text0 {n : Nat} (hn : 300 ≤ n) {M : mm_M} {ax : Nat} {B : Int} {tp : List Int} {T : kT} {wd : List Int} {ps : List kT} {im : Option kT} {sc : List (List kS)} {rf : Nat → Int} (h : Cls M ax B tp T wd ps im sc rf) (hB : 0 ≤ B) (h1 : (stF tp 8 0).1 = -1) : ∃ M' C, pX9_text n M ax (iI 0) = some (iI (stF tp 8 0).2.length, M') ∧ (∀ c, okU (C c) ∧ (C c).2.1 = 0) ∧ Cls M' ax B [] (numL (stF tp 8 0).2, ((stF tp 8 0).2.length : Int), C, []) [] [] none sc rf ∧ fr M M' ax 2875 := by
  obtain ⟨np, d, fw, ff, h⟩ := h
  obtain ⟨M1, C, e1, b1, s1, hC, f1⟩ := c_stX hn h hB
  have s1 := s1 h1
  rw [h1] at e1
  obtain ⟨M2, e2, t2, f2⟩ := tr_cut b1.2.1 (k := 0) (by omega)
  have e2 : mm_pi 8 1 M1 (ax + 1) (iI 0) = some M2 := e2
  rw [List.take_zero] at t2
  have b2 := b1.s1 f2 (by omega) t2
  obtain ⟨M3, e3, s3, f3⟩ := t_copy (n := n) (by omega) b2.2.2.2.2.2.2.2.2.2.2.2.1 (s1.fr f2 (by omega)) (by omega)
  have b3 := b2.raw.s11 f3 (by omega) s3
  obtain ⟨M4, e4, s4, f4⟩ := sg_cut b3.w5 (p := 0) (by omega)
  have e4 : mm_pi 5 1 M3 (ax + 128) (iI 0) = some M4 := e4
  rw [List.take_zero] at s4
  have b4 := b3.s5 f4 (by omega) s4
  obtain ⟨M5, e5, s5, f5⟩ := co_p7 b4.co 0
  have e5 : mm_pi 9 7 M4 ax (iI 0) = some M5 := e5
  have b5 := b4.s0 (ps' := []) f5 (by omega) s5 (fun z => ⟨z.1, by simp, z.2.2.1, fun i hi => by simp at hi⟩)
  obtain ⟨M6, e6, s6, f6⟩ := co_p4 b5.co false
  have b6 := b5.s0 f6 (by omega) s6 (fun z => z)
  obtain ⟨M7, e7, b7, f7⟩ := c_forgetR (n := n) b6
  have gn := (st_n b7.2.2.2.2.2.2.2.2.2.2.2.1).1
  have gn : mm_gi 6 1 M7 (ax + 139) = some (iI (numL (stF tp 8 0).2).length) := gn
  rw [numL_len] at gn
  rw [bI_f] at e6
  refine ⟨M7, C, ?_, hC, ⟨np, d, false, false, b7.im0⟩, (((((f1.trans (f2.mono (by omega) (by omega))).trans (f3.mono (by omega) (by omega))).trans (f4.mono (by omega) (by omega))).trans (f5.mono (by omega) (by omega))).trans (f6.mono (by omega) (by omega))).trans (f7.mono (by omega) (by omega))⟩
  have ts : pX9_takeStore n M ax = some (iI (stF tp 8 0).2.length, M7) := by
    simp (disch := (first | assumption | (refine sm_of ?_ ?_ <;> omega) | fail)) only [iI_add, iI_sub, iI_mul, iI_neg, iI_lt, iI_le, iI_eq, b1_s, b2_s, ↓reduceIte, L0, L1, L2, L3, L4, L5, L6, L7, L8, L9, L10, L12, L20, L22, L24, L26, L27, L28, L32, L40, L60, L73, L95, L97, L222, L240, L441, L442, L622, Lm1, Lmh, L11, L13, L14, L15, L16, L17, L18, L19, L21, L23, L25, L30, L31, L33, L36, L39, L41, L44, L48, L53, L54, L55, L57, L58, L59, L91, L93, L98, L99, L100, L105, L106, L112, L114, L115, L119, L122, L160, L180, L200, L255, L1440, L24880, L63, Lm2, pX9_takeStore, h.1.all, e1, b1.1.all, e2, b2.1.all, e3, b3.co.all, e4, e5, e6, e7, b7.1.all, gn]
  simp (disch := (first | assumption | (refine sm_of ?_ ?_ <;> omega) | fail)) only [iI_add, iI_sub, iI_mul, iI_neg, iI_lt, iI_le, iI_eq, b1_s, b2_s, ↓reduceIte, L0, L1, L2, L3, L4, L5, L6, L7, L8, L9, L10, L12, L20, L22, L24, L26, L27, L28, L32, L40, L60, L73, L95, L97, L222, L240, L441, L442, L622, Lm1, Lmh, L11, L13, L14, L15, L16, L17, L18, L19, L21, L23, L25, L30, L31, L33, L36, L39, L41, L44, L48, L53, L54, L55, L57, L58, L59, L91, L93, L98, L99, L100, L105, L106, L112, L114, L115, L119, L122, L160, L180, L200, L255, L1440, L24880, L63, Lm2, pX9_text, h.1.all, ts]
theorem k_text0F {n : Nat} (hn : 300 ≤ n) {M : mm_M} {ax : Nat} {B : Int} {tp : List Int} {T : kT} {wd : List Int} {ps : List kT} {im : Option kT} {sc : List (List kS)} {rf : Nat → Int} (h : Cls M ax B tp T wd ps im sc rf) (hB : 0 ≤ B) (h1 : (stF tp 8 0).1 ≠ -1) : ∃ M', pX9_text n M ax (iI 0) = some (iI (-1), M') ∧ Cls M' ax B tp T wd ps im sc rf ∧ fr M M' ax 2875 := by
  obtain ⟨np, d, fw, ff, h⟩ := h
  obtain ⟨M1, C, e1, b1, s1, hC, f1⟩ := c_stX hn h hB
  have bb := stF_bd h.2.1.1 8 0 (by omega)
  refine ⟨M1, ?_, ⟨np, d, fw, ff, b1⟩, f1⟩
  have ts : pX9_takeStore n M ax = some (iI (-1), M1) := by
    simp (disch := (first | assumption | (refine sm_of ?_ ?_ <;> omega) | fail)) only [iI_add, iI_sub, iI_mul, iI_neg, iI_lt, iI_le, iI_eq, b1_s, b2_s, ↓reduceIte, L0, L1, L2, L3, L4, L5, L6, L7, L8, L9, L10, L12, L20, L22, L24, L26, L27, L28, L32, L40, L60, L73, L95, L97, L222, L240, L441, L442, L622, Lm1, Lmh, L11, L13, L14, L15, L16, L17, L18, L19, L21, L23, L25, L30, L31, L33, L36, L39, L41, L44, L48, L53, L54, L55, L57, L58, L59, L91, L93, L98, L99, L100, L105, L106, L112, L114, L115, L119, L122, L160, L180, L200, L255, L1440, L24880, L63, Lm2, pX9_takeStore, h.1.all, e1, h1]
  simp (disch := (first | assumption | (refine sm_of ?_ ?_ <;> omega) | fail)) only [iI_add, iI_sub, iI_mul, iI_neg, iI_lt, iI_le, iI_eq, b1_s, b2_s, ↓reduceIte, L0, L1, L2, L3, L4, L5, L6, L7, L8, L9, L10, L12, L20, L22, L24, L26, L27, L28, L32, L40, L60, L73, L95, L97, L222, L240, L441, L442, L622, Lm1, Lmh, L11, L13, L14, L15, L16, L17, L18, L19, L21, L23, L25, L30, L31, L33, L36, L39, L41, L44, L48, L53, L54, L55, L57, L58, L59, L91, L93, L98, L99, L100, L105, L106, L112, L114, L115, L119, L122, L160, L180, L200, L255, L1440, L24880, L63, Lm2, pX9_text, h.1.all, ts]
theorem tailF_le {tp : List Int} {s x y : Int} {p : Nat} (h : p ≤ tp.length) : (tailF tp s x y p).2.1 ≤ tp.length := by
  unfold tailF
  by_cases c : s = 0 ∨ s = 1 ∨ s = 4
  · rw [if_pos c]
    by_cases d : pk tp p ≠ 58
    · rw [if_pos d]; exact skp_le h
    · rw [if_neg d]
      have lt := tpk_lt (tp := tp) (i := p) (by omega)
      have g := rds_le (tp := tp) (if s = 4 then 6 else 20) (skp tp p + 1) (by omega)
      by_cases e : (rds tp (if s = 4 then 6 else 20) (skp tp p + 1)).1 = []
      · rw [if_pos e]; exact g.1
      · rw [if_neg e]; exact g.1
  · rw [if_neg c]; exact h
theorem stepF_le {tp : List Int} {i : Nat} (h : i ≤ tp.length) : (stepF tp i).2.1 ≤ tp.length := by
  unfold stepF
  by_cases c : srt (pk tp i) = -1
  · rw [if_pos c]; exact skp_le h
  · rw [if_neg c]
    have lt := tpk_lt (tp := tp) (i := i) (fun z => c (by rw [z]; decide))
    cases e : isDg (pk tp (skp tp i + 1))
    · rw [if_pos rfl]; exact skp_le (by omega)
    · rw [if_neg (by decide)]
      have e' := isDg_spec e
      have lt2 := tpk_lt (tp := tp) (i := skp tp i + 1) (by omega)
      unfold secF
      by_cases w : srt (pk tp i) = 3 ∨ srt (pk tp i) = 4 ∨ srt (pk tp i) = 7
      · rw [if_pos w]
        by_cases d : pk tp (skp tp (skp tp i + 1) + 1) ≠ 44
        · rw [if_pos d]; exact skp_le (by omega)
        · rw [if_neg d]
          have lt3 := tpk_lt (tp := tp) (i := skp tp (skp tp i + 1) + 1) (by omega)
          cases f : isDg (pk tp (skp tp (skp tp (skp tp i + 1) + 1) + 1))
          · rw [if_pos rfl]; exact skp_le (by omega)
          · rw [if_neg (by decide)]
            have f' := isDg_spec f
            have lt4 := tpk_lt (tp := tp) (i := skp tp (skp tp (skp tp i + 1) + 1) + 1) (by omega)
            exact tailF_le (by omega)
      · rw [if_neg w]; exact tailF_le (by omega)
theorem scF_bd {tp : List Int} (h : tp.length ≤ 240) : ∀ (r i : Nat), i ≤ tp.length → -1 ≤ (scF tp r i).1 ∧ (scF tp r i).1 ≤ 240 := by
  intro r
  induction r with
  | zero => intro i hi; simp only [scF]; omega
  | succ r ih =>
    intro i hi
    have g := stepF_le (tp := tp) hi
    have s := skp_le (tp := tp) (i := (stepF tp i).2.1) g
    simp only [scF]
    by_cases c : (stepF tp i).1 = false
    · rw [if_pos c]; exact ⟨by show (-1 : Int) ≤ ((stepF tp i).2.1 : Int); omega, by show ((stepF tp i).2.1 : Int) ≤ 240; omega⟩
    · rw [if_neg c]
      by_cases e : pk tp (stepF tp i).2.1 = -1
      · rw [if_pos e]; exact ⟨by show (-1 : Int) ≤ -1; omega, by show (-1 : Int) ≤ 240; omega⟩
      · rw [if_neg e]
        have lt := tpk_lt (tp := tp) (i := (stepF tp i).2.1) e
        by_cases u : r = 0 ∨ pk tp (stepF tp i).2.1 ≠ 59
        · rw [if_pos u]; exact ⟨by show (-1 : Int) ≤ (skp tp (stepF tp i).2.1 : Int); omega, by show (skp tp (stepF tp i).2.1 : Int) ≤ 240; omega⟩
        · rw [if_neg u]; exact ih _ (by omega)
theorem k_text1 {n : Nat} (hn : 300 ≤ n) {M : mm_M} {ax : Nat} {B : Int} {tp : List Int} {T : kT} {wd : List Int} {ps : List kT} {im : Option kT} {sc : List (List kS)} {rf : Nat → Int} (h : Cls M ax B tp T wd ps im sc rf) : ∃ M', pX9_text n M ax (iI 1) = some (iI (if sc.length < 4 ∧ (scF tp 12 0).1 = -1 then (sc.length : Int) else -1), M') ∧ (if sc.length < 4 ∧ (scF tp 12 0).1 = -1 then Cls M' ax B [] T wd ps im (sc ++ [(scF tp 12 0).2]) rf else Cls M' ax B tp T wd ps im sc rf) ∧ fr M M' ax 2875 := by
  obtain ⟨np, d, fw, ff, h⟩ := h
  have l4 := h.2.2.2.2.2.2.2.2.2.2.2.2.2.2.2.1
  obtain ⟨f9, r1, r2⟩ := h.2.2.2.2.2.2.2.2.2.1
  have ra := ra_at r1 (i := (sc.length : Int)) (by omega) (by omega) (by omega) (sm_of (by omega) (by omega))
  rw [Int.toNat_natCast, r2 _ (by omega)] at ra
  by_cases c4 : sc.length < 4
  · obtain ⟨M1, e1, b1, s1, f1⟩ := c_scX hn h
    have bb := scF_bd h.2.1.1 12 0 (by omega)
    by_cases c : (scF tp 12 0).1 = -1
    · simp only [if_pos (show sc.length < 4 ∧ (scF tp 12 0).1 = -1 from ⟨c4, c⟩)]
      have s1 := s1 c c4
      rw [c] at e1
      obtain ⟨M2, e2, t2, f2⟩ := tr_cut s1.2.1 (k := 0) (by omega)
      have e2 : mm_pi 8 1 M1 (ax + 1) (iI 0) = some M2 := e2
      rw [List.take_zero] at t2
      have b2 := s1.s1 f2 (by omega) t2
      obtain ⟨M3, e3, s3, f3⟩ := co_p13 b2.1 (sc.length + 1)
      have b3 := b2.s0 f3 (by omega) s3 (fun z => z)
      rw [show ((sc.length + 1 : Nat) : Int) = (sc.length : Int) + 1 by omega] at e3
      have gi3 : mm_gi 9 13 M3 ax = some (iI ((sc.length : Int) + 1)) := gi_at s3 13 rfl
      refine ⟨M3, ?_, ⟨np, d, fw, ff, by rw [List.length_append]; exact b3⟩, (f1.trans (f2.mono (by omega) (by omega))).trans (f3.mono (by omega) (by omega))⟩
      have ts : pX9_takeScript n M ax = some (iI sc.length, M3) := by
        simp (disch := (first | assumption | (refine sm_of ?_ ?_ <;> omega) | fail)) only [iI_add, iI_sub, iI_mul, iI_neg, iI_lt, iI_le, iI_eq, b1_s, b2_s, ↓reduceIte, L0, L1, L2, L3, L4, L5, L6, L7, L8, L9, L10, L12, L20, L22, L24, L26, L27, L28, L32, L40, L60, L73, L95, L97, L222, L240, L441, L442, L622, Lm1, Lmh, L11, L13, L14, L15, L16, L17, L18, L19, L21, L23, L25, L30, L31, L33, L36, L39, L41, L44, L48, L53, L54, L55, L57, L58, L59, L91, L93, L98, L99, L100, L105, L106, L112, L114, L115, L119, L122, L160, L180, L200, L255, L1440, L24880, L63, Lm2, pX9_takeScript, h.1.all, show ¬ (4 : Int) ≤ sc.length by omega, ra, e1, b1.1.all, e2, b2.1.all, e3, gi3]
        rw [show (sc.length : Int) + 1 - 1 = sc.length by omega]
      simp (disch := (first | assumption | (refine sm_of ?_ ?_ <;> omega) | fail)) only [iI_add, iI_sub, iI_mul, iI_neg, iI_lt, iI_le, iI_eq, b1_s, b2_s, ↓reduceIte, L0, L1, L2, L3, L4, L5, L6, L7, L8, L9, L10, L12, L20, L22, L24, L26, L27, L28, L32, L40, L60, L73, L95, L97, L222, L240, L441, L442, L622, Lm1, Lmh, L11, L13, L14, L15, L16, L17, L18, L19, L21, L23, L25, L30, L31, L33, L36, L39, L41, L44, L48, L53, L54, L55, L57, L58, L59, L91, L93, L98, L99, L100, L105, L106, L112, L114, L115, L119, L122, L160, L180, L200, L255, L1440, L24880, L63, Lm2, pX9_text, h.1.all, Int.reduceEq, ts]
    · simp only [if_neg (show ¬ (sc.length < 4 ∧ (scF tp 12 0).1 = -1) from fun z => c z.2)]
      refine ⟨M1, ?_, ⟨np, d, fw, ff, b1⟩, f1⟩
      have ts : pX9_takeScript n M ax = some (iI (-1), M1) := by
        simp (disch := (first | assumption | (refine sm_of ?_ ?_ <;> omega) | fail)) only [iI_add, iI_sub, iI_mul, iI_neg, iI_lt, iI_le, iI_eq, b1_s, b2_s, ↓reduceIte, L0, L1, L2, L3, L4, L5, L6, L7, L8, L9, L10, L12, L20, L22, L24, L26, L27, L28, L32, L40, L60, L73, L95, L97, L222, L240, L441, L442, L622, Lm1, Lmh, L11, L13, L14, L15, L16, L17, L18, L19, L21, L23, L25, L30, L31, L33, L36, L39, L41, L44, L48, L53, L54, L55, L57, L58, L59, L91, L93, L98, L99, L100, L105, L106, L112, L114, L115, L119, L122, L160, L180, L200, L255, L1440, L24880, L63, Lm2, pX9_takeScript, h.1.all, show ¬ (4 : Int) ≤ sc.length by omega, ra, e1, c]
      simp (disch := (first | assumption | (refine sm_of ?_ ?_ <;> omega) | fail)) only [iI_add, iI_sub, iI_mul, iI_neg, iI_lt, iI_le, iI_eq, b1_s, b2_s, ↓reduceIte, L0, L1, L2, L3, L4, L5, L6, L7, L8, L9, L10, L12, L20, L22, L24, L26, L27, L28, L32, L40, L60, L73, L95, L97, L222, L240, L441, L442, L622, Lm1, Lmh, L11, L13, L14, L15, L16, L17, L18, L19, L21, L23, L25, L30, L31, L33, L36, L39, L41, L44, L48, L53, L54, L55, L57, L58, L59, L91, L93, L98, L99, L100, L105, L106, L112, L114, L115, L119, L122, L160, L180, L200, L255, L1440, L24880, L63, Lm2, pX9_text, h.1.all, Int.reduceEq, ts]
  · simp only [if_neg (show ¬ (sc.length < 4 ∧ (scF tp 12 0).1 = -1) from fun z => c4 z.1)]
    refine ⟨M, ?_, ⟨np, d, fw, ff, h⟩, fr.rfl⟩
    have ts : pX9_takeScript n M ax = some (iI (-1), M) := by
      simp (disch := (first | assumption | (refine sm_of ?_ ?_ <;> omega) | fail)) only [iI_add, iI_sub, iI_mul, iI_neg, iI_lt, iI_le, iI_eq, b1_s, b2_s, ↓reduceIte, L0, L1, L2, L3, L4, L5, L6, L7, L8, L9, L10, L12, L20, L22, L24, L26, L27, L28, L32, L40, L60, L73, L95, L97, L222, L240, L441, L442, L622, Lm1, Lmh, L11, L13, L14, L15, L16, L17, L18, L19, L21, L23, L25, L30, L31, L33, L36, L39, L41, L44, L48, L53, L54, L55, L57, L58, L59, L91, L93, L98, L99, L100, L105, L106, L112, L114, L115, L119, L122, L160, L180, L200, L255, L1440, L24880, L63, Lm2, pX9_takeScript, h.1.all, show (4 : Int) ≤ sc.length by omega]
    simp (disch := (first | assumption | (refine sm_of ?_ ?_ <;> omega) | fail)) only [iI_add, iI_sub, iI_mul, iI_neg, iI_lt, iI_le, iI_eq, b1_s, b2_s, ↓reduceIte, L0, L1, L2, L3, L4, L5, L6, L7, L8, L9, L10, L12, L20, L22, L24, L26, L27, L28, L32, L40, L60, L73, L95, L97, L222, L240, L441, L442, L622, Lm1, Lmh, L11, L13, L14, L15, L16, L17, L18, L19, L21, L23, L25, L30, L31, L33, L36, L39, L41, L44, L48, L53, L54, L55, L57, L58, L59, L91, L93, L98, L99, L100, L105, L106, L112, L114, L115, L119, L122, L160, L180, L200, L255, L1440, L24880, L63, Lm2, pX9_text, h.1.all, Int.reduceEq, ts]
theorem k_text2 {n : Nat} {M : mm_M} {ax : Nat} {B : Int} {tp : List Int} {T : kT} {wd : List Int} {ps : List kT} {im : Option kT} {sc : List (List kS)} {rf : Nat → Int} (h : Cls M ax B tp T wd ps im sc rf) {y : Int} (hy : sm y) (h0 : y ≠ 0) (h1 : y ≠ 1) : pX9_text n M ax (iI y) = some (iI (-1), M) := by
  obtain ⟨np, d, fw, ff, h⟩ := h
  simp (disch := (first | assumption | (refine sm_of ?_ ?_ <;> omega) | fail)) only [iI_add, iI_sub, iI_mul, iI_neg, iI_lt, iI_le, iI_eq, b1_s, b2_s, ↓reduceIte, L0, L1, L2, L3, L4, L5, L6, L7, L8, L9, L10, L12, L20, L22, L24, L26, L27, L28, L32, L40, L60, L73, L95, L97, L222, L240, L441, L442, L622, Lm1, Lmh, L11, L13, L14, L15, L16, L17, L18, L19, L21, L23, L25, L30, L31, L33, L36, L39, L41, L44, L48, L53, L54, L55, L57, L58, L59, L91, L93, L98, L99, L100, L105, L106, L112, L114, L115, L119, L122, L160, L180, L200, L255, L1440, L24880, L63, Lm2, pX9_text, h.1.all, h0, h1]
theorem k_word {n : Nat} (hn : 300 ≤ n) {M : mm_M} {ax : Nat} {B : Int} {tp : List Int} {T : kT} {wd : List Int} {ps : List kT} {im : Option kT} {sc : List (List kS)} {rf : Nat → Int} (h : Cls M ax B tp T wd ps im sc rf) (hI : Inv T wd ps im sc) : ∃ M', pX9_word n M ax = some (iI (if T.1.length = 0 ∨ rowF tp 6 ≠ -1 then -1 else ((hL T.1 (rds tp 6 0).1).length : Int)), M') ∧ (if T.1.length = 0 ∨ rowF tp 6 ≠ -1 then Cls M' ax B tp T wd ps im sc rf else Cls M' ax B [] T (rds tp 6 0).1 ps im sc rf) ∧ fr M M' ax 2875 := by
  obtain ⟨np, d, fw, ff, h⟩ := h
  have gn := st_n h.2.2.2.2.2.2.2.2.2.2.2.1
  have rb := rowF_bd h.2.1.1 6
  by_cases s0 : T.1.length = 0
  · simp only [if_pos (show T.1.length = 0 ∨ rowF tp 6 ≠ -1 from Or.inl s0)]
    refine ⟨M, ?_, ⟨np, d, fw, ff, h⟩, fr.rfl⟩
    simp (disch := (first | assumption | (refine sm_of ?_ ?_ <;> omega) | fail)) only [iI_add, iI_sub, iI_mul, iI_neg, iI_lt, iI_le, iI_eq, b1_s, b2_s, ↓reduceIte, L0, L1, L2, L3, L4, L5, L6, L7, L8, L9, L10, L12, L20, L22, L24, L26, L27, L28, L32, L40, L60, L73, L95, L97, L222, L240, L441, L442, L622, Lm1, Lmh, L11, L13, L14, L15, L16, L17, L18, L19, L21, L23, L25, L30, L31, L33, L36, L39, L41, L44, L48, L53, L54, L55, L57, L58, L59, L91, L93, L98, L99, L100, L105, L106, L112, L114, L115, L119, L122, L160, L180, L200, L255, L1440, L24880, L63, Lm2, pX9_word, h.1.all, gn.1, show ((T.1.length : Int) = 0) = True from eq_true (by omega)]
  · have s0' : ¬ (T.1.length : Int) = 0 := by omega
    have g10 := gn.2
    obtain ⟨M1, e1, b1, g1, f1⟩ := c_row hn h (most := 6) (by omega)
    have e1 : pX8_rowFault n M (ax + 1) (ax + 132) (iI 6) = _ := e1
    by_cases r : rowF tp 6 = -1
    · simp only [if_neg (show ¬ (T.1.length = 0 ∨ rowF tp 6 ≠ -1) from fun z => by rcases z with z | z; exact s0 z; exact z r)]
      rw [r] at e1
      obtain ⟨M2, e2, t2, f2⟩ := tr_cut b1.2.1 (k := 0) (by omega)
      have e2 : mm_pi 8 1 M1 (ax + 1) (iI 0) = some M2 := e2
      rw [List.take_zero] at t2
      have b2 := b1.s1 f2 (by omega) t2
      obtain ⟨M3, e3, s3, f3⟩ := sg_copy (n := n) b2.2.2.2.2.2.1 (g1.fr f2 (by omega)) (by omega)
      have b3 := b2.raw.s5 f3 (by omega) s3
      obtain ⟨M4, e4, b4, f4⟩ := c_forgetR (n := n) b3
      obtain ⟨M5, e5, b5, f5⟩ := c_rh hn b4 hI.1.1 hI.1.2.1
      have rn := (rs_n (c_rsw (fw := true) b5 hI.1.2.1)).1
      refine ⟨M5, ?_, ⟨np, d, true, false, b5⟩, (((f1.trans (f2.mono (by omega) (by omega))).trans (f3.mono (by omega) (by omega))).trans (f4.mono (by omega) (by omega))).trans f5⟩
      simp (disch := (first | assumption | (refine sm_of ?_ ?_ <;> omega) | fail)) only [iI_add, iI_sub, iI_mul, iI_neg, iI_lt, iI_le, iI_eq, b1_s, b2_s, ↓reduceIte, L0, L1, L2, L3, L4, L5, L6, L7, L8, L9, L10, L12, L20, L22, L24, L26, L27, L28, L32, L40, L60, L73, L95, L97, L222, L240, L441, L442, L622, Lm1, Lmh, L11, L13, L14, L15, L16, L17, L18, L19, L21, L23, L25, L30, L31, L33, L36, L39, L41, L44, L48, L53, L54, L55, L57, L58, L59, L91, L93, L98, L99, L100, L105, L106, L112, L114, L115, L119, L122, L160, L180, L200, L255, L1440, L24880, L63, Lm2, pX9_word, h.1.all, gn.1, s0', e1, b1.1.all, e2, b2.1.all, e3, e4, e5, rn]
    · simp only [if_pos (show T.1.length = 0 ∨ rowF tp 6 ≠ -1 from Or.inr r)]
      refine ⟨M1, ?_, ⟨np, d, fw, ff, b1⟩, f1⟩
      simp (disch := (first | assumption | (refine sm_of ?_ ?_ <;> omega) | fail)) only [iI_add, iI_sub, iI_mul, iI_neg, iI_lt, iI_le, iI_eq, b1_s, b2_s, ↓reduceIte, L0, L1, L2, L3, L4, L5, L6, L7, L8, L9, L10, L12, L20, L22, L24, L26, L27, L28, L32, L40, L60, L73, L95, L97, L222, L240, L441, L442, L622, Lm1, Lmh, L11, L13, L14, L15, L16, L17, L18, L19, L21, L23, L25, L30, L31, L33, L36, L39, L41, L44, L48, L53, L54, L55, L57, L58, L59, L91, L93, L98, L99, L100, L105, L106, L112, L114, L115, L119, L122, L160, L180, L200, L255, L1440, L24880, L63, Lm2, pX9_word, h.1.all, gn.1, s0', e1, r]
