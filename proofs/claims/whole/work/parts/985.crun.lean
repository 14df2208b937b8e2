/-! the class: scripts run and performed -/
theorem St.bnd {M : mm_M} {a : Nat} {B : Int} {T : kT} (h : St M a B T) : bnd T B := by
  obtain ⟨F, D, cc, C, -, -, -, -, e4, e5⟩ := h
  exact ⟨e4, fun c hc => (e5 c hc).1⟩
theorem drop_g {zs : List kS} {i : Nat} (h : i < zs.length) : zs.drop i = zs.getD i kS0 :: zs.drop (i + 1) := by
  rw [List.drop_eq_getElem_cons h, List.getD_eq_getElem?_getD, List.getElem?_eq_getElem h]; rfl
theorem zs_mem {zs : List kS} {i : Nat} (h : i < zs.length) : zs.getD i kS0 ∈ zs := by
  rw [List.getD_eq_getElem?_getD, List.getElem?_eq_getElem h]; exact List.getElem_mem h
theorem okZ.sx {z : kS} (h : okZ z) : sm z.2.1 ∧ sm z.2.2.1 := ⟨sm_of (by have := h.2.2.1; omega) (by have := h.2.2.2.1; omega), sm_of (by have := h.2.2.2.2.1; omega) (by have := h.2.2.2.2.2.1; omega)⟩
theorem c_scr {M : mm_M} {ax : Nat} {B : Int} {hi : Bool} {np cp ns : Nat} {d : Int64} {tp : List Int} {T : kT} {wd : List Int} {ps : List kT} {im : Option kT} {sc : List (List kS)} {rf : Nat → Int} {fw ff : Bool} (h : ClW M ax B hi np cp ns d tp T wd ps im sc rf fw ff) {s : Nat} (hs : s < sc.length) : Sc M (ax + 2685 + 38 * s) (sc.getD s []) ∧ s ≤ 3 := by
  have l4 := h.2.2.2.2.2.2.2.2.2.2.2.2.2.2.2.1
  exact ⟨h.2.2.2.2.2.2.2.2.2.2.2.2.2.2.2.2.2 s hs, by omega⟩
theorem sc_ra {M : mm_M} {s : Nat} {zs : List kS} (h : Sc M s zs) {i : Nat} (hi : i < zs.length) : mm_gr 4 0 M s = some (s + 1) ∧ mm_ra M (s + 1) (iI i) = some (s + 2 + 3 * i) := by
  obtain ⟨⟨-, ⟨f, q2, q3⟩, -⟩, l12, s1, -⟩ := h
  refine ⟨gr_at s1 0 rfl, ?_⟩
  rw [ra_at q2 (by omega) (by omega) (by omega) (sm_of (by omega) (by omega)), Int.toNat_natCast, q3 i (by omega)]
theorem c_runL {n : Nat} (hn : 300 ≤ n) {ax : Nat} {B : Int} {hi : Bool} {np cp ns : Nat} {d : Int64} {tp : List Int} {T : kT} {wd : List Int} {ps : List kT} {im : Option kT} {sc : List (List kS)} {rf : Nat → Int} {fw ff : Bool} (hB : B + 12 ≤ 5000000) {s : Nat} (hs : s < sc.length) (hz : ∀ z ∈ sc.getD s [], okZ z) {y : Int} (hy : y = 0 ∨ y = 1) : ∀ (k i : Nat) (M : mm_M) (T1 : kT), ClW M ax (B + 12) hi np cp ns d tp T wd ps im sc rf fw ff → St M (ax + 3) (B + i) T1 → i ≤ (sc.getD s []).length → (sc.getD s []).length < i + k → ∃ M1, pX9_run_l51 n k M ax (iI y) (ax + 2685 + 38 * s) (iI i) = some (iI (if y = 1 then (allS (runN T1 ((sc.getD s []).drop i)).2.1 : Int) else if i + (runN T1 ((sc.getD s []).drop i)).1 = (sc.getD s []).length then -1 else ((i + (runN T1 ((sc.getD s []).drop i)).1 : Nat) : Int)), M1) ∧ ClW M1 ax (B + 12) hi np cp ns d tp T wd ps im sc rf fw ff ∧ fr M M1 ax 2875 := by
  intro k
  induction k with
  | zero => intro i M T1 _ _ a b; omega
  | succ k ih =>
    intro i M T1 h hT i1 i2
    show ∃ M1, pX9_run_l51b n (pX9_run_l51 n k) M ax (iI y) (ax + 2685 + 38 * s) (iI i) = _ ∧ _
    obtain ⟨sv, s3⟩ := c_scr h hs
    have l12 := sv.2.1
    have gi1 := gi_at sv.2.2.1 1 rfl
    generalize hzs : sc.getD s [] = zs at *
    have al := t_all (n := n) (by omega) hT
    have b99 : ∀ j : Nat, j ≤ zs.length → j = i → pX9_run_b99 n M ax (iI y) (ax + 2685 + 38 * s) (iI j) = some (iI (if y = 1 then (allS T1.1 : Int) else if j = zs.length then -1 else (j : Int)), M) := by
      intro j j1 _
      rcases hy with rfl | rfl
      · rw [if_neg (by decide)]
        by_cases q : j = zs.length
        · rw [if_pos q]
          simp (disch := (first | assumption | (refine sm_of ?_ ?_ <;> omega) | fail)) only [iI_add, iI_sub, iI_mul, iI_neg, iI_lt, iI_le, iI_eq, b1_s, b2_s, ↓reduceIte, L0, L1, L2, L3, L4, L5, L6, L7, L8, L9, L10, L12, L20, L22, L24, L26, L27, L28, L32, L40, L60, L73, L95, L97, L222, L240, L441, L442, L622, Lm1, Lmh, L11, L13, L14, L15, L16, L17, L18, L19, L21, L23, L25, L30, L31, L33, L36, L39, L41, L44, L48, L53, L54, L55, L57, L58, L59, L91, L93, L98, L99, L100, L105, L106, L112, L114, L115, L119, L122, L160, L180, L200, L255, L1440, L24880, L63, Lm2, pX9_run_b99, Int.reduceEq, gi1, show ((j : Int) = zs.length) = True from eq_true (by omega)]
        · rw [if_neg q]
          simp (disch := (first | assumption | (refine sm_of ?_ ?_ <;> omega) | fail)) only [iI_add, iI_sub, iI_mul, iI_neg, iI_lt, iI_le, iI_eq, b1_s, b2_s, ↓reduceIte, L0, L1, L2, L3, L4, L5, L6, L7, L8, L9, L10, L12, L20, L22, L24, L26, L27, L28, L32, L40, L60, L73, L95, L97, L222, L240, L441, L442, L622, Lm1, Lmh, L11, L13, L14, L15, L16, L17, L18, L19, L21, L23, L25, L30, L31, L33, L36, L39, L41, L44, L48, L53, L54, L55, L57, L58, L59, L91, L93, L98, L99, L100, L105, L106, L112, L114, L115, L119, L122, L160, L180, L200, L255, L1440, L24880, L63, Lm2, pX9_run_b99, Int.reduceEq, gi1, show ¬ (j : Int) = zs.length by omega]
      · rw [if_pos rfl]
        simp (disch := (first | assumption | (refine sm_of ?_ ?_ <;> omega) | fail)) only [iI_add, iI_sub, iI_mul, iI_neg, iI_lt, iI_le, iI_eq, b1_s, b2_s, ↓reduceIte, L0, L1, L2, L3, L4, L5, L6, L7, L8, L9, L10, L12, L20, L22, L24, L26, L27, L28, L32, L40, L60, L73, L95, L97, L222, L240, L441, L442, L622, Lm1, Lmh, L11, L13, L14, L15, L16, L17, L18, L19, L21, L23, L25, L30, L31, L33, L36, L39, L41, L44, L48, L53, L54, L55, L57, L58, L59, L91, L93, L98, L99, L100, L105, L106, L112, L114, L115, L119, L122, L160, L180, L200, L255, L1440, L24880, L63, Lm2, pX9_run_b99, h.1.all, al]
    have b99 := b99 i i1 rfl
    by_cases dd : (zs.length : Int) ≤ i
    · have e0 : zs.drop i = [] := List.drop_eq_nil_of_le (by omega)
      rw [e0]
      refine ⟨M, ?_, h, fr.rfl⟩
      simp (disch := (first | assumption | (refine sm_of ?_ ?_ <;> omega) | fail)) only [iI_add, iI_sub, iI_mul, iI_neg, iI_lt, iI_le, iI_eq, b1_s, b2_s, ↓reduceIte, L0, L1, L2, L3, L4, L5, L6, L7, L8, L9, L10, L12, L20, L22, L24, L26, L27, L28, L32, L40, L60, L73, L95, L97, L222, L240, L441, L442, L622, Lm1, Lmh, L11, L13, L14, L15, L16, L17, L18, L19, L21, L23, L25, L30, L31, L33, L36, L39, L41, L44, L48, L53, L54, L55, L57, L58, L59, L91, L93, L98, L99, L100, L105, L106, L112, L114, L115, L119, L122, L160, L180, L200, L255, L1440, L24880, L63, Lm2, pX9_run_l51b, gi1, dd]
      rw [b99]
      rfl
    · have hi' : i < zs.length := by omega
      rw [drop_g hi']
      have zo := hz _ (zs_mem hi')
      have sp := sv.2.2.2 i hi'
      obtain ⟨g0, ra⟩ := sc_ra sv hi'
      generalize zs.getD i kS0 = z at *
      have re := t_refuse (n := n) (by omega) hT sp ⟨zo.1, zo.2.1⟩ zo.sx.1 zo.sx.2
      have wb := whyK_bd T1.1 T1.2.2.1 z.1 z.2.1 z.2.2.1 z.2.2.2
      simp only [runN]
      by_cases w : whyK T1.1 T1.2.2.1 z.1 z.2.1 z.2.2.1 z.2.2.2 = -1
      · simp only [if_pos w]
        rw [w] at re
        obtain ⟨M1, e1, s1, f1⟩ := t_do (n := n) (by omega) hT sp ⟨zo.1, zo.2.1⟩ (by omega) (by omega) w
        rw [show B + (i : Int) + 1 = B + ((i + 1 : Nat) : Int) by omega] at s1
        have b1 := h.s2 f1 (by omega) ⟨_, s1.mono (by omega) hB⟩
        obtain ⟨M2, e2, b2, f2⟩ := ih (i + 1) M1 _ b1 s1 (by omega) (by omega)
        refine ⟨M2, ?_, b2, (f1.mono (by omega) (by omega)).trans f2⟩
        rw [show i + 1 + (runN (aft T1 z.1 z.2.1 z.2.2.1 z.2.2.2) (zs.drop (i + 1))).1 = i + ((runN (aft T1 z.1 z.2.1 z.2.2.1 z.2.2.2) (zs.drop (i + 1))).1 + 1) by omega] at e2
        simp (disch := (first | assumption | (refine sm_of ?_ ?_ <;> omega) | fail)) only [iI_add, iI_sub, iI_mul, iI_neg, iI_lt, iI_le, iI_eq, b1_s, b2_s, ↓reduceIte, L0, L1, L2, L3, L4, L5, L6, L7, L8, L9, L10, L12, L20, L22, L24, L26, L27, L28, L32, L40, L60, L73, L95, L97, L222, L240, L441, L442, L622, Lm1, Lmh, L11, L13, L14, L15, L16, L17, L18, L19, L21, L23, L25, L30, L31, L33, L36, L39, L41, L44, L48, L53, L54, L55, L57, L58, L59, L91, L93, L98, L99, L100, L105, L106, L112, L114, L115, L119, L122, L160, L180, L200, L255, L1440, L24880, L63, Lm2, pX9_run_l51b, gi1, dd, h.1.all, g0, ra, re, e1]
        rw [show ((i : Int) + 1) = ((i + 1 : Nat) : Int) by omega]
        exact e2
      · simp only [if_neg w]
        refine ⟨M, ?_, h, fr.rfl⟩
        simp (disch := (first | assumption | (refine sm_of ?_ ?_ <;> omega) | fail)) only [iI_add, iI_sub, iI_mul, iI_neg, iI_lt, iI_le, iI_eq, b1_s, b2_s, ↓reduceIte, L0, L1, L2, L3, L4, L5, L6, L7, L8, L9, L10, L12, L20, L22, L24, L26, L27, L28, L32, L40, L60, L73, L95, L97, L222, L240, L441, L442, L622, Lm1, Lmh, L11, L13, L14, L15, L16, L17, L18, L19, L21, L23, L25, L30, L31, L33, L36, L39, L41, L44, L48, L53, L54, L55, L57, L58, L59, L91, L93, L98, L99, L100, L105, L106, L112, L114, L115, L119, L122, L160, L180, L200, L255, L1440, L24880, L63, Lm2, pX9_run_l51b, gi1, dd, h.1.all, g0, ra, re, w]
        rw [b99]
        rfl
theorem k_run {n : Nat} (hn : 300 ≤ n) {M : mm_M} {ax : Nat} {B : Int} {tp : List Int} {T : kT} {wd : List Int} {ps : List kT} {im : Option kT} {sc : List (List kS)} {rf : Nat → Int} (h : Cls M ax B tp T wd ps im sc rf) (hI : Inv T wd ps im sc) (hB : B + 12 ≤ 5000000) {x y : Int} (hx : sm x) (hy : sm y) : ∃ M', pX9_run n M ax (iI x) (iI y) = some (iI (runK T sc x y), M') ∧ Cls M' ax (B + 12) tp T wd ps im sc rf ∧ fr M M' ax 2875 := by
  obtain ⟨np, d, fw, ff, h⟩ := h
  have l4 := h.2.2.2.2.2.2.2.2.2.2.2.2.2.2.2.1
  have hs := c_hasS (n := n) h l4 hx
  obtain ⟨gn, g10⟩ := st_n h.2.2.2.2.2.2.2.2.2.2.2.1
  have hm := h.mono (show B ≤ B + 12 by omega) hB
  unfold runK
  by_cases g : 0 ≤ x ∧ x < sc.length
  · rw [decide_eq_true g] at hs
    obtain ⟨k, rfl⟩ := Int.eq_ofNat_of_zero_le g.1
    rw [Int.toNat_natCast]
    by_cases t0 : T.1.length = 0
    · rw [if_neg (fun z => z.2.2.1 t0)]
      refine ⟨M, ?_, ⟨np, d, fw, ff, hm⟩, fr.rfl⟩
      simp (disch := (first | assumption | (refine sm_of ?_ ?_ <;> omega) | fail)) only [iI_add, iI_sub, iI_mul, iI_neg, iI_lt, iI_le, iI_eq, b1_s, b2_s, ↓reduceIte, L0, L1, L2, L3, L4, L5, L6, L7, L8, L9, L10, L12, L20, L22, L24, L26, L27, L28, L32, L40, L60, L73, L95, L97, L222, L240, L441, L442, L622, Lm1, Lmh, L11, L13, L14, L15, L16, L17, L18, L19, L21, L23, L25, L30, L31, L33, L36, L39, L41, L44, L48, L53, L54, L55, L57, L58, L59, L91, L93, L98, L99, L100, L105, L106, L112, L114, L115, L119, L122, L160, L180, L200, L255, L1440, L24880, L63, Lm2, pX9_run, h.1.all, hs, bI_t, Int.reduceEq, gn, show ((T.1.length : Int) = 0) = True from eq_true (by omega)]
    · have t0' : ¬ (T.1.length : Int) = 0 := by omega
      by_cases y0 : 0 ≤ y ∧ y ≤ 1
      · rw [if_pos ⟨g.1, g.2, t0, y0.1, y0.2⟩]
        obtain ⟨f9, r1, r2⟩ := h.2.2.2.2.2.2.2.2.2.1
        have ra := ra_at r1 (i := (k : Int)) (by omega) (by omega) (by omega) (sm_of (by omega) (by omega))
        rw [Int.toNat_natCast, r2 _ (by omega)] at ra
        obtain ⟨T0, s0⟩ := h.2.2.1
        obtain ⟨M1, e1, s1, f1⟩ := t_copy (n := n) (by omega) s0 h.2.2.2.2.2.2.2.2.2.2.2.1 (by omega)
        have b1 := hm.s2 f1 (by omega) ⟨_, s1.mono (show B ≤ B + 12 by omega) hB⟩
        have sl := (c_scr h (s := k) (by omega)).1.2.1
        obtain ⟨M2, e2, b2, f2⟩ := c_runL hn hB (s := k) (by omega) (hI.2.2.2.2.2.2 k (by omega)) (y := y) (by omega) n 0 M1 T b1 (by simpa using s1) (by omega) (by omega)
        have e2 : pX9_run_l51 n n M1 ax (iI y) (ax + 2685 + 38 * k) (iI 0) = _ := e2
        rw [List.drop_zero, Nat.zero_add] at e2
        refine ⟨M2, ?_, ⟨np, d, fw, ff, b2⟩, (f1.mono (by omega) (by omega)).trans f2⟩
        simp (disch := (first | assumption | (refine sm_of ?_ ?_ <;> omega) | fail)) only [iI_add, iI_sub, iI_mul, iI_neg, iI_lt, iI_le, iI_eq, b1_s, b2_s, ↓reduceIte, L0, L1, L2, L3, L4, L5, L6, L7, L8, L9, L10, L12, L20, L22, L24, L26, L27, L28, L32, L40, L60, L73, L95, L97, L222, L240, L441, L442, L622, Lm1, Lmh, L11, L13, L14, L15, L16, L17, L18, L19, L21, L23, L25, L30, L31, L33, L36, L39, L41, L44, L48, L53, L54, L55, L57, L58, L59, L91, L93, L98, L99, L100, L105, L106, L112, L114, L115, L119, L122, L160, L180, L200, L255, L1440, L24880, L63, Lm2, pX9_run, h.1.all, hs, bI_t, Int.reduceEq, gn, t0', show ¬ y < 0 by omega, y0.2, ra, e1]
        exact e2
      · rw [if_neg (fun z => y0 ⟨z.2.2.2.1, z.2.2.2.2⟩)]
        refine ⟨M, ?_, ⟨np, d, fw, ff, hm⟩, fr.rfl⟩
        by_cases y1 : y < 0
        · simp (disch := (first | assumption | (refine sm_of ?_ ?_ <;> omega) | fail)) only [iI_add, iI_sub, iI_mul, iI_neg, iI_lt, iI_le, iI_eq, b1_s, b2_s, ↓reduceIte, L0, L1, L2, L3, L4, L5, L6, L7, L8, L9, L10, L12, L20, L22, L24, L26, L27, L28, L32, L40, L60, L73, L95, L97, L222, L240, L441, L442, L622, Lm1, Lmh, L11, L13, L14, L15, L16, L17, L18, L19, L21, L23, L25, L30, L31, L33, L36, L39, L41, L44, L48, L53, L54, L55, L57, L58, L59, L91, L93, L98, L99, L100, L105, L106, L112, L114, L115, L119, L122, L160, L180, L200, L255, L1440, L24880, L63, Lm2, pX9_run, h.1.all, hs, bI_t, Int.reduceEq, gn, t0', y1]
        · simp (disch := (first | assumption | (refine sm_of ?_ ?_ <;> omega) | fail)) only [iI_add, iI_sub, iI_mul, iI_neg, iI_lt, iI_le, iI_eq, b1_s, b2_s, ↓reduceIte, L0, L1, L2, L3, L4, L5, L6, L7, L8, L9, L10, L12, L20, L22, L24, L26, L27, L28, L32, L40, L60, L73, L95, L97, L222, L240, L441, L442, L622, Lm1, Lmh, L11, L13, L14, L15, L16, L17, L18, L19, L21, L23, L25, L30, L31, L33, L36, L39, L41, L44, L48, L53, L54, L55, L57, L58, L59, L91, L93, L98, L99, L100, L105, L106, L112, L114, L115, L119, L122, L160, L180, L200, L255, L1440, L24880, L63, Lm2, pX9_run, h.1.all, hs, bI_t, Int.reduceEq, gn, t0', y1, show ¬ y ≤ 1 by omega]
  · rw [decide_eq_false g] at hs
    rw [if_neg (fun z => g ⟨z.1, z.2.1⟩)]
    refine ⟨M, ?_, ⟨np, d, fw, ff, hm⟩, fr.rfl⟩
    simp (disch := (first | assumption | (refine sm_of ?_ ?_ <;> omega) | fail)) only [iI_add, iI_sub, iI_mul, iI_neg, iI_lt, iI_le, iI_eq, b1_s, b2_s, ↓reduceIte, L0, L1, L2, L3, L4, L5, L6, L7, L8, L9, L10, L12, L20, L22, L24, L26, L27, L28, L32, L40, L60, L73, L95, L97, L222, L240, L441, L442, L622, Lm1, Lmh, L11, L13, L14, L15, L16, L17, L18, L19, L21, L23, L25, L30, L31, L33, L36, L39, L41, L44, L48, L53, L54, L55, L57, L58, L59, L91, L93, L98, L99, L100, L105, L106, L112, L114, L115, L119, L122, L160, L180, L200, L255, L1440, L24880, L63, Lm2, pX9_run, h.1.all, hs, bI_f]
theorem c_perL {n : Nat} (hn : 300 ≤ n) {ax : Nat} {hi : Bool} {ns : Nat} {d : Int64} {tp : List Int} {wd : List Int} {im : Option kT} {sc : List (List kS)} {rf : Nat → Int} {s : Nat} (hs : s < sc.length) (hz : ∀ z ∈ sc.getD s [], okZ z) : ∀ (k i : Nat) (M : mm_M) (B : Int) (T : kT) (ps : List kT) (np : Nat) (fw ff : Bool), ClW M ax B hi np ps.length ns d tp T wd ps im sc rf fw ff → okT T → T.1.length ≠ 0 → (∀ P ∈ ps, okT P ∧ P.1.length ≠ 0) → 0 ≤ B → B + 2 * ((sc.getD s []).length - i : Nat) ≤ 5000000 → i ≤ (sc.getD s []).length → (sc.getD s []).length < i + k → ∃ M1 np' fw' ff', pX9_perform_l29 n k M ax (ax + 2685 + 38 * s) (iI i) = some (iI ((i + (perN T ps ((sc.getD s []).drop i)).1 : Nat) : Int), M1) ∧ ClW M1 ax (B + 2 * ((sc.getD s []).length - i : Nat)) hi np' (perN T ps ((sc.getD s []).drop i)).2.2.length ns d tp (perN T ps ((sc.getD s []).drop i)).2.1 wd (perN T ps ((sc.getD s []).drop i)).2.2 im sc rf fw' ff' ∧ fr M M1 ax 2875 := by
  intro k
  induction k with
  | zero => intro i M B T ps np fw ff _ _ _ _ _ _ a b; omega
  | succ k ih =>
    intro i M B T ps np fw ff h ho hne hp hB0 hB i1 i2
    show ∃ M1 np' fw' ff', pX9_perform_l29b n (pX9_perform_l29 n k) M ax (ax + 2685 + 38 * s) (iI i) = _ ∧ _
    obtain ⟨sv, s3⟩ := c_scr h hs
    have l12 := sv.2.1
    have gi1 := gi_at sv.2.2.1 1 rfl
    generalize hzs : sc.getD s [] = zs at *
    by_cases dd : (zs.length : Int) ≤ i
    · have e0 : zs.drop i = [] := List.drop_eq_nil_of_le (by omega)
      rw [e0]
      refine ⟨M, np, fw, ff, ?_, h.mono (by omega) (by omega), fr.rfl⟩
      simp (disch := (first | assumption | (refine sm_of ?_ ?_ <;> omega) | fail)) only [iI_add, iI_sub, iI_mul, iI_neg, iI_lt, iI_le, iI_eq, b1_s, b2_s, ↓reduceIte, L0, L1, L2, L3, L4, L5, L6, L7, L8, L9, L10, L12, L20, L22, L24, L26, L27, L28, L32, L40, L60, L73, L95, L97, L222, L240, L441, L442, L622, Lm1, Lmh, L11, L13, L14, L15, L16, L17, L18, L19, L21, L23, L25, L30, L31, L33, L36, L39, L41, L44, L48, L53, L54, L55, L57, L58, L59, L91, L93, L98, L99, L100, L105, L106, L112, L114, L115, L119, L122, L160, L180, L200, L255, L1440, L24880, L63, Lm2, pX9_perform_l29b, gi1, dd]
      rfl
    · have hi' : i < zs.length := by omega
      rw [drop_g hi']
      have zo := hz _ (zs_mem hi')
      have sp := sv.2.2.2 i hi'
      obtain ⟨g0, ra⟩ := sc_ra sv hi'
      generalize zs.getD i kS0 = z at *
      have hst := h.2.2.2.2.2.2.2.2.2.2.2.1
      obtain ⟨M1, np1, fw1, ff1, e1, b1, f1⟩ := c_att (cp := 0) hn h sp ⟨zo.1, zo.2.1⟩ zo.sx.1 zo.sx.2 (by omega) (by omega) false
      rw [if_neg (by decide)] at b1
      rw [bI_f] at e1
      obtain ⟨ai, ab⟩ := attA_bd ho (z := z) ⟨zo.1, zo.2.1⟩
      have ok2 := try_ok (ps := ps) (z := z) ⟨zo.1, zo.2.1⟩ zo.2.2.2.2.2.2.2.1 zo.2.2.2.2.2.2.1 zo.2.2.2.2.2.2.2.2 hB0 (by omega) ho hne hp hst.bnd
      simp only [perN]
      unfold tryK at b1 ok2
      by_cases w : whyK T.1 T.2.2.1 z.1 z.2.1 z.2.2.1 z.2.2.2 = -1
      · simp only [if_pos w] at b1 ok2 ⊢
        have na : ¬ attA T z = -1 := fun q => ai.mp q w
        obtain ⟨M2, np2, fw2, ff2, e2, b2, f2⟩ := ih (i + 1) M1 (B + 2) _ _ np1 fw1 ff1 b1 ok2.1 ok2.2.1 ok2.2.2.1 (by omega) (by omega) (by omega) (by omega)
        rw [show B + 2 + 2 * ((zs.length - (i + 1) : Nat) : Int) = B + 2 * ((zs.length - i : Nat) : Int) by omega] at b2
        refine ⟨M2, np2, fw2, ff2, ?_, b2, f1.trans f2⟩
        rw [show i + 1 + (perN (actK T z.1 z.2.1 z.2.2.1 z.2.2.2) ((T :: ps).take 40) (zs.drop (i + 1))).1 = i + ((perN (actK T z.1 z.2.1 z.2.2.1 z.2.2.2) ((T :: ps).take 40) (zs.drop (i + 1))).1 + 1) by omega] at e2
        simp (disch := (first | assumption | (refine sm_of ?_ ?_ <;> omega) | fail)) only [iI_add, iI_sub, iI_mul, iI_neg, iI_lt, iI_le, iI_eq, b1_s, b2_s, ↓reduceIte, L0, L1, L2, L3, L4, L5, L6, L7, L8, L9, L10, L12, L20, L22, L24, L26, L27, L28, L32, L40, L60, L73, L95, L97, L222, L240, L441, L442, L622, Lm1, Lmh, L11, L13, L14, L15, L16, L17, L18, L19, L21, L23, L25, L30, L31, L33, L36, L39, L41, L44, L48, L53, L54, L55, L57, L58, L59, L91, L93, L98, L99, L100, L105, L106, L112, L114, L115, L119, L122, L160, L180, L200, L255, L1440, L24880, L63, Lm2, pX9_perform_l29b, gi1, dd, g0, ra, e1, na]
        rw [show ((i : Int) + 1) = ((i + 1 : Nat) : Int) by omega]
        exact e2
      · simp only [if_neg w] at b1 ⊢
        have na : attA T z = -1 := ai.mpr w
        refine ⟨M1, np1, fw1, ff1, ?_, b1.mono (by omega) (by omega), f1⟩
        simp (disch := (first | assumption | (refine sm_of ?_ ?_ <;> omega) | fail)) only [iI_add, iI_sub, iI_mul, iI_neg, iI_lt, iI_le, iI_eq, b1_s, b2_s, ↓reduceIte, L0, L1, L2, L3, L4, L5, L6, L7, L8, L9, L10, L12, L20, L22, L24, L26, L27, L28, L32, L40, L60, L73, L95, L97, L222, L240, L441, L442, L622, Lm1, Lmh, L11, L13, L14, L15, L16, L17, L18, L19, L21, L23, L25, L30, L31, L33, L36, L39, L41, L44, L48, L53, L54, L55, L57, L58, L59, L91, L93, L98, L99, L100, L105, L106, L112, L114, L115, L119, L122, L160, L180, L200, L255, L1440, L24880, L63, Lm2, pX9_perform_l29b, gi1, dd, g0, ra, e1, na]
        rfl
theorem k_perform {n : Nat} (hn : 300 ≤ n) {M : mm_M} {ax : Nat} {B : Int} {tp : List Int} {T : kT} {wd : List Int} {ps : List kT} {im : Option kT} {sc : List (List kS)} {rf : Nat → Int} (h : Cls M ax B tp T wd ps im sc rf) (hI : Inv T wd ps im sc) (hB0 : 0 ≤ B) (hB : B + 24 ≤ 5000000) {s : Nat} (hs : s < sc.length) (hne : T.1.length ≠ 0) : ∃ M', pX9_perform n M ax (iI s) = some (iI (perN T ps (sc.getD s [])).1, M') ∧ Cls M' ax (B + 24) tp (perN T ps (sc.getD s [])).2.1 wd (perN T ps (sc.getD s [])).2.2 im sc rf ∧ fr M M' ax 2875 := by
  obtain ⟨np, d, fw, ff, h⟩ := h
  have l4 := h.2.2.2.2.2.2.2.2.2.2.2.2.2.2.2.1
  have hh := c_hasS (n := n) h l4 (x := (s : Int)) (sm_of (by omega) (by omega))
  rw [decide_eq_true (by omega)] at hh
  obtain ⟨gn, g10⟩ := st_n h.2.2.2.2.2.2.2.2.2.2.2.1
  obtain ⟨f9, r1, r2⟩ := h.2.2.2.2.2.2.2.2.2.1
  have ra := ra_at r1 (i := (s : Int)) (by omega) (by omega) (by omega) (sm_of (by omega) (by omega))
  rw [Int.toNat_natCast, r2 _ (by omega)] at ra
  have sl := (c_scr h hs).1.2.1
  obtain ⟨M1, np1, fw1, ff1, e1, b1, f1⟩ := c_perL hn hs (hI.2.2.2.2.2.2 s hs) n 0 M B T ps np fw ff h hI.1 hne hI.2.2.2.2.1 hB0 (by omega) (by omega) (by omega)
  have e1 : pX9_perform_l29 n n M ax (ax + 2685 + 38 * s) (iI 0) = _ := e1
  rw [List.drop_zero, Nat.zero_add] at e1
  rw [List.drop_zero] at b1
  refine ⟨M1, ?_, ⟨np1, d, fw1, ff1, b1.mono (by omega) hB⟩, f1⟩
  simp (disch := (first | assumption | (refine sm_of ?_ ?_ <;> omega) | fail)) only [iI_add, iI_sub, iI_mul, iI_neg, iI_lt, iI_le, iI_eq, b1_s, b2_s, ↓reduceIte, L0, L1, L2, L3, L4, L5, L6, L7, L8, L9, L10, L12, L20, L22, L24, L26, L27, L28, L32, L40, L60, L73, L95, L97, L222, L240, L441, L442, L622, Lm1, Lmh, L11, L13, L14, L15, L16, L17, L18, L19, L21, L23, L25, L30, L31, L33, L36, L39, L41, L44, L48, L53, L54, L55, L57, L58, L59, L91, L93, L98, L99, L100, L105, L106, L112, L114, L115, L119, L122, L160, L180, L200, L255, L1440, L24880, L63, Lm2, pX9_perform, h.1.all, hh, bI_t, Int.reduceEq, gn, show ¬ (T.1.length : Int) = 0 by omega, ra, e1]
theorem k_performF {n : Nat} {M : mm_M} {ax : Nat} {B : Int} {tp : List Int} {T : kT} {wd : List Int} {ps : List kT} {im : Option kT} {sc : List (List kS)} {rf : Nat → Int} (h : Cls M ax B tp T wd ps im sc rf) {x : Int} (hx : sm x) (hc : ¬ (0 ≤ x ∧ x < sc.length ∧ T.1.length ≠ 0)) : pX9_perform n M ax (iI x) = some (iI (-1), M) := by
  obtain ⟨np, d, fw, ff, h⟩ := h
  have l4 := h.2.2.2.2.2.2.2.2.2.2.2.2.2.2.2.1
  have hh := c_hasS (n := n) h l4 hx
  obtain ⟨gn, g10⟩ := st_n h.2.2.2.2.2.2.2.2.2.2.2.1
  by_cases g : 0 ≤ x ∧ x < sc.length
  · rw [decide_eq_true g] at hh
    have t0 : T.1.length = 0 := by
      apply Classical.byContradiction
      intro z; exact hc ⟨g.1, g.2, z⟩
    simp (disch := (first | assumption | (refine sm_of ?_ ?_ <;> omega) | fail)) only [iI_add, iI_sub, iI_mul, iI_neg, iI_lt, iI_le, iI_eq, b1_s, b2_s, ↓reduceIte, L0, L1, L2, L3, L4, L5, L6, L7, L8, L9, L10, L12, L20, L22, L24, L26, L27, L28, L32, L40, L60, L73, L95, L97, L222, L240, L441, L442, L622, Lm1, Lmh, L11, L13, L14, L15, L16, L17, L18, L19, L21, L23, L25, L30, L31, L33, L36, L39, L41, L44, L48, L53, L54, L55, L57, L58, L59, L91, L93, L98, L99, L100, L105, L106, L112, L114, L115, L119, L122, L160, L180, L200, L255, L1440, L24880, L63, Lm2, pX9_perform, h.1.all, hh, bI_t, Int.reduceEq, gn, show ((T.1.length : Int) = 0) = True from eq_true (by omega)]
  · rw [decide_eq_false g] at hh
    simp (disch := (first | assumption | (refine sm_of ?_ ?_ <;> omega) | fail)) only [iI_add, iI_sub, iI_mul, iI_neg, iI_lt, iI_le, iI_eq, b1_s, b2_s, ↓reduceIte, L0, L1, L2, L3, L4, L5, L6, L7, L8, L9, L10, L12, L20, L22, L24, L26, L27, L28, L32, L40, L60, L73, L95, L97, L222, L240, L441, L442, L622, Lm1, Lmh, L11, L13, L14, L15, L16, L17, L18, L19, L21, L23, L25, L30, L31, L33, L36, L39, L41, L44, L48, L53, L54, L55, L57, L58, L59, L91, L93, L98, L99, L100, L105, L106, L112, L114, L115, L119, L122, L160, L180, L200, L255, L1440, L24880, L63, Lm2, pX9_perform, h.1.all, hh, bI_f]
