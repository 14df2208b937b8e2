/-! the class: an act tried -/
theorem t_note {n : Nat} {M : mm_M} {a : Nat} {B : Int} {T : kT} (h : St M a B T) (hB : B + 1 ≤ 5000000) {x y z : Int} : ∃ M1, pX1_add n M (a + 3) (iI x) (iI y) (iI z) = some M1 ∧ St M1 a (B + 1) (T.1, T.2.1, T.2.2.1, ((x, y, z) :: T.2.2.2).take 60) ∧ fr M M1 a 62 := by
  obtain ⟨F, D, cc, C, ⟨hO, hL', hC, hJ, fs, hS⟩, e1, e2, e3, e4, e5⟩ := h
  obtain ⟨M1, w1, j1, f1⟩ := jr_add (n := n) hJ (by omega) (x := x) (y := y) (z := z)
  refine ⟨M1, w1, ⟨F, D, cc, C, ⟨hO.fr f1 (by omega), hL'.fr f1 (by omega), hC.fr f1 (by omega), j1, fs, f1.at hS (by omega)⟩, e1, e2, hB, by show T.2.1 ≤ _; omega, fun i hi => ⟨by have := (e5 i hi).1; show (T.2.2.1 i).2.2.2.2.2.2.2 ≤ _; omega, (e5 i hi).2⟩⟩, f1.mono (by omega) (by omega)⟩
theorem t_jr {M : mm_M} {a : Nat} {B : Int} {T : kT} (h : St M a B T) : mm_gr 6 4 M a = some (a + 3) := by
  obtain ⟨F, D, cc, C, ⟨hO, -⟩, -⟩ := h
  exact gr_at hO.2.2 4 rfl
theorem ps_len (T : kT) (ps : List kT) : ((T :: ps).take 40).length = min 40 (ps.length + 1) := by simp; omega
theorem ps_cut {M M1 : mm_M} {ax np : Nat} {B : Int} {ps : List kT} {T : kT} (h : PsV M ax B np ps) (s : St M1 (ax + 205 + 62 * np) B T) (f : fr M M1 (ax + 205 + 62 * np) 62) : PsV M1 ax B np (ps.take 39) ∧ PsV M1 ax B ((np + 1) % 40) ((T :: ps).take 40) := by
  obtain ⟨h1, h2, h3, h4⟩ := h
  have A : ∀ j, j < 40 → ∃ P, St M1 (ax + 205 + 62 * j) B P := fun j hj => by
    by_cases e : j = np
    · rw [e]; exact ⟨_, s⟩
    · obtain ⟨P, h⟩ := h3 j hj
      exact ⟨P, h.fr f (by omega)⟩
  have K : ∀ i, i < ps.length → i < 39 → St M1 (ax + 205 + 62 * ((np + 39 - i) % 40)) B (ps.getD i kT0) := fun i hi h39 => (h4 i hi).fr f (by omega)
  refine ⟨⟨h1, by simp; omega, A, fun i hi => ?_⟩, ⟨by omega, by rw [ps_len]; omega, A, fun i hi => ?_⟩⟩
  · simp at hi
    rw [List.getD_eq_getElem?_getD, List.getElem?_take, if_pos (by omega), ← List.getD_eq_getElem?_getD]
    exact K i (by omega) (by omega)
  · rw [ps_len] at hi
    rw [List.getD_eq_getElem?_getD, List.getElem?_take, if_pos (by omega)]
    cases i with
    | zero =>
      rw [show ((np + 1) % 40 + 39 - 0) % 40 = np by omega]
      exact s
    | succ i =>
      rw [show ((np + 1) % 40 + 39 - (i + 1)) % 40 = (np + 39 - i) % 40 by omega]
      have := K i (by omega) (by omega)
      rw [List.getD_eq_getElem?_getD] at this
      exact this
theorem c_att {n : Nat} (hn : 300 ≤ n) {M : mm_M} {ax : Nat} {B : Int} {hi : Bool} {np cp ns : Nat} {d : Int64} {tp : List Int} {T : kT} {wd : List Int} {ps : List kT} {im : Option kT} {sc : List (List kS)} {rf : Nat → Int} {fw ff : Bool} (h : ClW M ax B hi np ps.length ns d tp T wd ps im sc rf fw ff) {s : Nat} {z : kS} (hz : SpZ M s z) (hs : 0 ≤ z.1 ∧ z.1 ≤ 8) (hx : sm z.2.1) (hy : sm z.2.2.1) (hr : (ax + 134 ≤ s ∧ s + 3 ≤ ax + 137) ∨ (ax + 2685 ≤ s ∧ s + 3 ≤ ax + 2875)) (hB : B + 2 ≤ 5000000) (fl : Bool) : ∃ M1 np' fw' ff', pX9_attempt n M ax s (bI fl) = some (iI (attA T z), M1) ∧ ClW M1 ax (B + 2) hi np' (tryK T ps z).2.length ns d tp (tryK T ps z).1 wd (tryK T ps z).2 im sc (if fl = true then attR T z rf else rf) fw' ff' ∧ fr M M1 ax 2875 := by
  have h' := h
  obtain ⟨c0, c1, c2, c3, c4, c5, c6, c7, c8, c9, c10, c11, c12, c13, c14, c15⟩ := h'
  have re := t_refuse (n := n) (by omega) c11 hz hs hx hy
  have wb := whyK_bd T.1 T.2.2.1 z.1 z.2.1 z.2.2.1 z.2.2.2
  unfold attA tryK attR
  by_cases w : whyK T.1 T.2.2.1 z.1 z.2.1 z.2.2.1 z.2.2.2 = -1
  · rw [w] at re
    simp only [if_pos w]
    have np40 := c14.1
    have pl := c14.2.1
    obtain ⟨f4, p1, p2⟩ := c4
    have ra := ra_at p1 (i := (np : Int)) (by omega) (by omega) (by omega) (sm_of (by omega) (by omega))
    rw [Int.toNat_natCast, p2 _ (by omega)] at ra
    obtain ⟨P0, s0⟩ := c14.2.2.1 np np40
    obtain ⟨M1, e1, s1, f1⟩ := t_copy (n := n) (by omega) s0 c11 (by omega)
    obtain ⟨pv1, pv2⟩ := ps_cut c14 s1 f1
    have b1 := h.s14 f1 (by omega) pv1
    obtain ⟨M2, e2, s2, f2⟩ := co_p6 b1.1 ((np + 1) % 40)
    have b2 := b1.s0 f2 (by omega) s2 (fun _ => pv2)
    obtain ⟨M3, e3, s3, f3⟩ := co_p7 b2.1 (min 40 (ps.length + 1))
    have b3 := b2.s0 f3 (by omega) s3 (fun q => q)
    obtain ⟨M4, e4, b4, g4⟩ := c_forgetR (n := n) b3.raw
    have z4 : SpZ M4 s z := (((Sp.fr hz f1 (by omega)).fr f2 (by omega)).fr f3 (by omega)).fr g4 (by omega)
    have su := t_subject (n := n) b4.2.2.2.2.2.2.2.2.2.2.2.1 z4 hs hx
    obtain ⟨M5, e5, s5, f5⟩ := t_do (n := n) (by omega) b4.2.2.2.2.2.2.2.2.2.2.2.1 z4 hs (by omega) (by omega) w
    have b5 := (b4.mono (show B ≤ B + 1 by omega) (by omega)).s11 f5 (by omega) s5 rfl rfl
    have z5 : SpZ M5 s z := Sp.fr z4 f5 (by omega)
    have al := t_all (n := n) (by omega) s5
    obtain ⟨M6, e6, s6, f6⟩ := t_note (n := n) s5 (by omega) (x := z.1) (y := subK T.1 T.2.1 z.1 z.2.1) (z := (allS (aft T z.1 z.2.1 z.2.2.1 z.2.2.2).1 : Int))
    rw [show B + 1 + 1 = B + 2 by omega] at s6
    have b6 := (b5.mono (show B + 1 ≤ B + 2 by omega) (by omega)).s11 f6 (by omega) s6 rfl rfl
    have mn := min_i (a := 40) (b := (ps.length : Int) + 1) (sm_of (by omega) (by omega)) (sm_of (by omega) (by omega))
    rw [show min (40 : Int) ((ps.length : Int) + 1) = ((min 40 (ps.length + 1) : Nat) : Int) by omega] at mn
    refine ⟨M6, (np + 1) % 40, false, false, ?_, ?_, (((((f1.mono (by omega) (by omega)).trans (f2.mono (by omega) (by omega))).trans (f3.mono (by omega) (by omega))).trans (g4.mono (by omega) (by omega))).trans (f5.mono (by omega) (by omega))).trans (f6.mono (by omega) (by omega))⟩
    · have b68 : pX9_attempt_b68 n M1 ax s (iI ((np + 1) % 40 : Nat)) ax = some (iI (doK T z.1 z.2.1 z.2.2.1 z.2.2.2).1, M6) := by
        simp (disch := (first | assumption | (refine sm_of ?_ ?_ <;> omega) | fail)) only [iI_add, iI_sub, iI_mul, iI_neg, iI_lt, iI_le, iI_eq, b1_s, b2_s, ↓reduceIte, L0, L1, L2, L3, L4, L5, L6, L7, L8, L9, L10, L12, L20, L22, L24, L26, L27, L28, L32, L40, L60, L73, L95, L97, L222, L240, L441, L442, L622, Lm1, Lmh, L11, L13, L14, L15, L16, L17, L18, L19, L21, L23, L25, L30, L31, L33, L36, L39, L41, L44, L48, L53, L54, L55, L57, L58, L59, L91, L93, L98, L99, L100, L105, L106, L112, L114, L115, L119, L122, L160, L180, L200, L255, L1440, L24880, L63, Lm2, pX9_attempt_b68, e2, b2.1.all, mn, e3, e4, b4.1.all, su, e5, b5.1.all, t_jr s5, gi_at z5.1 0 rfl, al, e6]
      by_cases q : np = 39
      · rw [show (np + 1) % 40 = 0 by omega] at b68
        have b68 : pX9_attempt_b68 n M1 ax s (iI 0) ax = _ := b68
        simp (disch := (first | assumption | (refine sm_of ?_ ?_ <;> omega) | fail)) only [iI_add, iI_sub, iI_mul, iI_neg, iI_lt, iI_le, iI_eq, b1_s, b2_s, ↓reduceIte, L0, L1, L2, L3, L4, L5, L6, L7, L8, L9, L10, L12, L20, L22, L24, L26, L27, L28, L32, L40, L60, L73, L95, L97, L222, L240, L441, L442, L622, Lm1, Lmh, L11, L13, L14, L15, L16, L17, L18, L19, L21, L23, L25, L30, L31, L33, L36, L39, L41, L44, L48, L53, L54, L55, L57, L58, L59, L91, L93, L98, L99, L100, L105, L106, L112, L114, L115, L119, L122, L160, L180, L200, L255, L1440, L24880, L63, Lm2, pX9_attempt, c0.all, re, ra, e1, b1.1.all, show ((np : Int) + 1 = 40) = True from eq_true (by omega), b68]
      · rw [show (np + 1) % 40 = np + 1 by omega] at b68
        have b68 : pX9_attempt_b68 n M1 ax s (iI ((np : Int) + 1)) ax = _ := b68
        simp (disch := (first | assumption | (refine sm_of ?_ ?_ <;> omega) | fail)) only [iI_add, iI_sub, iI_mul, iI_neg, iI_lt, iI_le, iI_eq, b1_s, b2_s, ↓reduceIte, L0, L1, L2, L3, L4, L5, L6, L7, L8, L9, L10, L12, L20, L22, L24, L26, L27, L28, L32, L40, L60, L73, L95, L97, L222, L240, L441, L442, L622, Lm1, Lmh, L11, L13, L14, L15, L16, L17, L18, L19, L21, L23, L25, L30, L31, L33, L36, L39, L41, L44, L48, L53, L54, L55, L57, L58, L59, L91, L93, L98, L99, L100, L105, L106, L112, L114, L115, L119, L122, L160, L180, L200, L255, L1440, L24880, L63, Lm2, pX9_attempt, c0.all, re, ra, e1, b1.1.all, show ¬ ((np : Int) + 1 = 40) by omega, b68]
    · rw [ps_len]
      cases fl <;> exact b6
  · simp only [if_neg w]
    have hm := h.mono (show B ≤ B + 2 by omega) (by omega)
    cases fl with
    | false =>
      refine ⟨M, np, fw, ff, ?_, hm, fr.rfl⟩
      simp (disch := (first | assumption | (refine sm_of ?_ ?_ <;> omega) | fail)) only [iI_add, iI_sub, iI_mul, iI_neg, iI_lt, iI_le, iI_eq, b1_s, b2_s, ↓reduceIte, L0, L1, L2, L3, L4, L5, L6, L7, L8, L9, L10, L12, L20, L22, L24, L26, L27, L28, L32, L40, L60, L73, L95, L97, L222, L240, L441, L442, L622, Lm1, Lmh, L11, L13, L14, L15, L16, L17, L18, L19, L21, L23, L25, L30, L31, L33, L36, L39, L41, L44, L48, L53, L54, L55, L57, L58, L59, L91, L93, L98, L99, L100, L105, L106, L112, L114, L115, L119, L122, L160, L180, L200, L255, L1440, L24880, L63, Lm2, pX9_attempt, c0.all, re, w, bI_f]
    | true =>
      obtain ⟨u, r1, r2⟩ := c10
      obtain ⟨k, hk⟩ := Int.eq_ofNat_of_zero_le (show 0 ≤ whyK T.1 T.2.2.1 z.1 z.2.1 z.2.2.1 z.2.2.2 by omega)
      rw [hk] at re w wb ⊢
      have ia := ia_at r1 (i := (k : Int)) (by omega) (by omega) (sm_of (by omega) (by omega))
      rw [Int.toNat_natCast, r2 k (by omega)] at ia
      obtain ⟨M1, e1, s1, f1⟩ := is_ex r1 (i := (k : Int)) (by omega) (by omega) (sm_of (by omega) (by omega)) (iI (rf k + 1))
      have b1 := hm.s10 (rf' := rfU rf k) f1 (by omega) ⟨_, s1, fun i hi => by
        unfold rfU
        by_cases e : i = k
        · subst e; simp [upd]
        · rw [if_neg (by omega), ← r2 i hi]; simp [upd, e]⟩
      refine ⟨M1, np, fw, ff, ?_, b1, f1.mono (by omega) (by omega)⟩
      simp (disch := (first | assumption | (refine sm_of ?_ ?_ <;> omega) | fail)) only [iI_add, iI_sub, iI_mul, iI_neg, iI_lt, iI_le, iI_eq, b1_s, b2_s, ↓reduceIte, L0, L1, L2, L3, L4, L5, L6, L7, L8, L9, L10, L12, L20, L22, L24, L26, L27, L28, L32, L40, L60, L73, L95, L97, L222, L240, L441, L442, L622, Lm1, Lmh, L11, L13, L14, L15, L16, L17, L18, L19, L21, L23, L25, L30, L31, L33, L36, L39, L41, L44, L48, L53, L54, L55, L57, L58, L59, L91, L93, L98, L99, L100, L105, L106, L112, L114, L115, L119, L122, L160, L180, L200, L255, L1440, L24880, L63, Lm2, pX9_attempt, c0.all, re, w, bI_t, Int.reduceEq, ia, e1]
