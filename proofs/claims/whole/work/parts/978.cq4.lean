/-! the class: spelling, trying a line, extremes -/
theorem spellL_get {xs : List Int} {p wl : Nat} (h : p + wl ≤ xs.length) {y : Nat} (hy : y < (spellL xs p wl).length) (h6 : wl ≤ 6) : (spellL xs p wl).getD y 0 = if y = min 5 p then 91 else if y = min 5 p + wl + 1 then 93 else xs.getD (p - min 5 p + y - (if y < min 5 p then 0 else if y < min 5 p + wl + 1 then 1 else 2)) 0 := by
  have sl := spellL_len h h6
  rw [sl] at hy
  unfold spellL
  have lA : ((xs.take p).drop (p - 5)).length = min 5 p := by simp; omega
  have lC : ((xs.take (p + wl)).drop p).length = wl := by simp; omega
  have gA : ∀ i, i < min 5 p → ((xs.take p).drop (p - 5))[i]? = xs[p - 5 + i]? := fun i hi => by rw [List.getElem?_drop, List.getElem?_take, if_pos (by omega)]
  have gC : ∀ i, i < wl → ((xs.take (p + wl)).drop p)[i]? = xs[p + i]? := fun i hi => by rw [List.getElem?_drop, List.getElem?_take, if_pos (by omega)]
  have gE : ∀ i, i < min 5 (xs.length - p - wl) → ((xs.take (min xs.length (p + wl + 5))).drop (p + wl))[i]? = xs[p + wl + i]? := fun i hi => by rw [List.getElem?_drop, List.getElem?_take, if_pos (by omega)]
  generalize (xs.take p).drop (p - 5) = A at *
  generalize (xs.take (p + wl)).drop p = C at *
  generalize (xs.take (min xs.length (p + wl + 5))).drop (p + wl) = E at *
  rw [List.getD_eq_getElem?_getD]
  by_cases c1 : y < min 5 p
  · rw [List.getElem?_append_left (by simp; omega), List.getElem?_append_left (by simp; omega), List.getElem?_append_left (by simp; omega), List.getElem?_append_left (by omega), gA y c1, if_neg (by omega), if_neg (by omega), if_pos c1, List.getD_eq_getElem?_getD, show p - min 5 p + y - 0 = p - 5 + y by omega]
  · by_cases c2 : y = min 5 p
    · rw [if_pos c2, List.getElem?_append_left (by simp; omega), List.getElem?_append_left (by simp; omega), List.getElem?_append_left (by simp; omega), List.getElem?_append_right (by omega), show y - A.length = 0 by omega]
      rfl
    · rw [if_neg c2]
      by_cases c3 : y < min 5 p + wl + 1
      · rw [if_neg (by omega), if_neg c1, if_pos c3, List.getElem?_append_left (by simp; omega), List.getElem?_append_left (by simp; omega), List.getElem?_append_right (by simp; omega), gC _ (by simp; omega), List.getD_eq_getElem?_getD, show p + (y - (A ++ [(91 : Int)]).length) = p - min 5 p + y - 1 by simp; omega]
      · by_cases c4 : y = min 5 p + wl + 1
        · rw [if_pos c4, List.getElem?_append_left (by simp; omega), List.getElem?_append_right (by simp; omega), show y - (A ++ [(91 : Int)] ++ C).length = 0 by simp; omega]
          rfl
        · rw [if_neg c4, if_neg c1, if_neg c3, List.getElem?_append_right (by simp; omega), gE _ (by simp; omega), List.getD_eq_getElem?_getD, show p + wl + (y - (A ++ [(91 : Int)] ++ C ++ [(93 : Int)]).length) = p - min 5 p + y - 2 by simp; omega]
theorem k_spell {n : Nat} (hn : 300 ≤ n) {M : mm_M} {ax : Nat} {B : Int} {tp : List Int} {T : kT} {wd : List Int} {ps : List kT} {im : Option kT} {sc : List (List kS)} {rf : Nat → Int} (h : Cls M ax B tp T wd ps im sc rf) (hI : Inv T wd ps im sc) {x y : Int} (hx : sm x) (hy : sm y) : ∃ M', pX9_spell n M ax (iI x) (iI y) = some (iI (spK T.1 wd x y), M') ∧ Cls M' ax B tp T wd ps im sc rf ∧ fr M M' ax 2875 := by
  obtain ⟨np, d, fw, ff, h⟩ := h
  have ho := hI.1.1
  have hd := hI.1.2.1
  have w6 := hI.2.2.1
  obtain ⟨M1, e1, h1, f1⟩ := c_rh hn h ho hd
  have rs := c_rsw (fw := true) h1 hd
  have hs := rs_has (n := n) rs hx
  refine ⟨M1, ?_, ⟨np, d, true, ff, h1⟩, f1⟩
  unfold spK
  by_cases g : 0 ≤ x ∧ x < (hL T.1 wd).length
  · obtain ⟨k, rfl⟩ := Int.eq_ofNat_of_zero_le g.1
    rw [decide_eq_true g] at hs
    have hk : k < (hL T.1 wd).length := by omega
    rw [if_pos g, gH_k]
    have sl := rs_line (n := n) rs ho (j := k) hk
    have sp := rs_place (n := n) rs ho (j := k) hk
    have sf := rk_sf (n := n) rs g
    have ok := hL_ok hd wd
    have sb := sgK_bd ho ok hk
    have sk := sgK_k ok hk
    have hw := hL_w hd hk
    obtain ⟨o1, o2⟩ := ok.get hk
    have ll := (ho.2 _ o1).2.1
    have sn := spellL_len hw w6
    have sg := fun (y : Nat) hy => spellL_get (y := y) hw hy w6
    have wn := sg_n h1.2.2.2.2.2.1
    have h1' := h1
    obtain ⟨c0, c1, c2, c3, c4, c5, c6, c7, c8, c9, c10, c11, c12, c13, c14, c15⟩ := h1'
    obtain ⟨F, D, cc, C, ⟨hO, hLv, -, -, -⟩, e, -⟩ := c11
    have cl : cc = T.1.length := by rw [e, lns_len]
    have hc := hO.1
    have xl := hLv.ln (i := ((hL T.1 wd).getD k (0, 0)).1) (by omega)
    have ek : ∀ q, q < cc → lnN T.1 q = D (F q) := fun q hq => by rw [e]; exact lnN_lns hq
    have ek := ek ((hL T.1 wd).getD k (0, 0)).1 (by omega)
    have ra := hLv.ra (i := (((hL T.1 wd).getD k (0, 0)).1 : Int)) (by omega) (by omega)
    rw [Int.toNat_natCast] at ra
    have at1 := fun (q : Int) hq => sg_at (n := n) xl.2.2 (p := q) hq
    rw [← ek] at at1
    rw [sk] at sf sb
    have gx := gr_at xl.2.1 0 rfl
    generalize hp : ((hL T.1 wd).getD k (0, 0)).2 = p at *
    generalize hi : ((hL T.1 wd).getD k (0, 0)).1 = i at *
    generalize hxs : (lnN T.1 i).2 = xs at *
    have m1 := min_i (a := 5) (b := (p : Int)) (sm_of (by omega) (by omega)) (sm_of (by omega) (by omega))
    have m2 := min_i (a := 5) (b := (xs.length : Int) - p - wd.length) (sm_of (by omega) (by omega)) (sm_of (by omega) (by omega))
    have tot : min (5 : Int) p + wd.length + min 5 ((xs.length : Int) - p - wd.length) + 2 = ((spellL xs p wd.length).length : Int) := by rw [sn]; omega
    have mn : min (5 : Int) p = ((min 5 p : Nat) : Int) := by omega
    generalize htl : (spellL xs p wd.length).length = tl at *
    by_cases y1 : y = -1
    · rw [if_pos y1]
      simp (disch := (first | assumption | (refine sm_of ?_ ?_ <;> omega) | fail)) only [iI_add, iI_sub, iI_mul, iI_neg, iI_lt, iI_le, iI_eq, b1_s, b2_s, ↓reduceIte, L0, L1, L2, L3, L4, L5, L6, L7, L8, L9, L10, L12, L20, L22, L24, L26, L27, L28, L32, L40, L60, L73, L95, L97, L222, L240, L441, L442, L622, Lm1, Lmh, L11, L13, L14, L15, L16, L17, L18, L19, L21, L23, L25, L30, L31, L33, L36, L39, L41, L44, L48, L53, L54, L55, L57, L58, L59, L91, L93, L98, L99, L100, L105, L106, L112, L114, L115, L119, L122, L160, L180, L200, L255, L1440, L24880, L63, Lm2, pX9_spell, h.1.all, e1, hs, bI_t, Int.reduceEq, sp, sf, h1.1.all, wn, m1, m2, y1, tot]
    · rw [if_neg y1]
      by_cases y0 : y < 0
      · rw [if_neg (by omega)]
        simp (disch := (first | assumption | (refine sm_of ?_ ?_ <;> omega) | fail)) only [iI_add, iI_sub, iI_mul, iI_neg, iI_lt, iI_le, iI_eq, b1_s, b2_s, ↓reduceIte, L0, L1, L2, L3, L4, L5, L6, L7, L8, L9, L10, L12, L20, L22, L24, L26, L27, L28, L32, L40, L60, L73, L95, L97, L222, L240, L441, L442, L622, Lm1, Lmh, L11, L13, L14, L15, L16, L17, L18, L19, L21, L23, L25, L30, L31, L33, L36, L39, L41, L44, L48, L53, L54, L55, L57, L58, L59, L91, L93, L98, L99, L100, L105, L106, L112, L114, L115, L119, L122, L160, L180, L200, L255, L1440, L24880, L63, Lm2, pX9_spell, h.1.all, e1, hs, bI_t, Int.reduceEq, sp, sf, h1.1.all, wn, m1, m2, y1, tot, y0]
      · obtain ⟨j, rfl⟩ := Int.eq_ofNat_of_zero_le (show 0 ≤ y by omega)
        by_cases yt : (j : Int) < tl
        · rw [if_pos ⟨by omega, yt⟩, Int.toNat_natCast, sg j (by omega)]
          rw [mn] at m1
          generalize hb : min 5 p = bl at *
          by_cases c1 : j = bl
          · rw [if_pos c1]
            simp (disch := (first | assumption | (refine sm_of ?_ ?_ <;> omega) | fail)) only [iI_add, iI_sub, iI_mul, iI_neg, iI_lt, iI_le, iI_eq, b1_s, b2_s, ↓reduceIte, L0, L1, L2, L3, L4, L5, L6, L7, L8, L9, L10, L12, L20, L22, L24, L26, L27, L28, L32, L40, L60, L73, L95, L97, L222, L240, L441, L442, L622, Lm1, Lmh, L11, L13, L14, L15, L16, L17, L18, L19, L21, L23, L25, L30, L31, L33, L36, L39, L41, L44, L48, L53, L54, L55, L57, L58, L59, L91, L93, L98, L99, L100, L105, L106, L112, L114, L115, L119, L122, L160, L180, L200, L255, L1440, L24880, L63, Lm2, pX9_spell, h.1.all, e1, hs, bI_t, Int.reduceEq, sp, sf, h1.1.all, wn, m1, m2, y1, show (bl : Int) + wd.length + min 5 ((xs.length : Int) - p - wd.length) + 2 = tl by omega, y0, yt, show ((j : Int) = bl) = True from eq_true (by omega)]
          · rw [if_neg c1]
            by_cases c2 : j = bl + wd.length + 1
            · rw [if_pos c2]
              simp (disch := (first | assumption | (refine sm_of ?_ ?_ <;> omega) | fail)) only [iI_add, iI_sub, iI_mul, iI_neg, iI_lt, iI_le, iI_eq, b1_s, b2_s, ↓reduceIte, L0, L1, L2, L3, L4, L5, L6, L7, L8, L9, L10, L12, L20, L22, L24, L26, L27, L28, L32, L40, L60, L73, L95, L97, L222, L240, L441, L442, L622, Lm1, Lmh, L11, L13, L14, L15, L16, L17, L18, L19, L21, L23, L25, L30, L31, L33, L36, L39, L41, L44, L48, L53, L54, L55, L57, L58, L59, L91, L93, L98, L99, L100, L105, L106, L112, L114, L115, L119, L122, L160, L180, L200, L255, L1440, L24880, L63, Lm2, pX9_spell, h.1.all, e1, hs, bI_t, Int.reduceEq, sp, sf, h1.1.all, wn, m1, m2, y1, show (bl : Int) + wd.length + min 5 ((xs.length : Int) - p - wd.length) + 2 = tl by omega, y0, yt, show ¬ (j : Int) = bl by omega, show ((j : Int) = bl + wd.length + 1) = True from eq_true (by omega)]
            · rw [if_neg c2]
              have fin : ∀ s0 : Nat, s0 ≤ 2 → s0 ≤ p - bl + j → p - bl + j - s0 < xs.length → pX9_spell_b143 n M1 ax (iI k) (iI j) (ax + 201) (iI p) (iI bl) (iI s0) = some (iI (xs.getD (p - bl + j - s0) 0), M1) := by
                intro s0 q1 q2 q3
                have a1 := at1 ((p : Int) - bl + j - s0) (sm_of (by omega) (by omega))
                unfold atL at a1
                rw [if_pos (by omega), show ((p : Int) - bl + j - s0).toNat = p - bl + j - s0 by omega] at a1
                simp (disch := (first | assumption | (refine sm_of ?_ ?_ <;> omega) | fail)) only [iI_add, iI_sub, iI_mul, iI_neg, iI_lt, iI_le, iI_eq, b1_s, b2_s, ↓reduceIte, L0, L1, L2, L3, L4, L5, L6, L7, L8, L9, L10, L12, L20, L22, L24, L26, L27, L28, L32, L40, L60, L73, L95, L97, L222, L240, L441, L442, L622, Lm1, Lmh, L11, L13, L14, L15, L16, L17, L18, L19, L21, L23, L25, L30, L31, L33, L36, L39, L41, L44, L48, L53, L54, L55, L57, L58, L59, L91, L93, L98, L99, L100, L105, L106, L112, L114, L115, L119, L122, L160, L180, L200, L255, L1440, L24880, L63, Lm2, pX9_spell_b143, c0.all, gr_at hO.2.2 0 rfl, sl, ra, gx, a1]
              by_cases c3 : j < bl
              · rw [if_pos c3]
                have fin := fin 0 (by omega) (by omega) (by omega)
                have fin : pX9_spell_b143 n M1 ax (iI k) (iI j) (ax + 201) (iI p) (iI bl) (iI 0) = _ := fin
                simp (disch := (first | assumption | (refine sm_of ?_ ?_ <;> omega) | fail)) only [iI_add, iI_sub, iI_mul, iI_neg, iI_lt, iI_le, iI_eq, b1_s, b2_s, ↓reduceIte, L0, L1, L2, L3, L4, L5, L6, L7, L8, L9, L10, L12, L20, L22, L24, L26, L27, L28, L32, L40, L60, L73, L95, L97, L222, L240, L441, L442, L622, Lm1, Lmh, L11, L13, L14, L15, L16, L17, L18, L19, L21, L23, L25, L30, L31, L33, L36, L39, L41, L44, L48, L53, L54, L55, L57, L58, L59, L91, L93, L98, L99, L100, L105, L106, L112, L114, L115, L119, L122, L160, L180, L200, L255, L1440, L24880, L63, Lm2, pX9_spell, h.1.all, e1, hs, bI_t, Int.reduceEq, sp, sf, h1.1.all, wn, m1, m2, y1, show (bl : Int) + wd.length + min 5 ((xs.length : Int) - p - wd.length) + 2 = tl by omega, y0, yt, show ¬ (j : Int) = bl by omega, show ¬ (j : Int) = bl + wd.length + 1 by omega, show ¬ (bl : Int) ≤ j by omega, fin]
              · rw [if_neg c3]
                by_cases c4 : j < bl + wd.length + 1
                · rw [if_pos c4]
                  have fin := fin 1 (by omega) (by omega) (by omega)
                  have fin : pX9_spell_b143 n M1 ax (iI k) (iI j) (ax + 201) (iI p) (iI bl) (iI 1) = _ := fin
                  simp (disch := (first | assumption | (refine sm_of ?_ ?_ <;> omega) | fail)) only [iI_add, iI_sub, iI_mul, iI_neg, iI_lt, iI_le, iI_eq, b1_s, b2_s, ↓reduceIte, L0, L1, L2, L3, L4, L5, L6, L7, L8, L9, L10, L12, L20, L22, L24, L26, L27, L28, L32, L40, L60, L73, L95, L97, L222, L240, L441, L442, L622, Lm1, Lmh, L11, L13, L14, L15, L16, L17, L18, L19, L21, L23, L25, L30, L31, L33, L36, L39, L41, L44, L48, L53, L54, L55, L57, L58, L59, L91, L93, L98, L99, L100, L105, L106, L112, L114, L115, L119, L122, L160, L180, L200, L255, L1440, L24880, L63, Lm2, pX9_spell, h.1.all, e1, hs, bI_t, Int.reduceEq, sp, sf, h1.1.all, wn, m1, m2, y1, show (bl : Int) + wd.length + min 5 ((xs.length : Int) - p - wd.length) + 2 = tl by omega, y0, yt, show ¬ (j : Int) = bl by omega, show ¬ (j : Int) = bl + wd.length + 1 by omega, show (bl : Int) ≤ j by omega, show ¬ (bl : Int) + wd.length + 1 ≤ j by omega, fin]
                · rw [if_neg c4]
                  have fin := fin 2 (by omega) (by omega) (by omega)
                  have fin : pX9_spell_b143 n M1 ax (iI k) (iI j) (ax + 201) (iI p) (iI bl) (iI 2) = _ := fin
                  simp (disch := (first | assumption | (refine sm_of ?_ ?_ <;> omega) | fail)) only [iI_add, iI_sub, iI_mul, iI_neg, iI_lt, iI_le, iI_eq, b1_s, b2_s, ↓reduceIte, L0, L1, L2, L3, L4, L5, L6, L7, L8, L9, L10, L12, L20, L22, L24, L26, L27, L28, L32, L40, L60, L73, L95, L97, L222, L240, L441, L442, L622, Lm1, Lmh, L11, L13, L14, L15, L16, L17, L18, L19, L21, L23, L25, L30, L31, L33, L36, L39, L41, L44, L48, L53, L54, L55, L57, L58, L59, L91, L93, L98, L99, L100, L105, L106, L112, L114, L115, L119, L122, L160, L180, L200, L255, L1440, L24880, L63, Lm2, pX9_spell, h.1.all, e1, hs, bI_t, Int.reduceEq, sp, sf, h1.1.all, wn, m1, m2, y1, show (bl : Int) + wd.length + min 5 ((xs.length : Int) - p - wd.length) + 2 = tl by omega, y0, yt, show ¬ (j : Int) = bl by omega, show ¬ (j : Int) = bl + wd.length + 1 by omega, show (bl : Int) ≤ j by omega, show (bl : Int) + wd.length + 1 ≤ j by omega, fin]
        · rw [if_neg (by omega)]
          simp (disch := (first | assumption | (refine sm_of ?_ ?_ <;> omega) | fail)) only [iI_add, iI_sub, iI_mul, iI_neg, iI_lt, iI_le, iI_eq, b1_s, b2_s, ↓reduceIte, L0, L1, L2, L3, L4, L5, L6, L7, L8, L9, L10, L12, L20, L22, L24, L26, L27, L28, L32, L40, L60, L73, L95, L97, L222, L240, L441, L442, L622, Lm1, Lmh, L11, L13, L14, L15, L16, L17, L18, L19, L21, L23, L25, L30, L31, L33, L36, L39, L41, L44, L48, L53, L54, L55, L57, L58, L59, L91, L93, L98, L99, L100, L105, L106, L112, L114, L115, L119, L122, L160, L180, L200, L255, L1440, L24880, L63, Lm2, pX9_spell, h.1.all, e1, hs, bI_t, Int.reduceEq, sp, sf, h1.1.all, wn, m1, m2, y1, tot, y0, yt]
  · rw [decide_eq_false g] at hs
    rw [if_neg g]
    simp only [pX9_spell, h.1.all, e1, b2_s, hs, bI_f, L0, ↓reduceIte]
    rfl
theorem hitsL_set (w : List Int) (l : kL) : ∀ (ls : List kL) (k : Nat), k < ls.length → hitsL (ls.set k l) w + cnt (lnN ls k).2 w (lnN ls k).2.length = hitsL ls w + cnt l.2 w l.2.length := by
  intro ls
  induction ls with
  | nil => intro k h; simp at h
  | cons a ls ih =>
    intro k h
    cases k with
    | zero =>
      show hitsL (l :: ls) w + cnt a.2 w a.2.length = hitsL (a :: ls) w + _
      simp only [hitsL, List.map_cons, List.sum_cons]; omega
    | succ k =>
      have := ih k (by simp at h; omega)
      show hitsL (a :: ls.set k l) w + cnt (lnN ls k).2 w (lnN ls k).2.length = hitsL (a :: ls) w + _
      simp only [hitsL, List.map_cons, List.sum_cons] at this ⊢; omega
/-- a row read into the reading place -/
theorem c_row {n : Nat} (hn : 300 ≤ n) {M : mm_M} {ax : Nat} {B : Int} {hi : Bool} {np cp ns : Nat} {d : Int64} {tp : List Int} {T : kT} {wd : List Int} {ps : List kT} {im : Option kT} {sc : List (List kS)} {rf : Nat → Int} {fw ff : Bool} (h : ClW M ax B hi np cp ns d tp T wd ps im sc rf fw ff) {most : Nat} (hm : most ≤ 20) : ∃ M1, pX8_rowFault n M (ax + 1) (ax + 132) (iI most) = some (iI (rowF tp most), M1) ∧ ClW M1 ax B hi np cp ns d tp T wd ps im sc rf fw ff ∧ Sg M1 (ax + 132) (rds tp most 0).1 ∧ fr M M1 ax 2875 := by
  have h' := h
  obtain ⟨c0, c1, c2, c3, c4, c5, c6, c7, c8, c9, c10, c11, c12, c13, c14, c15⟩ := h'
  obtain ⟨xs, g⟩ := c7
  obtain ⟨M1, e1, t1, g1, k1, k2⟩ := tr_row hn (by omega) c1 g hm
  have f2 : fr2 M M1 (ax + 1) 2 (ax + 132) 2 := ⟨k1, fun q a b => k2 q (by omega) (by omega)⟩
  obtain ⟨Mm, fa, fb⟩ := f2.split
  have h1 := h.s1 fa (by omega) (t1.fr fb.symm (by omega))
  have h2 := h1.s7 fb (by omega) ⟨_, g1⟩
  exact ⟨M1, e1, h2, g1, (fa.mono (by omega) (by omega)).trans (fb.mono (by omega) (by omega))⟩
theorem k_would {n : Nat} (hn : 300 ≤ n) {M : mm_M} {ax : Nat} {B : Int} {tp : List Int} {T : kT} {wd : List Int} {ps : List kT} {im : Option kT} {sc : List (List kS)} {rf : Nat → Int} (h : Cls M ax B tp T wd ps im sc rf) (hI : Inv T wd ps im sc) {x : Int} (hx : sm x) : ∃ M', pX9_would n M ax (iI x) = some (iI (wouK tp T wd x), M') ∧ Cls M' ax B tp T wd ps im sc rf ∧ fr M M' ax 2875 := by
  obtain ⟨np, d, fw, ff, h⟩ := h
  have ho := hI.1.1
  have w6 := hI.2.2.1
  have h' := h
  obtain ⟨c0, c1, c2, c3, c4, c5, c6, c7, c8, c9, c10, c11, c12, c13, c14, c15⟩ := h'
  have wn := sg_n c5
  obtain ⟨F, D, cc, C, ⟨hO, hLv, -, -, -⟩, e, -⟩ := c11
  have cl : cc = T.1.length := by rw [e, lns_len]
  have hh := st_hasL (n := n) hO hx
  have rb := rowF_bd c1.1 20
  unfold wouK
  by_cases g : 0 ≤ x ∧ x < T.1.length
  · have il : isLn T.1 x = true := by unfold isLn; exact decide_eq_true g
    rw [decide_eq_true (by omega)] at hh
    by_cases w0 : wd = []
    · rw [if_neg (fun z => z.2.1 w0)]
      refine ⟨M, ?_, ⟨np, d, fw, ff, h⟩, fr.rfl⟩
      simp (disch := (first | assumption | (refine sm_of ?_ ?_ <;> omega) | fail)) only [iI_add, iI_sub, iI_mul, iI_neg, iI_lt, iI_le, iI_eq, b1_s, b2_s, ↓reduceIte, L0, L1, L2, L3, L4, L5, L6, L7, L8, L9, L10, L12, L20, L22, L24, L26, L27, L28, L32, L40, L60, L73, L95, L97, L222, L240, L441, L442, L622, Lm1, Lmh, L11, L13, L14, L15, L16, L17, L18, L19, L21, L23, L25, L30, L31, L33, L36, L39, L41, L44, L48, L53, L54, L55, L57, L58, L59, L91, L93, L98, L99, L100, L105, L106, L112, L114, L115, L119, L122, L160, L180, L200, L255, L1440, L24880, L63, Lm2, pX9_would, c0.all, hh, bI_t, Int.reduceEq, wn, show ((wd.length : Int) = 0) = True from eq_true (by rw [w0]; rfl)]
    · have w0' : ¬ (wd.length : Int) = 0 := by rw [len_nil]; exact w0
      obtain ⟨M1, e1, h1, g1, f1⟩ := c_row hn h (most := 20) (by omega)
      have e1 : pX8_rowFault n M (ax + 1) (ax + 132) (iI 20) = _ := e1
      refine ⟨M1, ?_, ⟨np, d, fw, ff, h1⟩, f1⟩
      by_cases r : rowF tp 20 = -1
      · have ln0 : lih tp ≠ [] := fun z => lih_nil.mp z r
        have el : lih tp = (rds tp 20 0).1 := by unfold lih; rw [if_pos r]
        rw [if_pos ⟨il, w0, ln0⟩]
        obtain ⟨k, rfl⟩ := Int.eq_ofNat_of_zero_le g.1
        rw [Int.toNat_natCast, ln_k]
        have h1' := h1
        obtain ⟨b0, b1, b2, b3, b4, b5, b6, b7, b8, b9, b10, b11, b12, b13, b14, b15⟩ := h1'
        obtain ⟨F, D, cc, C, ⟨hO, hLv, -, -, -⟩, e, -⟩ := b11
        have cl : cc = T.1.length := by rw [e, lns_len]
        have hc := hO.1
        have xl := hLv.ln (i := k) (by omega)
        have ek : lnN T.1 k = D (F k) := by rw [e]; exact lnN_lns (by omega)
        have t1 := st_hits (n := n) (by omega) hO hLv b5
        rw [← e] at t1
        have t2 := sg_hits (n := n) (by omega) xl.2.2 b5
        rw [← ek] at t2
        have t3 := sg_hits (n := n) (by omega) g1 b5
        rw [← el] at t3
        have hse := hitsL_set wd ((lnN T.1 k).1, lih tp) T.1 k (by omega)
        have hse : hitsL (T.1.set k ((lnN T.1 k).1, lih tp)) wd + cnt (lnN T.1 k).2 wd (lnN T.1 k).2.length = hitsL T.1 wd + cnt (lih tp) wd (lih tp).length := hse
        simp (disch := (first | assumption | (refine sm_of ?_ ?_ <;> omega) | fail)) only [iI_add, iI_sub, iI_mul, iI_neg, iI_lt, iI_le, iI_eq, b1_s, b2_s, ↓reduceIte, L0, L1, L2, L3, L4, L5, L6, L7, L8, L9, L10, L12, L20, L22, L24, L26, L27, L28, L32, L40, L60, L73, L95, L97, L222, L240, L441, L442, L622, Lm1, Lmh, L11, L13, L14, L15, L16, L17, L18, L19, L21, L23, L25, L30, L31, L33, L36, L39, L41, L44, L48, L53, L54, L55, L57, L58, L59, L91, L93, L98, L99, L100, L105, L106, L112, L114, L115, L119, L122, L160, L180, L200, L255, L1440, L24880, L63, Lm2, pX9_would, c0.all, hh, bI_t, Int.reduceEq, wn, w0', e1, r, b0.all, t1, gr_at hO.2.2 0 rfl, hLv.ra (i := k) (by omega) (by omega), Int.toNat_natCast, gr_at xl.2.1 0 rfl, t2, t3]
        congr 3
        omega
      · have ln0 : lih tp = [] := lih_nil.mpr r
        rw [if_neg (fun z => z.2.2 ln0)]
        simp (disch := (first | assumption | (refine sm_of ?_ ?_ <;> omega) | fail)) only [iI_add, iI_sub, iI_mul, iI_neg, iI_lt, iI_le, iI_eq, b1_s, b2_s, ↓reduceIte, L0, L1, L2, L3, L4, L5, L6, L7, L8, L9, L10, L12, L20, L22, L24, L26, L27, L28, L32, L40, L60, L73, L95, L97, L222, L240, L441, L442, L622, Lm1, Lmh, L11, L13, L14, L15, L16, L17, L18, L19, L21, L23, L25, L30, L31, L33, L36, L39, L41, L44, L48, L53, L54, L55, L57, L58, L59, L91, L93, L98, L99, L100, L105, L106, L112, L114, L115, L119, L122, L160, L180, L200, L255, L1440, L24880, L63, Lm2, pX9_would, c0.all, hh, bI_t, Int.reduceEq, wn, w0', e1, r]
  · have il : ¬ isLn T.1 x = true := fun z => g (isLn_spec z)
    rw [decide_eq_false (by omega)] at hh
    rw [if_neg (fun z => il z.1)]
    refine ⟨M, ?_, ⟨np, d, fw, ff, h⟩, fr.rfl⟩
    simp (disch := (first | assumption | (refine sm_of ?_ ?_ <;> omega) | fail)) only [iI_add, iI_sub, iI_mul, iI_neg, iI_lt, iI_le, iI_eq, b1_s, b2_s, ↓reduceIte, L0, L1, L2, L3, L4, L5, L6, L7, L8, L9, L10, L12, L20, L22, L24, L26, L27, L28, L32, L40, L60, L73, L95, L97, L222, L240, L441, L442, L622, Lm1, Lmh, L11, L13, L14, L15, L16, L17, L18, L19, L21, L23, L25, L30, L31, L33, L36, L39, L41, L44, L48, L53, L54, L55, L57, L58, L59, L91, L93, L98, L99, L100, L105, L106, L112, L114, L115, L119, L122, L160, L180, L200, L255, L1440, L24880, L63, Lm2, pX9_would, c0.all, hh, bI_f]
