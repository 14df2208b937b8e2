/-! the class: extremes; the tape fed, cut, taken -/
theorem usP_lt {xs : List Int} (hs : okS xs) {s : Nat} (h : s < 134217728) : ∀ p, p ≤ xs.length → usP xs s p < 134217728 := by
  intro p
  induction p with
  | zero => intro _; exact h
  | succ p ih => intro hp; exact (us_step hs (by omega) (ih (by omega))).1
theorem usL_lt {ls : List kL} (ho : okL ls) : ∀ k, k ≤ ls.length → usL ls k < 134217728 := by
  intro k
  induction k with
  | zero => intro _; show 0 < _; omega
  | succ k ih => intro hk; exact usP_lt (ho.2 k (by omega)).2.2.1 (ih (by omega)) _ (Nat.le_refl _)
theorem c_us {n : Nat} (hn : 300 ≤ n) {M : mm_M} {ax : Nat} {B : Int} {hi : Bool} {np cp ns : Nat} {d : Int64} {tp : List Int} {T : kT} {wd : List Int} {ps : List kT} {im : Option kT} {sc : List (List kS)} {rf : Nat → Int} {fw ff : Bool} (h : ClW M ax B hi np cp ns d tp T wd ps im sc rf fw ff) (ho : okL T.1) : pX9_unlikeSigns n M ax = some (iI (pcS (usL T.1 T.1.length) 27), M) := by
  obtain ⟨c0, c1, c2, c3, c4, c5, c6, c7, c8, c9, c10, c11, c12, c13, c14, c15⟩ := h
  obtain ⟨F, D, cc, C, ⟨hO, hLv, -, -, -⟩, e, -⟩ := c11
  have cl : cc = T.1.length := by rw [e, lns_len]
  have hc := hO.1
  have ek : ∀ q, q < cc → lnN T.1 q = D (F q) := fun q hq => by rw [e]; exact lnN_lns hq
  have inner : ∀ (K : mm_M → Nat → Int32 → Int32 → Option (Int32 × mm_M)) (k s : Nat), k < cc → s < 134217728 → ∀ (q p : Nat), p ≤ (lnN T.1 k).2.length → (lnN T.1 k).2.length < p + q → pX9_unlikeSigns_l31 n K q M ax (iI (usP (lnN T.1 k).2 s p)) (iI k) (ax + 139 + 8 + 3 * F k + 1) (iI p) = K M ax (iI (usP (lnN T.1 k).2 s (lnN T.1 k).2.length)) (iI ((k + 1 : Nat) : Int)) := by
    intro K k s hk hs q
    have xl := (hLv.ln (i := k) (by omega)).2.2
    rw [← ek k hk] at xl
    have oks := (ho.2 k (by omega)).2.2.1
    have l20 := (ho.2 k (by omega)).2.1
    induction q with
    | zero => intro p a b; omega
    | succ q ih =>
      intro p p1 p2
      show pX9_unlikeSigns_l31b n K (pX9_unlikeSigns_l31 n K q) M ax _ _ _ _ = _
      have gn := sg_n xl
      by_cases dd : ((lnN T.1 k).2.length : Int) ≤ p
      · simp (disch := (first | assumption | (refine sm_of ?_ ?_ <;> omega) | fail)) only [iI_add, iI_sub, iI_mul, iI_neg, iI_lt, iI_le, iI_eq, b1_s, b2_s, ↓reduceIte, L0, L1, L2, L3, L4, L5, L6, L7, L8, L9, L10, L12, L20, L22, L24, L26, L27, L28, L32, L40, L60, L73, L95, L97, L222, L240, L441, L442, L622, Lm1, Lmh, L11, L13, L14, L15, L16, L17, L18, L19, L21, L23, L25, L30, L31, L33, L36, L39, L41, L44, L48, L53, L54, L55, L57, L58, L59, L91, L93, L98, L99, L100, L105, L106, L112, L114, L115, L119, L122, L160, L180, L200, L255, L1440, L24880, L63, Lm2, pX9_unlikeSigns_l31b, gn, dd]
        rw [show p = (lnN T.1 k).2.length by omega, show ((k : Int) + 1) = ((k + 1 : Nat) : Int) by omega]
      · have hp : p < (lnN T.1 k).2.length := by omega
        have at1 := sg_at (n := n) xl (p := (p : Int)) (sm_of (by omega) (by omega))
        unfold atL at at1
        rw [if_pos (by omega), Int.toNat_natCast] at at1
        have sg := oks.get hp
        have ix := sgIx (n := n) (M := M) (v := (lnN T.1 k).2.getD p 0) (Or.inr sg)
        rw [if_neg (sg_ne sg)] at ix
        have st := (us_step oks hp (usP_lt oks hs p (by omega))).2
        have e2 := ih (p + 1) (by omega) (by omega)
        rw [← st] at e2
        simp (disch := (first | assumption | (refine sm_of ?_ ?_ <;> omega) | fail)) only [iI_add, iI_sub, iI_mul, iI_neg, iI_lt, iI_le, iI_eq, b1_s, b2_s, ↓reduceIte, L0, L1, L2, L3, L4, L5, L6, L7, L8, L9, L10, L12, L20, L22, L24, L26, L27, L28, L32, L40, L60, L73, L95, L97, L222, L240, L441, L442, L622, Lm1, Lmh, L11, L13, L14, L15, L16, L17, L18, L19, L21, L23, L25, L30, L31, L33, L36, L39, L41, L44, L48, L53, L54, L55, L57, L58, L59, L91, L93, L98, L99, L100, L105, L106, L112, L114, L115, L119, L122, L160, L180, L200, L255, L1440, L24880, L63, Lm2, pX9_unlikeSigns_l31b, gn, dd, at1, ix]
        rw [show ((p : Int) + 1) = ((p + 1 : Nat) : Int) by omega]
        exact e2
  have outer : ∀ (q k : Nat), k ≤ cc → cc < k + q → pX9_unlikeSigns_l4 n q M ax (iI (usL T.1 k)) (iI k) = some (iI (pcS (usL T.1 cc) 27), M) := by
    intro q
    induction q with
    | zero => intro k a b; omega
    | succ q ih =>
      intro k k1 k2
      show pX9_unlikeSigns_l4b n (pX9_unlikeSigns_l4 n q) M ax _ _ = _
      by_cases dd : (cc : Int) ≤ k
      · have bc := bitCount_ok (n := n) (M := M) (usL_lt ho cc (by omega))
        rw [show k = cc by omega]
        simp (disch := (first | assumption | (refine sm_of ?_ ?_ <;> omega) | fail)) only [iI_add, iI_sub, iI_mul, iI_neg, iI_lt, iI_le, iI_eq, b1_s, b2_s, ↓reduceIte, L0, L1, L2, L3, L4, L5, L6, L7, L8, L9, L10, L12, L20, L22, L24, L26, L27, L28, L32, L40, L60, L73, L95, L97, L222, L240, L441, L442, L622, Lm1, Lmh, L11, L13, L14, L15, L16, L17, L18, L19, L21, L23, L25, L30, L31, L33, L36, L39, L41, L44, L48, L53, L54, L55, L57, L58, L59, L91, L93, L98, L99, L100, L105, L106, L112, L114, L115, L119, L122, L160, L180, L200, L255, L1440, L24880, L63, Lm2, pX9_unlikeSigns_l4b, c0.all, gi_at hO.2.2 1 rfl, Int.le_refl, bc]
      · have xl := hLv.ln (i := k) (by omega)
        have inn := inner (pX9_unlikeSigns_l4 n q) k (usL T.1 k) (by omega) (usL_lt ho k (by omega)) n 0 (by omega) (by have := (ho.2 k (by omega)).2.1; omega)
        have inn : pX9_unlikeSigns_l31 n (pX9_unlikeSigns_l4 n q) n M ax (iI (usL T.1 k)) (iI k) (ax + 139 + 8 + 3 * F k + 1) (iI 0) = pX9_unlikeSigns_l4 n q M ax (iI (usL T.1 (k + 1))) (iI ((k + 1 : Nat) : Int)) := inn
        simp (disch := (first | assumption | (refine sm_of ?_ ?_ <;> omega) | fail)) only [iI_add, iI_sub, iI_mul, iI_neg, iI_lt, iI_le, iI_eq, b1_s, b2_s, ↓reduceIte, L0, L1, L2, L3, L4, L5, L6, L7, L8, L9, L10, L12, L20, L22, L24, L26, L27, L28, L32, L40, L60, L73, L95, L97, L222, L240, L441, L442, L622, Lm1, Lmh, L11, L13, L14, L15, L16, L17, L18, L19, L21, L23, L25, L30, L31, L33, L36, L39, L41, L44, L48, L53, L54, L55, L57, L58, L59, L91, L93, L98, L99, L100, L105, L106, L112, L114, L115, L119, L122, L160, L180, L200, L255, L1440, L24880, L63, Lm2, pX9_unlikeSigns_l4b, c0.all, gi_at hO.2.2 1 rfl, dd, gr_at hO.2.2 0 rfl, hLv.ra (i := k) (by omega) (by omega), Int.toNat_natCast, gr_at xl.2.1 0 rfl, inn]
        exact ih (k + 1) (by omega) (by omega)
  have o1 : pX9_unlikeSigns_l4 n n M ax (iI 0) (iI 0) = _ := outer n 0 (by omega) (by omega)
  rw [cl] at o1
  simp (disch := (first | assumption | (refine sm_of ?_ ?_ <;> omega) | fail)) only [iI_add, iI_sub, iI_mul, iI_neg, iI_lt, iI_le, iI_eq, b1_s, b2_s, ↓reduceIte, L0, L1, L2, L3, L4, L5, L6, L7, L8, L9, L10, L12, L20, L22, L24, L26, L27, L28, L32, L40, L60, L73, L95, L97, L222, L240, L441, L442, L622, Lm1, Lmh, L11, L13, L14, L15, L16, L17, L18, L19, L21, L23, L25, L30, L31, L33, L36, L39, L41, L44, L48, L53, L54, L55, L57, L58, L59, L91, L93, L98, L99, L100, L105, L106, L112, L114, L115, L119, L122, L160, L180, L200, L255, L1440, L24880, L63, Lm2, pX9_unlikeSigns, c0.all, o1]
theorem k_most {n : Nat} (hn : 300 ≤ n) {M : mm_M} {ax : Nat} {B : Int} {tp : List Int} {T : kT} {wd : List Int} {ps : List kT} {im : Option kT} {sc : List (List kS)} {rf : Nat → Int} (h : Cls M ax B tp T wd ps im sc rf) (hI : Inv T wd ps im sc) {y : Int} (hy : sm y) : ∃ M', pX9_most n M ax (iI y) = some (iI (mostK T y), M') ∧ Cls M' ax B tp T wd ps im sc rf ∧ fr M M' ax 2875 := by
  obtain ⟨np, d, fw, ff, h⟩ := h
  have ho := hI.1.1
  have hd := hI.1.2.1
  have h' := h
  obtain ⟨c0, c1, c2, c3, c4, c5, c6, c7, c8, c9, c10, c11, c12, c13, c14, c15⟩ := h'
  obtain ⟨F, D, cc, C, ⟨hO, hLv, hC, -, -⟩, e, eC, -⟩ := c11
  have cl : cc = T.1.length := by rw [e, lns_len]
  have hc := hO.1
  have gc : mm_gi 6 1 M (ax + 139) = some (iI T.1.length) := by rw [← cl]; exact gi_at hO.2.2 1 rfl
  unfold mostK
  by_cases s0 : T.1.length = 0
  · refine ⟨M, ?_, ⟨np, d, fw, ff, h⟩, fr.rfl⟩
    rw [if_pos s0]
    simp (disch := (first | assumption | (refine sm_of ?_ ?_ <;> omega) | fail)) only [iI_add, iI_sub, iI_mul, iI_neg, iI_lt, iI_le, iI_eq, b1_s, b2_s, ↓reduceIte, L0, L1, L2, L3, L4, L5, L6, L7, L8, L9, L10, L12, L20, L22, L24, L26, L27, L28, L32, L40, L60, L73, L95, L97, L222, L240, L441, L442, L622, Lm1, Lmh, L11, L13, L14, L15, L16, L17, L18, L19, L21, L23, L25, L30, L31, L33, L36, L39, L41, L44, L48, L53, L54, L55, L57, L58, L59, L91, L93, L98, L99, L100, L105, L106, L112, L114, L115, L119, L122, L160, L180, L200, L255, L1440, L24880, L63, Lm2, pX9_most, c0.all, gc, show ((T.1.length : Int) = 0) = True from eq_true (by omega)]
  · rw [if_neg s0]
    have s0' : ¬ (T.1.length : Int) = 0 := by omega
    by_cases y3 : y = 3
    · subst y3
      obtain ⟨M1, e1, h1, f1⟩ := c_rp hn h ho hd
      obtain ⟨M2, e2, h2, f2⟩ := c_rp hn h1 ho hd
      have rs := c_rsa (ff := true) h2 hd
      have l2 := (rs_n rs).2
      have ms := rk_ms hn rs
      have mb := msN_bd T.1 (aL T.1) ho.all (aL T.1).length
      have sh := rk_sh (n := n) (by omega) rs (i := (msN T.1 (aL T.1) (aL T.1).length).1) (by omega)
      have sb := shK_bd T.1 (aL T.1) (msN T.1 (aL T.1) (aL T.1).length).1 ho.all
      have mx := max_i (b := shK T.1 (aL T.1) (msN T.1 (aL T.1) (aL T.1).length).1) (sm_of (by omega) (by omega))
      refine ⟨M2, ?_, ⟨np, d, fw, true, h2⟩, f1.trans f2⟩
      simp (disch := (first | assumption | (refine sm_of ?_ ?_ <;> omega) | fail)) only [iI_add, iI_sub, iI_mul, iI_neg, iI_lt, iI_le, iI_eq, b1_s, b2_s, ↓reduceIte, L0, L1, L2, L3, L4, L5, L6, L7, L8, L9, L10, L12, L20, L22, L24, L26, L27, L28, L32, L40, L60, L73, L95, L97, L222, L240, L441, L442, L622, Lm1, Lmh, L11, L13, L14, L15, L16, L17, L18, L19, L21, L23, L25, L30, L31, L33, L36, L39, L41, L44, L48, L53, L54, L55, L57, L58, L59, L91, L93, L98, L99, L100, L105, L106, L112, L114, L115, L119, L122, L160, L180, L200, L255, L1440, L24880, L63, Lm2, pX9_most, c0.all, gc, s0', Int.reduceEq, e1, e2, ms, sh, mx]
      rfl
    · by_cases y0 : y = 0
      · subst y0
        refine ⟨M, ?_, ⟨np, d, fw, ff, h⟩, fr.rfl⟩
        have q := st_long (n := n) (by omega) hO hLv (by omega)
        rw [← e, cl] at q
        simp (disch := (first | assumption | (refine sm_of ?_ ?_ <;> omega) | fail)) only [iI_add, iI_sub, iI_mul, iI_neg, iI_lt, iI_le, iI_eq, b1_s, b2_s, ↓reduceIte, L0, L1, L2, L3, L4, L5, L6, L7, L8, L9, L10, L12, L20, L22, L24, L26, L27, L28, L32, L40, L60, L73, L95, L97, L222, L240, L441, L442, L622, Lm1, Lmh, L11, L13, L14, L15, L16, L17, L18, L19, L21, L23, L25, L30, L31, L33, L36, L39, L41, L44, L48, L53, L54, L55, L57, L58, L59, L91, L93, L98, L99, L100, L105, L106, L112, L114, L115, L119, L122, L160, L180, L200, L255, L1440, L24880, L63, Lm2, pX9_most, c0.all, gc, s0', q]
      · by_cases y1 : y = 1
        · subst y1
          refine ⟨M, ?_, ⟨np, d, fw, ff, h⟩, fr.rfl⟩
          have q := st_short (n := n) (by omega) hO hLv (by omega)
          rw [← e, cl] at q
          simp (disch := (first | assumption | (refine sm_of ?_ ?_ <;> omega) | fail)) only [iI_add, iI_sub, iI_mul, iI_neg, iI_lt, iI_le, iI_eq, b1_s, b2_s, ↓reduceIte, L0, L1, L2, L3, L4, L5, L6, L7, L8, L9, L10, L12, L20, L22, L24, L26, L27, L28, L32, L40, L60, L73, L95, L97, L222, L240, L441, L442, L622, Lm1, Lmh, L11, L13, L14, L15, L16, L17, L18, L19, L21, L23, L25, L30, L31, L33, L36, L39, L41, L44, L48, L53, L54, L55, L57, L58, L59, L91, L93, L98, L99, L100, L105, L106, L112, L114, L115, L119, L122, L160, L180, L200, L255, L1440, L24880, L63, Lm2, pX9_most, c0.all, gc, s0', Int.reduceEq, q]
        · by_cases y2 : y = 2
          · subst y2
            refine ⟨M, ?_, ⟨np, d, fw, ff, h⟩, fr.rfl⟩
            simp (disch := (first | assumption | (refine sm_of ?_ ?_ <;> omega) | fail)) only [iI_add, iI_sub, iI_mul, iI_neg, iI_lt, iI_le, iI_eq, b1_s, b2_s, ↓reduceIte, L0, L1, L2, L3, L4, L5, L6, L7, L8, L9, L10, L12, L20, L22, L24, L26, L27, L28, L32, L40, L60, L73, L95, L97, L222, L240, L441, L442, L622, Lm1, Lmh, L11, L13, L14, L15, L16, L17, L18, L19, L21, L23, L25, L30, L31, L33, L36, L39, L41, L44, L48, L53, L54, L55, L57, L58, L59, L91, L93, L98, L99, L100, L105, L106, L112, L114, L115, L119, L122, L160, L180, L200, L255, L1440, L24880, L63, Lm2, pX9_most, c0.all, gc, s0', Int.reduceEq, c_us hn h ho]
          · by_cases y4 : y = 4
            · subst y4
              refine ⟨M, ?_, ⟨np, d, fw, ff, h⟩, fr.rfl⟩
              have q := st_rise (n := n) (by omega) hO hLv (by omega)
              rw [← e] at q
              simp (disch := (first | assumption | (refine sm_of ?_ ?_ <;> omega) | fail)) only [iI_add, iI_sub, iI_mul, iI_neg, iI_lt, iI_le, iI_eq, b1_s, b2_s, ↓reduceIte, L0, L1, L2, L3, L4, L5, L6, L7, L8, L9, L10, L12, L20, L22, L24, L26, L27, L28, L32, L40, L60, L73, L95, L97, L222, L240, L441, L442, L622, Lm1, Lmh, L11, L13, L14, L15, L16, L17, L18, L19, L21, L23, L25, L30, L31, L33, L36, L39, L41, L44, L48, L53, L54, L55, L57, L58, L59, L91, L93, L98, L99, L100, L105, L106, L112, L114, L115, L119, L122, L160, L180, L200, L255, L1440, L24880, L63, Lm2, pX9_most, c0.all, gc, s0', Int.reduceEq, q]
            · by_cases y5 : y = 5
              · subst y5
                refine ⟨M, ?_, ⟨np, d, fw, ff, h⟩, fr.rfl⟩
                have q := st_laid (n := n) (by omega) hO hC
                have ce : ∀ k, k ≤ 3 → cbN (fun i => isCu C i) k = cbN (fun i => isCu T.2.2.1 i) k := by
                  intro k
                  induction k with
                  | zero => intro _; rfl
                  | succ k ih =>
                    intro hk
                    have ei : isCu C (k : Int) = isCu T.2.2.1 (k : Int) := by
                      unfold isCu
                      rw [Int.toNat_natCast, eC k (by omega)]
                    simp only [cbN]
                    rw [ih (by omega)]
                    simp only [ei]
                rw [ce 3 (by omega)] at q
                simp (disch := (first | assumption | (refine sm_of ?_ ?_ <;> omega) | fail)) only [iI_add, iI_sub, iI_mul, iI_neg, iI_lt, iI_le, iI_eq, b1_s, b2_s, ↓reduceIte, L0, L1, L2, L3, L4, L5, L6, L7, L8, L9, L10, L12, L20, L22, L24, L26, L27, L28, L32, L40, L60, L73, L95, L97, L222, L240, L441, L442, L622, Lm1, Lmh, L11, L13, L14, L15, L16, L17, L18, L19, L21, L23, L25, L30, L31, L33, L36, L39, L41, L44, L48, L53, L54, L55, L57, L58, L59, L91, L93, L98, L99, L100, L105, L106, L112, L114, L115, L119, L122, L160, L180, L200, L255, L1440, L24880, L63, Lm2, pX9_most, c0.all, gc, s0', Int.reduceEq, q]
              · by_cases y6 : y = 6
                · subst y6
                  refine ⟨M, ?_, ⟨np, d, fw, ff, h⟩, fr.rfl⟩
                  have q := st_within (n := n) (by omega) hO hLv
                  rw [← e, cl] at q
                  simp (disch := (first | assumption | (refine sm_of ?_ ?_ <;> omega) | fail)) only [iI_add, iI_sub, iI_mul, iI_neg, iI_lt, iI_le, iI_eq, b1_s, b2_s, ↓reduceIte, L0, L1, L2, L3, L4, L5, L6, L7, L8, L9, L10, L12, L20, L22, L24, L26, L27, L28, L32, L40, L60, L73, L95, L97, L222, L240, L441, L442, L622, Lm1, Lmh, L11, L13, L14, L15, L16, L17, L18, L19, L21, L23, L25, L30, L31, L33, L36, L39, L41, L44, L48, L53, L54, L55, L57, L58, L59, L91, L93, L98, L99, L100, L105, L106, L112, L114, L115, L119, L122, L160, L180, L200, L255, L1440, L24880, L63, Lm2, pX9_most, c0.all, gc, s0', Int.reduceEq, q]
                · refine ⟨M, ?_, ⟨np, d, fw, ff, h⟩, fr.rfl⟩
                  simp (disch := (first | assumption | (refine sm_of ?_ ?_ <;> omega) | fail)) only [iI_add, iI_sub, iI_mul, iI_neg, iI_lt, iI_le, iI_eq, b1_s, b2_s, ↓reduceIte, L0, L1, L2, L3, L4, L5, L6, L7, L8, L9, L10, L12, L20, L22, L24, L26, L27, L28, L32, L40, L60, L73, L95, L97, L222, L240, L441, L442, L622, Lm1, Lmh, L11, L13, L14, L15, L16, L17, L18, L19, L21, L23, L25, L30, L31, L33, L36, L39, L41, L44, L48, L53, L54, L55, L57, L58, L59, L91, L93, L98, L99, L100, L105, L106, L112, L114, L115, L119, L122, L160, L180, L200, L255, L1440, L24880, L63, Lm2, pX9_most, c0.all, gc, s0', y0, y1, y2, y3, y4, y5, y6]
theorem appF {tp F : List Int} (hl : tp.length ≤ 240) : ((appL tp F).1 = false → feedK tp (F.filter nz) = (-1, tp)) ∧ ((appL tp F).1 = true → feedK tp (F.filter nz) = (((appL tp F).2.length : Int), (appL tp F).2)) := by
  obtain ⟨a1, a2, -, -⟩ := appL_ok tp F
  unfold feedK
  by_cases c : 240 < tp.length + (F.filter nz).length
  · rw [if_pos c]
    refine ⟨fun _ => rfl, fun z => ?_⟩
    rw [a2 c hl] at z; cases z
  · rw [if_neg c, a1 (by omega)]
    refine ⟨fun z => (by cases z), fun _ => ?_⟩
    simp
theorem app_k {tp t1 L : List Int} (h1 : tp.length ≤ t1.length) (h2 : t1.take tp.length = tp) : tp.length ≤ (appL t1 L).2.length ∧ (appL t1 L).2.take tp.length = tp := by
  obtain ⟨-, -, b1, b2⟩ := appL_ok t1 L
  refine ⟨by omega, ?_⟩
  have := congrArg (List.take tp.length) b2
  rw [List.take_take, Nat.min_eq_left h1, h2] at this
  exact this
theorem c_fdF {n : Nat} {t1 : List Int} {M : mm_M} {ax : Nat} {B : Int} {hi : Bool} {np cp ns : Nat} {d : Int64} {tp : List Int} {T : kT} {wd : List Int} {ps : List kT} {im : Option kT} {sc : List (List kS)} {rf : Nat → Int} {fw ff : Bool} (h : ClW M ax B hi np cp ns d t1 T wd ps im sc rf fw ff) (h1 : tp.length ≤ t1.length) (h2 : t1.take tp.length = tp) : ∃ M1, pX9_feed_b71 n M ax (iI tp.length) (iI 0) = some (iI (-1), M1) ∧ ClW M1 ax B hi np cp ns d tp T wd ps im sc rf fw ff ∧ fr M M1 ax 2875 := by
  have t := h.2.1
  obtain ⟨M1, e1, s1, f1⟩ := tr_cut t h1
  rw [h2] at s1
  refine ⟨M1, ?_, h.s1 f1 (by omega) s1, f1.mono (by omega) (by omega)⟩
  simp (disch := (first | assumption | (refine sm_of ?_ ?_ <;> omega) | fail)) only [iI_add, iI_sub, iI_mul, iI_neg, iI_lt, iI_le, iI_eq, b1_s, b2_s, ↓reduceIte, L0, L1, L2, L3, L4, L5, L6, L7, L8, L9, L10, L12, L20, L22, L24, L26, L27, L28, L32, L40, L60, L73, L95, L97, L222, L240, L441, L442, L622, Lm1, Lmh, L11, L13, L14, L15, L16, L17, L18, L19, L21, L23, L25, L30, L31, L33, L36, L39, L41, L44, L48, L53, L54, L55, L57, L58, L59, L91, L93, L98, L99, L100, L105, L106, L112, L114, L115, L119, L122, L160, L180, L200, L255, L1440, L24880, L63, Lm2, pX9_feed_b71, h.1.all, e1]
theorem k_feed {n : Nat} (hn : 300 ≤ n) {M : mm_M} {ax : Nat} {B : Int} {tp : List Int} {T : kT} {wd : List Int} {ps : List kT} {im : Option kT} {sc : List (List kS)} {rf : Nat → Int} (h : Cls M ax B tp T wd ps im sc rf) (x1 x2 x3 x4 x5 : Int32) : ∃ M', pX9_feed n M ax x1 x2 x3 x4 x5 = some (iI (feedK tp ((fd20 x1 x2 x3 x4 x5).filter nz)).1, M') ∧ Cls M' ax B (feedK tp ((fd20 x1 x2 x3 x4 x5).filter nz)).2 T wd ps im sc rf ∧ fr M M' ax 2875 := by
  obtain ⟨np, d, fw, ff, h⟩ := h
  have ts := tr_size h.2.1
  have l240 := h.2.1.1
  obtain ⟨aF, aT⟩ := appF (F := fd20 x1 x2 x3 x4 x5) l240
  unfold fd20 at aF aT ⊢
  have step : ∀ {M : mm_M} {t1 : List Int} (x : Int32), ClW M ax B im.isSome np ps.length sc.length d t1 T wd ps im sc rf fw ff → ∃ M1, pX8_append n M (ax + 1) x = some (bI (appL t1 (by4 x)).1, M1) ∧ ClW M1 ax B im.isSome np ps.length sc.length d (appL t1 (by4 x)).2 T wd ps im sc rf fw ff ∧ fr M M1 ax 2875 := by
    intro M t1 x h
    obtain ⟨M1, e1, s1, f1⟩ := tr_app (n := n) (by omega) h.2.1 x
    exact ⟨M1, e1, h.s1 f1 (by omega) s1, f1.mono (by omega) (by omega)⟩
  obtain ⟨M1, e1, h1, f1⟩ := step x1 h
  have k1 := app_k (L := by4 x1) (Nat.le_refl tp.length) (List.take_length)
  rw [appL_app] at aF aT
  cases b1 : (appL tp (by4 x1)).1
  · rw [b1] at e1 aF
    rw [if_neg (by decide)] at aF
    obtain ⟨M9, e9, h9, f9⟩ := c_fdF (n := n) h1 k1.1 k1.2
    rw [aF b1]
    refine ⟨M9, ?_, ⟨np, d, fw, ff, h9⟩, f1.trans f9⟩
    simp (disch := (first | assumption | (refine sm_of ?_ ?_ <;> omega) | fail)) only [iI_add, iI_sub, iI_mul, iI_neg, iI_lt, iI_le, iI_eq, b1_s, b2_s, ↓reduceIte, L0, L1, L2, L3, L4, L5, L6, L7, L8, L9, L10, L12, L20, L22, L24, L26, L27, L28, L32, L40, L60, L73, L95, L97, L222, L240, L441, L442, L622, Lm1, Lmh, L11, L13, L14, L15, L16, L17, L18, L19, L21, L23, L25, L30, L31, L33, L36, L39, L41, L44, L48, L53, L54, L55, L57, L58, L59, L91, L93, L98, L99, L100, L105, L106, L112, L114, L115, L119, L122, L160, L180, L200, L255, L1440, L24880, L63, Lm2, pX9_feed, h.1.all, ts, e1, bI_f, e9]
  rw [b1] at e1 aF aT
  rw [if_pos rfl] at aF aT
  obtain ⟨M2, e2, h2, f2⟩ := step x2 h1
  have k2 := app_k (L := by4 x2) k1.1 k1.2
  generalize (appL tp (by4 x1)).2 = t1 at *
  rw [appL_app] at aF aT
  cases b2 : (appL t1 (by4 x2)).1
  · rw [b2] at e2 aF
    rw [if_neg (by decide)] at aF
    obtain ⟨M9, e9, h9, f9⟩ := c_fdF (n := n) h2 k2.1 k2.2
    rw [aF b2]
    refine ⟨M9, ?_, ⟨np, d, fw, ff, h9⟩, (f1.trans f2).trans f9⟩
    simp (disch := (first | assumption | (refine sm_of ?_ ?_ <;> omega) | fail)) only [iI_add, iI_sub, iI_mul, iI_neg, iI_lt, iI_le, iI_eq, b1_s, b2_s, ↓reduceIte, L0, L1, L2, L3, L4, L5, L6, L7, L8, L9, L10, L12, L20, L22, L24, L26, L27, L28, L32, L40, L60, L73, L95, L97, L222, L240, L441, L442, L622, Lm1, Lmh, L11, L13, L14, L15, L16, L17, L18, L19, L21, L23, L25, L30, L31, L33, L36, L39, L41, L44, L48, L53, L54, L55, L57, L58, L59, L91, L93, L98, L99, L100, L105, L106, L112, L114, L115, L119, L122, L160, L180, L200, L255, L1440, L24880, L63, Lm2, pX9_feed, h.1.all, ts, e1, bI_t, Int.reduceEq, h1.1.all, e2, bI_f, e9]
  rw [b2] at e2 aF aT
  rw [if_pos rfl] at aF aT
  obtain ⟨M3, e3, h3, f3⟩ := step x3 h2
  have k3 := app_k (L := by4 x3) k2.1 k2.2
  generalize (appL t1 (by4 x2)).2 = t2 at *
  rw [appL_app] at aF aT
  cases b3 : (appL t2 (by4 x3)).1
  · rw [b3] at e3 aF
    rw [if_neg (by decide)] at aF
    obtain ⟨M9, e9, h9, f9⟩ := c_fdF (n := n) h3 k3.1 k3.2
    rw [aF b3]
    refine ⟨M9, ?_, ⟨np, d, fw, ff, h9⟩, ((f1.trans f2).trans f3).trans f9⟩
    simp (disch := (first | assumption | (refine sm_of ?_ ?_ <;> omega) | fail)) only [iI_add, iI_sub, iI_mul, iI_neg, iI_lt, iI_le, iI_eq, b1_s, b2_s, ↓reduceIte, L0, L1, L2, L3, L4, L5, L6, L7, L8, L9, L10, L12, L20, L22, L24, L26, L27, L28, L32, L40, L60, L73, L95, L97, L222, L240, L441, L442, L622, Lm1, Lmh, L11, L13, L14, L15, L16, L17, L18, L19, L21, L23, L25, L30, L31, L33, L36, L39, L41, L44, L48, L53, L54, L55, L57, L58, L59, L91, L93, L98, L99, L100, L105, L106, L112, L114, L115, L119, L122, L160, L180, L200, L255, L1440, L24880, L63, Lm2, pX9_feed, h.1.all, ts, e1, bI_t, Int.reduceEq, h1.1.all, e2, h2.1.all, e3, bI_f, e9]
  rw [b3] at e3 aF aT
  rw [if_pos rfl] at aF aT
  obtain ⟨M4, e4, h4, f4⟩ := step x4 h3
  have k4 := app_k (L := by4 x4) k3.1 k3.2
  generalize (appL t2 (by4 x3)).2 = t3 at *
  rw [appL_app] at aF aT
  cases b4 : (appL t3 (by4 x4)).1
  · rw [b4] at e4 aF
    rw [if_neg (by decide)] at aF
    obtain ⟨M9, e9, h9, f9⟩ := c_fdF (n := n) h4 k4.1 k4.2
    rw [aF b4]
    refine ⟨M9, ?_, ⟨np, d, fw, ff, h9⟩, (((f1.trans f2).trans f3).trans f4).trans f9⟩
    simp (disch := (first | assumption | (refine sm_of ?_ ?_ <;> omega) | fail)) only [iI_add, iI_sub, iI_mul, iI_neg, iI_lt, iI_le, iI_eq, b1_s, b2_s, ↓reduceIte, L0, L1, L2, L3, L4, L5, L6, L7, L8, L9, L10, L12, L20, L22, L24, L26, L27, L28, L32, L40, L60, L73, L95, L97, L222, L240, L441, L442, L622, Lm1, Lmh, L11, L13, L14, L15, L16, L17, L18, L19, L21, L23, L25, L30, L31, L33, L36, L39, L41, L44, L48, L53, L54, L55, L57, L58, L59, L91, L93, L98, L99, L100, L105, L106, L112, L114, L115, L119, L122, L160, L180, L200, L255, L1440, L24880, L63, Lm2, pX9_feed, h.1.all, ts, e1, bI_t, Int.reduceEq, h1.1.all, e2, h2.1.all, e3, h3.1.all, e4, bI_f, e9]
  rw [b4] at e4 aF aT
  rw [if_pos rfl] at aF aT
  obtain ⟨M5, e5, h5, f5⟩ := step x5 h4
  have k5 := app_k (L := by4 x5) k4.1 k4.2
  generalize (appL t3 (by4 x4)).2 = t4 at *
  cases b5 : (appL t4 (by4 x5)).1
  · rw [b5] at e5
    obtain ⟨M9, e9, h9, f9⟩ := c_fdF (n := n) h5 k5.1 k5.2
    rw [aF b5]
    refine ⟨M9, ?_, ⟨np, d, fw, ff, h9⟩, ((((f1.trans f2).trans f3).trans f4).trans f5).trans f9⟩
    simp (disch := (first | assumption | (refine sm_of ?_ ?_ <;> omega) | fail)) only [iI_add, iI_sub, iI_mul, iI_neg, iI_lt, iI_le, iI_eq, b1_s, b2_s, ↓reduceIte, L0, L1, L2, L3, L4, L5, L6, L7, L8, L9, L10, L12, L20, L22, L24, L26, L27, L28, L32, L40, L60, L73, L95, L97, L222, L240, L441, L442, L622, Lm1, Lmh, L11, L13, L14, L15, L16, L17, L18, L19, L21, L23, L25, L30, L31, L33, L36, L39, L41, L44, L48, L53, L54, L55, L57, L58, L59, L91, L93, L98, L99, L100, L105, L106, L112, L114, L115, L119, L122, L160, L180, L200, L255, L1440, L24880, L63, Lm2, pX9_feed, h.1.all, ts, e1, bI_t, Int.reduceEq, h1.1.all, e2, h2.1.all, e3, h3.1.all, e4, h4.1.all, e5, bI_f, e9]
  rw [b5] at e5
  rw [aT b5]
  refine ⟨M5, ?_, ⟨np, d, fw, ff, h5⟩, (((f1.trans f2).trans f3).trans f4).trans f5⟩
  simp (disch := (first | assumption | (refine sm_of ?_ ?_ <;> omega) | fail)) only [iI_add, iI_sub, iI_mul, iI_neg, iI_lt, iI_le, iI_eq, b1_s, b2_s, ↓reduceIte, L0, L1, L2, L3, L4, L5, L6, L7, L8, L9, L10, L12, L20, L22, L24, L26, L27, L28, L32, L40, L60, L73, L95, L97, L222, L240, L441, L442, L622, Lm1, Lmh, L11, L13, L14, L15, L16, L17, L18, L19, L21, L23, L25, L30, L31, L33, L36, L39, L41, L44, L48, L53, L54, L55, L57, L58, L59, L91, L93, L98, L99, L100, L105, L106, L112, L114, L115, L119, L122, L160, L180, L200, L255, L1440, L24880, L63, Lm2, pX9_feed, h.1.all, ts, e1, bI_t, Int.reduceEq, h1.1.all, e2, h2.1.all, e3, h3.1.all, e4, h4.1.all, e5, pX9_feed_b71, h5.1.all, tr_size h5.2.1]
theorem k_end {n : Nat} {M : mm_M} {ax : Nat} {B : Int} {tp : List Int} {T : kT} {wd : List Int} {ps : List kT} {im : Option kT} {sc : List (List kS)} {rf : Nat → Int} (h : Cls M ax B tp T wd ps im sc rf) {x : Int} (hx : sm x) : ∃ M', pX9_end n M ax (iI x) = some (bI (decide (0 ≤ x ∧ x ≤ tp.length)), M') ∧ Cls M' ax B (if 0 ≤ x ∧ x ≤ tp.length then tp.take x.toNat else tp) T wd ps im sc rf ∧ fr M M' ax 2875 := by
  obtain ⟨np, d, fw, ff, h⟩ := h
  have ts := tr_size h.2.1
  have l240 := h.2.1.1
  by_cases x0 : x < 0
  · rw [decide_eq_false (by omega), if_neg (by omega)]
    refine ⟨M, ?_, ⟨np, d, fw, ff, h⟩, fr.rfl⟩
    simp (disch := (first | assumption | (refine sm_of ?_ ?_ <;> omega) | fail)) only [iI_add, iI_sub, iI_mul, iI_neg, iI_lt, iI_le, iI_eq, b1_s, b2_s, ↓reduceIte, L0, L1, L2, L3, L4, L5, L6, L7, L8, L9, L10, L12, L20, L22, L24, L26, L27, L28, L32, L40, L60, L73, L95, L97, L222, L240, L441, L442, L622, Lm1, Lmh, L11, L13, L14, L15, L16, L17, L18, L19, L21, L23, L25, L30, L31, L33, L36, L39, L41, L44, L48, L53, L54, L55, L57, L58, L59, L91, L93, L98, L99, L100, L105, L106, L112, L114, L115, L119, L122, L160, L180, L200, L255, L1440, L24880, L63, Lm2, pX9_end, h.1.all, x0]
    rfl
  · obtain ⟨k, rfl⟩ := Int.eq_ofNat_of_zero_le (show 0 ≤ x by omega)
    by_cases x1 : (k : Int) ≤ tp.length
    · rw [decide_eq_true (by omega), if_pos (by omega), Int.toNat_natCast]
      obtain ⟨M1, e1, s1, f1⟩ := tr_cut h.2.1 (k := k) (by omega)
      refine ⟨M1, ?_, ⟨np, d, fw, ff, h.s1 f1 (by omega) s1⟩, f1.mono (by omega) (by omega)⟩
      simp (disch := (first | assumption | (refine sm_of ?_ ?_ <;> omega) | fail)) only [iI_add, iI_sub, iI_mul, iI_neg, iI_lt, iI_le, iI_eq, b1_s, b2_s, ↓reduceIte, L0, L1, L2, L3, L4, L5, L6, L7, L8, L9, L10, L12, L20, L22, L24, L26, L27, L28, L32, L40, L60, L73, L95, L97, L222, L240, L441, L442, L622, Lm1, Lmh, L11, L13, L14, L15, L16, L17, L18, L19, L21, L23, L25, L30, L31, L33, L36, L39, L41, L44, L48, L53, L54, L55, L57, L58, L59, L91, L93, L98, L99, L100, L105, L106, L112, L114, L115, L119, L122, L160, L180, L200, L255, L1440, L24880, L63, Lm2, pX9_end, h.1.all, x0, ts, x1, e1]
      rfl
    · rw [decide_eq_false (by omega), if_neg (by omega)]
      refine ⟨M, ?_, ⟨np, d, fw, ff, h⟩, fr.rfl⟩
      simp (disch := (first | assumption | (refine sm_of ?_ ?_ <;> omega) | fail)) only [iI_add, iI_sub, iI_mul, iI_neg, iI_lt, iI_le, iI_eq, b1_s, b2_s, ↓reduceIte, L0, L1, L2, L3, L4, L5, L6, L7, L8, L9, L10, L12, L20, L22, L24, L26, L27, L28, L32, L40, L60, L73, L95, L97, L222, L240, L441, L442, L622, Lm1, Lmh, L11, L13, L14, L15, L16, L17, L18, L19, L21, L23, L25, L30, L31, L33, L36, L39, L41, L44, L48, L53, L54, L55, L57, L58, L59, L91, L93, L98, L99, L100, L105, L106, L112, L114, L115, L119, L122, L160, L180, L200, L255, L1440, L24880, L63, Lm2, pX9_end, h.1.all, x0, ts, x1]
      rfl
theorem c_stX {n : Nat} (hn : 300 ≤ n) {M : mm_M} {ax : Nat} {B : Int} {hi : Bool} {np cp ns : Nat} {d : Int64} {tp : List Int} {T : kT} {wd : List Int} {ps : List kT} {im : Option kT} {sc : List (List kS)} {rf : Nat → Int} {fw ff : Bool} (h : ClW M ax B hi np cp ns d tp T wd ps im sc rf fw ff) (hB : 0 ≤ B) : ∃ M1 C, pX8_storeFault n M (ax + 1) (ax + 3) = some (iI (stF tp 8 0).1, M1) ∧ ClW M1 ax B hi np cp ns d tp T wd ps im sc rf fw ff ∧ ((stF tp 8 0).1 = -1 → St M1 (ax + 3) B (numL (stF tp 8 0).2, ((stF tp 8 0).2.length : Int), C, [])) ∧ (∀ c, okU (C c) ∧ (C c).2.1 = 0) ∧ fr M M1 ax 2875 := by
  have h' := h
  obtain ⟨c0, c1, c2, c3, c4, c5, c6, c7, c8, c9, c10, c11, c12, c13, c14, c15⟩ := h'
  obtain ⟨T0, t0⟩ := c2
  obtain ⟨M1, T1, e1, s1, t1, q1, f1⟩ := c_store hn (by omega) c1 hB t0
  obtain ⟨Mm, fa, fb⟩ := f1.split
  have h1 := h.s1 fa (by omega) (s1.fr fb.symm (by omega))
  have h2 := h1.s2 fb (by omega) ⟨_, t1⟩
  refine ⟨M1, fun i => noU (T0.2.2.1 i), e1, h2, fun z => by rw [← q1 z]; exact t1, fun c => ⟨⟨by show (0 : Int) ≤ 0; omega, by show (0 : Int) ≤ 9; omega, fun z => absurd rfl z, (fun z => (by cases z)), by show 0 ≤ 9; omega, nb0⟩, rfl⟩, (fa.mono (by omega) (by omega)).trans (fb.mono (by omega) (by omega))⟩
theorem c_scX {n : Nat} (hn : 300 ≤ n) {M : mm_M} {ax : Nat} {B : Int} {hi : Bool} {np cp ns : Nat} {d : Int64} {tp : List Int} {T : kT} {wd : List Int} {ps : List kT} {im : Option kT} {sc : List (List kS)} {rf : Nat → Int} {fw ff : Bool} (h : ClW M ax B hi np cp ns d tp T wd ps im sc rf fw ff) : ∃ M1, pX8_scriptFault n M (ax + 1) (ax + 2685 + 38 * sc.length) = some (iI (scF tp 12 0).1, M1) ∧ ClW M1 ax B hi np cp ns d tp T wd ps im sc rf fw ff ∧ ((scF tp 12 0).1 = -1 → sc.length < 4 → ClW M1 ax B hi np cp ns d tp T wd ps im (sc ++ [(scF tp 12 0).2]) rf fw ff) ∧ fr M M1 ax 2875 := by
  have h' := h
  obtain ⟨c0, c1, c2, c3, c4, c5, c6, c7, c8, c9, c10, c11, c12, c13, c14, c15⟩ := h'
  obtain ⟨l4, v1, v2⟩ := c15
  obtain ⟨M1, e1, s1, a1, q1, f1⟩ := c_script hn (by omega) c1 (v1 sc.length (by omega))
  obtain ⟨Mm, fa, fb⟩ := f1.split
  have h1 := h.s1 fa (by omega) (s1.fr fb.symm (by omega))
  have vm := h1.2.2.2.2.2.2.2.2.2.2.2.2.2.2.2
  have A : ∀ i, i < 5 → ScA M1 (ax + 2685 + 38 * i) := fun i hi => by
    by_cases e : i = sc.length
    · rw [e]; exact a1
    · exact (vm.2.1 i hi).fr fb (by omega)
  have Bv : ∀ i, i < sc.length → Sc M1 (ax + 2685 + 38 * i) (sc.getD i []) := fun i hi => (vm.2.2 i hi).fr fb (by omega)
  have h2 := h1.s15 fb (by omega) ⟨l4, A, Bv⟩
  refine ⟨M1, e1, h2, fun z z4 => h1.s15 fb (by omega) ⟨by simp; omega, A, fun i hi => ?_⟩, (fa.mono (by omega) (by omega)).trans (fb.mono (by omega) (by omega))⟩
  simp at hi
  by_cases e : i = sc.length
  · subst e
    have := q1 z
    simpa using this
  · have := Bv i (by omega)
    rw [List.getD_eq_getElem?_getD, List.getElem?_append_left (by omega), ← List.getD_eq_getElem?_getD]
    exact this
