/-! the class: drawing -/
/-- what a draw is, whatever the numbers are -/
def Drw (n ax : Nat) (nx : Int64 → Int64) (dn : Int64 → Nat → Nat) : Prop := ∀ (M : mm_M) (hi : Bool) (np cp ns : Nat) (d : Int64), CO M ax hi np cp ns d → ∀ c : Nat, 1 ≤ c → c ≤ 11 → ∃ M1, pX9_draw n M ax (iI c) = some (iI (dn (nx d) c), M1) ∧ CO M1 ax hi np cp ns (nx d) ∧ fr M M1 ax 1
theorem drw_ok (n ax : Nat) : Drw n ax nxD drN := by
  intro M hi np cp ns d h c h1 h2
  obtain ⟨M1, e1, s1, f1⟩ := co_p17 h (nxD d)
  have gl : mm_gl 9 17 M1 ax = some (nxD d) := gl_at s1 17 rfl
  refine ⟨M1, ?_, s1, f1⟩
  have c1 : (iI 1 ≤ iI c) = True := by rw [iI_le (sm_of (by omega) (by omega)) (sm_of (by omega) (by omega))]; exact eq_true (by omega)
  have e1 : mm_pl 9 17 M ax (d * 6364136223846793005 + 1442695040888963407) = some M1 := e1
  simp only [pX9_draw, h.all, b1_s, e1, L1, c1, ↓reduceIte, gl, t64_0 h1 h2]
  rw [dr_eq (nxD d) h1 h2]
theorem dr_sg {v : Nat} (h : v < 3) : mm_dr (iI v) = some (iI (sgB v)) := by
  rcases (show v = 0 ∨ v = 1 ∨ v = 2 by omega) with rfl | rfl | rfl <;> decide
theorem c_dr {n : Nat} {nx : Int64 → Int64} {dn : Int64 → Nat → Nat} {M : mm_M} {ax : Nat} {B : Int} {hi : Bool} {np cp ns : Nat} {d : Int64} {tp : List Int} {T : kT} {wd : List Int} {ps : List kT} {im : Option kT} {sc : List (List kS)} {rf : Nat → Int} {fw ff : Bool} (hD : Drw n ax nx dn) (h : ClW M ax B hi np cp ns d tp T wd ps im sc rf fw ff) {c : Nat} (h1 : 1 ≤ c) (h2 : c ≤ 11) : ∃ M1, pX9_draw n M ax (iI c) = some (iI (dn (nx d) c), M1) ∧ ClW M1 ax B hi np cp ns (nx d) tp T wd ps im sc rf fw ff ∧ fr M M1 ax 1 := by
  obtain ⟨M1, e1, s1, f1⟩ := hD M hi np cp ns d h.1 c h1 h2
  exact ⟨M1, e1, h.s0 f1 (by omega) s1 (fun z => z), f1⟩
theorem c_drS {n : Nat} (hn : 300 ≤ n) {nx : Int64 → Int64} {dn : Int64 → Nat → Nat} (hd : ∀ d c, 1 ≤ c → dn d c < c) {M : mm_M} {ax : Nat} {B : Int} {hi : Bool} {np cp ns : Nat} {d : Int64} {tp : List Int} {T : kT} {wd : List Int} {ps : List kT} {im : Option kT} {sc : List (List kS)} {rf : Nat → Int} {fw ff : Bool} (hD : Drw n ax nx dn) (h : ClW M ax B hi np cp ns d tp T wd ps im sc rf fw ff) {s x y : Int} (hp : SpZ M (ax + 134) (s, x, y, [])) : ∃ M1, pX9_drawSigns n M ax = some M1 ∧ ClW M1 ax B hi np cp ns (drS nx dn (dn (nx d) 6 + 1) (nx d)).2 tp T wd ps im sc rf fw ff ∧ SpZ M1 (ax + 134) (s, x, y, (drS nx dn (dn (nx d) 6 + 1) (nx d)).1) ∧ fr M M1 ax 2875 := by
  have loop : ∀ (k r i : Nat) (M : mm_M) (d : Int64) (xs : List Int), ClW M ax B hi np cp ns d tp T wd ps im sc rf fw ff → SpZ M (ax + 134) (s, x, y, xs) → xs.length = i → i + r ≤ 6 → r < k → ∃ M1, pX9_drawSigns_l11 n k M ax (iI ((i + r : Nat) : Int)) (iI i) = some M1 ∧ ClW M1 ax B hi np cp ns (drS nx dn r d).2 tp T wd ps im sc rf fw ff ∧ SpZ M1 (ax + 134) (s, x, y, xs ++ (drS nx dn r d).1) ∧ fr M M1 ax 2875 := by
    intro k
    induction k with
    | zero => intro r i M d xs _ _ _ _ a; omega
    | succ k ih =>
      intro r i M d xs h hp hl h6 hk
      show ∃ M1, pX9_drawSigns_l11b n (pX9_drawSigns_l11 n k) M ax (iI ((i + r : Nat) : Int)) (iI i) = _ ∧ _
      cases r with
      | zero =>
        refine ⟨M, ?_, h, by show SpZ M _ (s, x, y, xs ++ []); rw [List.append_nil]; exact hp, fr.rfl⟩
        simp (disch := (first | assumption | (refine sm_of ?_ ?_ <;> omega) | fail)) only [iI_add, iI_sub, iI_mul, iI_neg, iI_lt, iI_le, iI_eq, b1_s, b2_s, ↓reduceIte, L0, L1, L2, L3, L4, L5, L6, L7, L8, L9, L10, L12, L20, L22, L24, L26, L27, L28, L32, L40, L60, L73, L95, L97, L222, L240, L441, L442, L622, Lm1, Lmh, L11, L13, L14, L15, L16, L17, L18, L19, L21, L23, L25, L30, L31, L33, L36, L39, L41, L44, L48, L53, L54, L55, L57, L58, L59, L91, L93, L98, L99, L100, L105, L106, L112, L114, L115, L119, L122, L160, L180, L200, L255, L1440, L24880, L63, Lm2, pX9_drawSigns_l11b, show (((i + 0 : Nat) : Int) ≤ i) = True from eq_true (by omega)]
      | succ r =>
        obtain ⟨M1, e1, b1, f1⟩ := c_dr hD h (c := 3) (by omega) (by omega)
        have e1 : pX9_draw n M ax (iI 3) = _ := e1
        have v3 := hd (nx d) 3 (by omega)
        have sb : 0 ≤ sgB (dn (nx d) 3) ∧ sgB (dn (nx d) 3) < 256 := by unfold sgB; (repeat' split) <;> omega
        have p1 : SpZ M1 (ax + 134) (s, x, y, xs) := Sp.fr hp f1 (by omega)
        obtain ⟨M2, e2, s2, f2⟩ := sg_add (n := n) p1.2 (by show xs.length < 20; omega) sb
        have p2 : SpZ M2 (ax + 134) (s, x, y, xs ++ [sgB (dn (nx d) 3)]) := ⟨f2.at p1.1 (by omega), s2⟩
        have b2 := b1.s8 f2 (by omega) ⟨_, _, _, _, p2⟩
        obtain ⟨M3, e3, b3, p3, f3⟩ := ih r (i + 1) M2 (nx d) _ b2 p2 (by simp; omega) (by omega) (by omega)
        rw [show i + 1 + r = i + (r + 1) by omega] at e3
        refine ⟨M3, ?_, b3, ?_, ((f1.mono (by omega) (by omega)).trans (f2.mono (by omega) (by omega))).trans f3⟩
        · simp (disch := (first | assumption | (refine sm_of ?_ ?_ <;> omega) | fail)) only [iI_add, iI_sub, iI_mul, iI_neg, iI_lt, iI_le, iI_eq, b1_s, b2_s, ↓reduceIte, L0, L1, L2, L3, L4, L5, L6, L7, L8, L9, L10, L12, L20, L22, L24, L26, L27, L28, L32, L40, L60, L73, L95, L97, L222, L240, L441, L442, L622, Lm1, Lmh, L11, L13, L14, L15, L16, L17, L18, L19, L21, L23, L25, L30, L31, L33, L36, L39, L41, L44, L48, L53, L54, L55, L57, L58, L59, L91, L93, L98, L99, L100, L105, L106, L112, L114, L115, L119, L122, L160, L180, L200, L255, L1440, L24880, L63, Lm2, pX9_drawSigns_l11b, show ¬ (((i + (r + 1) : Nat) : Int) ≤ i) by omega, h.1.all, gr_at hp.1 3 rfl, e1, dr_sg v3, e2]
          rw [show ((i : Int) + 1) = ((i + 1 : Nat) : Int) by omega]
          exact e3
        · rw [List.append_assoc] at p3
          exact p3
  obtain ⟨M1, e1, b1, f1⟩ := c_dr hD h (c := 6) (by omega) (by omega)
  have e1 : pX9_draw n M ax (iI 6) = _ := e1
  have v6 := hd (nx d) 6 (by omega)
  obtain ⟨M2, e2, b2, p2, f2⟩ := loop n (dn (nx d) 6 + 1) 0 M1 (nx d) [] b1 (Sp.fr hp f1 (by omega)) rfl (by omega) (by omega)
  rw [Nat.zero_add] at e2
  have e2 : pX9_drawSigns_l11 n n M1 ax (iI ((dn (nx d) 6 : Int) + 1)) (iI 0) = _ := e2
  refine ⟨M2, ?_, b2, p2, (f1.mono (by omega) (by omega)).trans f2⟩
  simp (disch := (first | assumption | (refine sm_of ?_ ?_ <;> omega) | fail)) only [iI_add, iI_sub, iI_mul, iI_neg, iI_lt, iI_le, iI_eq, b1_s, b2_s, ↓reduceIte, L0, L1, L2, L3, L4, L5, L6, L7, L8, L9, L10, L12, L20, L22, L24, L26, L27, L28, L32, L40, L60, L73, L95, L97, L222, L240, L441, L442, L622, Lm1, Lmh, L11, L13, L14, L15, L16, L17, L18, L19, L21, L23, L25, L30, L31, L33, L36, L39, L41, L44, L48, L53, L54, L55, L57, L58, L59, L91, L93, L98, L99, L100, L105, L106, L112, L114, L115, L119, L122, L160, L180, L200, L255, L1440, L24880, L63, Lm2, pX9_drawSigns, h.1.all, e1, e2]
theorem c_way {n : Nat} (hn : 300 ≤ n) {nx : Int64 → Int64} {dn : Int64 → Nat → Nat} (hd : ∀ d c, 1 ≤ c → dn d c < c) {M : mm_M} {ax : Nat} {B : Int} {hi : Bool} {np cp ns : Nat} {d : Int64} {tp : List Int} {T : kT} {wd : List Int} {ps : List kT} {im : Option kT} {sc : List (List kS)} {rf : Nat → Int} {fw ff : Bool} (hD : Drw n ax nx dn) (h : ClW M ax B hi np cp ns d tp T wd ps im sc rf fw ff) (hne : T.1.length ≠ 0) : ∃ M1, pX9_drawAct n M ax = some M1 ∧ ClW M1 ax B hi np cp ns (wayA nx dn d T.1.length).2 tp T wd ps im sc rf fw ff ∧ SpZ M1 (ax + 134) (wayA nx dn d T.1.length).1 ∧ fr M M1 ax 2875 := by
  obtain ⟨M1, e1, b1, f1⟩ := c_dr hD h (c := 8) (by omega) (by omega)
  have e1 : pX9_draw n M ax (iI 8) = _ := e1
  have v8 := hd (nx d) 8 (by omega)
  obtain ⟨gn, g10⟩ := st_n b1.2.2.2.2.2.2.2.2.2.2.2.1
  have fx1 := f1.mono (show ax ≤ ax by omega) (show ax + 1 ≤ ax + 2875 by omega)
  unfold wayA
  generalize hv : dn (nx d) 8 = v at *
  by_cases c2 : v ≤ 2
  · rw [if_pos c2]
    obtain ⟨M2, e2, b2, f2⟩ := c_dr hD b1 (c := T.1.length) (by omega) (by omega)
    have q2 := hd (nx (nx d)) T.1.length (by omega)
    obtain ⟨M3, e3, b3, p3, f3⟩ := c_tell (n := n) b2 0 (dn (nx (nx d)) T.1.length) (-1000000)
    obtain ⟨M4, e4, b4, p4, f4⟩ := c_drS hn hd hD b3 p3
    refine ⟨M4, ?_, b4, p4, ((fx1.trans (f2.mono (by omega) (by omega))).trans f3).trans f4⟩
    simp (disch := (first | assumption | (refine sm_of ?_ ?_ <;> omega) | fail)) only [iI_add, iI_sub, iI_mul, iI_neg, iI_lt, iI_le, iI_eq, b1_s, b2_s, ↓reduceIte, L0, L1, L2, L3, L4, L5, L6, L7, L8, L9, L10, L12, L20, L22, L24, L26, L27, L28, L32, L40, L60, L73, L95, L97, L222, L240, L441, L442, L622, Lm1, Lmh, L11, L13, L14, L15, L16, L17, L18, L19, L21, L23, L25, L30, L31, L33, L36, L39, L41, L44, L48, L53, L54, L55, L57, L58, L59, L91, L93, L98, L99, L100, L105, L106, L112, L114, L115, L119, L122, L160, L180, L200, L255, L1440, L24880, L63, Lm2, pX9_drawAct, h.1.all, e1, show ¬ (2 : Int) < v by omega, b1.1.all, gn, e2, e3, e4]
  · rw [if_neg c2]
    have c2' : (2 : Int) < v := by omega
    by_cases c3 : v = 3
    · rw [if_pos c3]
      obtain ⟨M2, e2, b2, f2⟩ := c_dr hD b1 (c := T.1.length + 1) (by omega) (by omega)
      have e2 : pX9_draw n M1 ax (iI ((T.1.length : Int) + 1)) = _ := e2
      obtain ⟨M3, e3, b3, p3, f3⟩ := c_tell (n := n) b2 1 (dn (nx (nx d)) (T.1.length + 1)) (-1000000)
      obtain ⟨M4, e4, b4, p4, f4⟩ := c_drS hn hd hD b3 p3
      refine ⟨M4, ?_, b4, p4, ((fx1.trans (f2.mono (by omega) (by omega))).trans f3).trans f4⟩
      simp (disch := (first | assumption | (refine sm_of ?_ ?_ <;> omega) | fail)) only [iI_add, iI_sub, iI_mul, iI_neg, iI_lt, iI_le, iI_eq, b1_s, b2_s, ↓reduceIte, L0, L1, L2, L3, L4, L5, L6, L7, L8, L9, L10, L12, L20, L22, L24, L26, L27, L28, L32, L40, L60, L73, L95, L97, L222, L240, L441, L442, L622, Lm1, Lmh, L11, L13, L14, L15, L16, L17, L18, L19, L21, L23, L25, L30, L31, L33, L36, L39, L41, L44, L48, L53, L54, L55, L57, L58, L59, L91, L93, L98, L99, L100, L105, L106, L112, L114, L115, L119, L122, L160, L180, L200, L255, L1440, L24880, L63, Lm2, pX9_drawAct, h.1.all, e1, c2', show ((v : Int) = 3) = True from eq_true (by omega), b1.1.all, gn, e2, e3, e4]
    · rw [if_neg c3]
      have c3' : ¬ (v : Int) = 3 := by omega
      by_cases c4 : v = 4
      · rw [if_pos c4]
        obtain ⟨M2, e2, b2, f2⟩ := c_dr hD b1 (c := T.1.length) (by omega) (by omega)
        obtain ⟨M3, e3, b3, p3, f3⟩ := c_tell (n := n) b2 2 (dn (nx (nx d)) T.1.length) (-1000000)
        refine ⟨M3, ?_, b3, p3, (fx1.trans (f2.mono (by omega) (by omega))).trans f3⟩
        simp (disch := (first | assumption | (refine sm_of ?_ ?_ <;> omega) | fail)) only [iI_add, iI_sub, iI_mul, iI_neg, iI_lt, iI_le, iI_eq, b1_s, b2_s, ↓reduceIte, L0, L1, L2, L3, L4, L5, L6, L7, L8, L9, L10, L12, L20, L22, L24, L26, L27, L28, L32, L40, L60, L73, L95, L97, L222, L240, L441, L442, L622, Lm1, Lmh, L11, L13, L14, L15, L16, L17, L18, L19, L21, L23, L25, L30, L31, L33, L36, L39, L41, L44, L48, L53, L54, L55, L57, L58, L59, L91, L93, L98, L99, L100, L105, L106, L112, L114, L115, L119, L122, L160, L180, L200, L255, L1440, L24880, L63, Lm2, pX9_drawAct, h.1.all, e1, c2', c3', show ((v : Int) = 4) = True from eq_true (by omega), b1.1.all, gn, e2, e3]
      · rw [if_neg c4]
        have c4' : ¬ (v : Int) = 4 := by omega
        by_cases c5 : v = 5
        · rw [if_pos c5]
          obtain ⟨M2, e2, b2, f2⟩ := c_dr hD b1 (c := T.1.length) (by omega) (by omega)
          obtain ⟨gn2, -⟩ := st_n b2.2.2.2.2.2.2.2.2.2.2.2.1
          obtain ⟨M3, e3, b3, f3⟩ := c_dr hD b2 (c := T.1.length) (by omega) (by omega)
          obtain ⟨M4, e4, b4, p4, f4⟩ := c_tell (n := n) b3 3 (dn (nx (nx d)) T.1.length) (dn (nx (nx (nx d))) T.1.length)
          refine ⟨M4, ?_, b4, p4, ((fx1.trans (f2.mono (by omega) (by omega))).trans (f3.mono (by omega) (by omega))).trans f4⟩
          simp (disch := (first | assumption | (refine sm_of ?_ ?_ <;> omega) | fail)) only [iI_add, iI_sub, iI_mul, iI_neg, iI_lt, iI_le, iI_eq, b1_s, b2_s, ↓reduceIte, L0, L1, L2, L3, L4, L5, L6, L7, L8, L9, L10, L12, L20, L22, L24, L26, L27, L28, L32, L40, L60, L73, L95, L97, L222, L240, L441, L442, L622, Lm1, Lmh, L11, L13, L14, L15, L16, L17, L18, L19, L21, L23, L25, L30, L31, L33, L36, L39, L41, L44, L48, L53, L54, L55, L57, L58, L59, L91, L93, L98, L99, L100, L105, L106, L112, L114, L115, L119, L122, L160, L180, L200, L255, L1440, L24880, L63, Lm2, pX9_drawAct, h.1.all, e1, c2', c3', c4', show ((v : Int) = 5) = True from eq_true (by omega), b1.1.all, gn, e2, b2.1.all, gn2, e3, e4]
        · rw [if_neg c5]
          have c5' : ¬ (v : Int) = 5 := by omega
          obtain ⟨M2, e2, b2, f2⟩ := c_dr hD b1 (c := 3) (by omega) (by omega)
          have e2 : pX9_draw n M1 ax (iI 3) = _ := e2
          by_cases c6 : v = 6
          · rw [if_pos c6]
            obtain ⟨M3, e3, b3, p3, f3⟩ := c_tell (n := n) b2 5 (dn (nx (nx d)) 3) (-1000000)
            refine ⟨M3, ?_, b3, p3, (fx1.trans (f2.mono (by omega) (by omega))).trans f3⟩
            simp (disch := (first | assumption | (refine sm_of ?_ ?_ <;> omega) | fail)) only [iI_add, iI_sub, iI_mul, iI_neg, iI_lt, iI_le, iI_eq, b1_s, b2_s, ↓reduceIte, L0, L1, L2, L3, L4, L5, L6, L7, L8, L9, L10, L12, L20, L22, L24, L26, L27, L28, L32, L40, L60, L73, L95, L97, L222, L240, L441, L442, L622, Lm1, Lmh, L11, L13, L14, L15, L16, L17, L18, L19, L21, L23, L25, L30, L31, L33, L36, L39, L41, L44, L48, L53, L54, L55, L57, L58, L59, L91, L93, L98, L99, L100, L105, L106, L112, L114, L115, L119, L122, L160, L180, L200, L255, L1440, L24880, L63, Lm2, pX9_drawAct, h.1.all, e1, c2', c3', c4', c5', show ((v : Int) = 6) = True from eq_true (by omega), b1.1.all, pX9_drawAct_b160, e2, e3]
          · rw [if_neg c6]
            obtain ⟨M3, e3, b3, p3, f3⟩ := c_tell (n := n) b2 6 (dn (nx (nx d)) 3) (-1000000)
            refine ⟨M3, ?_, b3, p3, (fx1.trans (f2.mono (by omega) (by omega))).trans f3⟩
            simp (disch := (first | assumption | (refine sm_of ?_ ?_ <;> omega) | fail)) only [iI_add, iI_sub, iI_mul, iI_neg, iI_lt, iI_le, iI_eq, b1_s, b2_s, ↓reduceIte, L0, L1, L2, L3, L4, L5, L6, L7, L8, L9, L10, L12, L20, L22, L24, L26, L27, L28, L32, L40, L60, L73, L95, L97, L222, L240, L441, L442, L622, Lm1, Lmh, L11, L13, L14, L15, L16, L17, L18, L19, L21, L23, L25, L30, L31, L33, L36, L39, L41, L44, L48, L53, L54, L55, L57, L58, L59, L91, L93, L98, L99, L100, L105, L106, L112, L114, L115, L119, L122, L160, L180, L200, L255, L1440, L24880, L63, Lm2, pX9_drawAct, h.1.all, e1, c2', c3', c4', c5', show ¬ (v : Int) = 6 by omega, b1.1.all, pX9_drawAct_b160, e2, e3]
theorem c_waysL {n : Nat} (hn : 300 ≤ n) {nx : Int64 → Int64} {dn : Int64 → Nat → Nat} (hd : ∀ d c, 1 ≤ c → dn d c < c) {ax : Nat} (hD : Drw n ax nx dn) {hi : Bool} {ns : Nat} {tp : List Int} {wd : List Int} {im : Option kT} {sc : List (List kS)} {rf : Nat → Int} {cnt : Nat} (hc : cnt ≤ 40) : ∀ (k r i : Nat) (M : mm_M) (B : Int) (d : Int64) (T : kT) (ps : List kT) (np : Nat) (fw ff : Bool), ClW M ax B hi np ps.length ns d tp T wd ps im sc rf fw ff → okT T → T.1.length ≠ 0 → (∀ P ∈ ps, okT P ∧ P.1.length ≠ 0) → 0 ≤ B → B + 2 * (r : Int) ≤ 5000000 → i + r = cnt → r < k → ∃ M1 np' d' fw' ff', pX9_ways_l31 n k M ax (iI cnt) (iI i) = some (iI (allS (waysN nx dn r d T ps).1.1), M1) ∧ ClW M1 ax (B + 2 * (r : Int)) hi np' (waysN nx dn r d T ps).2.length ns d' tp (waysN nx dn r d T ps).1 wd (waysN nx dn r d T ps).2 im sc rf fw' ff' ∧ fr M M1 ax 2875 := by
  intro k
  induction k with
  | zero => intro r i M B d T ps np fw ff _ _ _ _ _ _ _ a; omega
  | succ k ih =>
    intro r i M B d T ps np fw ff h ho hne hp hB0 hB i1 i2
    show ∃ M1 np' d' fw' ff', pX9_ways_l31b n (pX9_ways_l31 n k) M ax (iI cnt) (iI i) = _ ∧ _
    cases r with
    | zero =>
      have al := t_all (n := n) (by omega) h.2.2.2.2.2.2.2.2.2.2.2.1
      refine ⟨M, np, d, fw, ff, ?_, h.mono (by omega) (by omega), fr.rfl⟩
      simp (disch := (first | assumption | (refine sm_of ?_ ?_ <;> omega) | fail)) only [iI_add, iI_sub, iI_mul, iI_neg, iI_lt, iI_le, iI_eq, b1_s, b2_s, ↓reduceIte, L0, L1, L2, L3, L4, L5, L6, L7, L8, L9, L10, L12, L20, L22, L24, L26, L27, L28, L32, L40, L60, L73, L95, L97, L222, L240, L441, L442, L622, Lm1, Lmh, L11, L13, L14, L15, L16, L17, L18, L19, L21, L23, L25, L30, L31, L33, L36, L39, L41, L44, L48, L53, L54, L55, L57, L58, L59, L91, L93, L98, L99, L100, L105, L106, L112, L114, L115, L119, L122, L160, L180, L200, L255, L1440, L24880, L63, Lm2, pX9_ways_l31b, show ((cnt : Int) ≤ i) = True from eq_true (by omega), h.1.all, al]
      rfl
    | succ r =>
      have g10 := (st_n h.2.2.2.2.2.2.2.2.2.2.2.1).2
      obtain ⟨M1, e1, b1, p1, f1⟩ := c_way hn hd hD h hne
      obtain ⟨w1, w2, w3, w4, w5, w6, w7, w8, w9⟩ := wayA_ok (nx := nx) hd d (c := T.1.length) (by omega) g10
      simp only [waysN]
      generalize hz : (wayA nx dn d T.1.length).1 = z at *
      generalize hd' : (wayA nx dn d T.1.length).2 = d1 at *
      obtain ⟨M2, np2, fw2, ff2, e2, b2, f2⟩ := c_att (cp := 0) hn b1 p1 ⟨w1, w2⟩ (sm_of (by omega) (by omega)) (sm_of (by omega) (by omega)) (by omega) (by omega) false
      rw [if_neg (by decide)] at b2
      rw [bI_f] at e2
      have ok2 := try_ok (ps := ps) (z := z) ⟨w1, w2⟩ w9 (by omega) (fun q => absurd q w3) hB0 (by omega) ho hne hp h.2.2.2.2.2.2.2.2.2.2.2.1.bnd
      obtain ⟨M3, np3, d3, fw3, ff3, e3, b3, f3⟩ := ih r (i + 1) M2 (B + 2) d1 _ _ np2 fw2 ff2 b2 ok2.1 ok2.2.1 ok2.2.2.1 (by omega) (by omega) (by omega) (by omega)
      rw [show B + 2 + 2 * (r : Int) = B + 2 * ((r + 1 : Nat) : Int) by omega] at b3
      refine ⟨M3, np3, d3, fw3, ff3, ?_, b3, (f1.trans f2).trans f3⟩
      simp (disch := (first | assumption | (refine sm_of ?_ ?_ <;> omega) | fail)) only [iI_add, iI_sub, iI_mul, iI_neg, iI_lt, iI_le, iI_eq, b1_s, b2_s, ↓reduceIte, L0, L1, L2, L3, L4, L5, L6, L7, L8, L9, L10, L12, L20, L22, L24, L26, L27, L28, L32, L40, L60, L73, L95, L97, L222, L240, L441, L442, L622, Lm1, Lmh, L11, L13, L14, L15, L16, L17, L18, L19, L21, L23, L25, L30, L31, L33, L36, L39, L41, L44, L48, L53, L54, L55, L57, L58, L59, L91, L93, L98, L99, L100, L105, L106, L112, L114, L115, L119, L122, L160, L180, L200, L255, L1440, L24880, L63, Lm2, pX9_ways_l31b, show ¬ ((cnt : Int) ≤ i) by omega, e1, b1.1.all, e2]
      rw [show ((i : Int) + 1) = ((i + 1 : Nat) : Int) by omega]
      exact e3
theorem k_ways {n : Nat} (hn : 300 ≤ n) {nx : Int64 → Int64} {dn : Int64 → Nat → Nat} (hd : ∀ d c, 1 ≤ c → dn d c < c) {M : mm_M} {ax : Nat} {B : Int} {tp : List Int} {T : kT} {wd : List Int} {ps : List kT} {im : Option kT} {sc : List (List kS)} {rf : Nat → Int} (hD : Drw n ax nx dn) (h : Cls M ax B tp T wd ps im sc rf) (hI : Inv T wd ps im sc) (hB0 : 0 ≤ B) (hB : B + 80 ≤ 5000000) {c : Nat} (hc : 1 ≤ c ∧ c ≤ 40) (hne : T.1.length ≠ 0) (d : Int64) : ∃ M', pX9_ways n M ax (iI c) d = some (iI (allS (waysN nx dn c d T ps).1.1), M') ∧ Cls M' ax (B + 80) tp (waysN nx dn c d T ps).1 wd (waysN nx dn c d T ps).2 im sc rf ∧ fr M M' ax 2875 := by
  obtain ⟨np, d0, fw, ff, h⟩ := h
  obtain ⟨gn, g10⟩ := st_n h.2.2.2.2.2.2.2.2.2.2.2.1
  obtain ⟨M1, e1, s1, f1⟩ := co_p17 h.1 d
  have b1 := h.s0 f1 (by omega) s1 (fun z => z)
  obtain ⟨M2, np2, d2, fw2, ff2, e2, b2, f2⟩ := c_waysL hn hd hD hc.2 n c 0 M1 B d T ps np fw ff b1 hI.1 hne hI.2.2.2.2.1 hB0 (by omega) (by omega) (by omega)
  have e2 : pX9_ways_l31 n n M1 ax (iI c) (iI 0) = _ := e2
  refine ⟨M2, ?_, ⟨np2, d2, fw2, ff2, b2.mono (by omega) hB⟩, (f1.mono (by omega) (by omega)).trans f2⟩
  simp (disch := (first | assumption | (refine sm_of ?_ ?_ <;> omega) | fail)) only [iI_add, iI_sub, iI_mul, iI_neg, iI_lt, iI_le, iI_eq, b1_s, b2_s, ↓reduceIte, L0, L1, L2, L3, L4, L5, L6, L7, L8, L9, L10, L12, L20, L22, L24, L26, L27, L28, L32, L40, L60, L73, L95, L97, L222, L240, L441, L442, L622, Lm1, Lmh, L11, L13, L14, L15, L16, L17, L18, L19, L21, L23, L25, L30, L31, L33, L36, L39, L41, L44, L48, L53, L54, L55, L57, L58, L59, L91, L93, L98, L99, L100, L105, L106, L112, L114, L115, L119, L122, L160, L180, L200, L255, L1440, L24880, L63, Lm2, pX9_ways, h.1.all, gn, show ¬ (T.1.length : Int) = 0 by omega, show ¬ (c : Int) < 1 by omega, show (c : Int) ≤ 40 by omega, e1, e2]
theorem k_waysF {n : Nat} {M : mm_M} {ax : Nat} {B : Int} {tp : List Int} {T : kT} {wd : List Int} {ps : List kT} {im : Option kT} {sc : List (List kS)} {rf : Nat → Int} (h : Cls M ax B tp T wd ps im sc rf) {x : Int} (hx : sm x) (d : Int64) (hc : ¬ (T.1.length ≠ 0 ∧ 1 ≤ x ∧ x ≤ 40)) : pX9_ways n M ax (iI x) d = some (iI (-1), M) := by
  obtain ⟨np, d0, fw, ff, h⟩ := h
  obtain ⟨gn, g10⟩ := st_n h.2.2.2.2.2.2.2.2.2.2.2.1
  by_cases t0 : T.1.length = 0
  · simp (disch := (first | assumption | (refine sm_of ?_ ?_ <;> omega) | fail)) only [iI_add, iI_sub, iI_mul, iI_neg, iI_lt, iI_le, iI_eq, b1_s, b2_s, ↓reduceIte, L0, L1, L2, L3, L4, L5, L6, L7, L8, L9, L10, L12, L20, L22, L24, L26, L27, L28, L32, L40, L60, L73, L95, L97, L222, L240, L441, L442, L622, Lm1, Lmh, L11, L13, L14, L15, L16, L17, L18, L19, L21, L23, L25, L30, L31, L33, L36, L39, L41, L44, L48, L53, L54, L55, L57, L58, L59, L91, L93, L98, L99, L100, L105, L106, L112, L114, L115, L119, L122, L160, L180, L200, L255, L1440, L24880, L63, Lm2, pX9_ways, h.1.all, gn, show ((T.1.length : Int) = 0) = True from eq_true (by omega)]
  · by_cases x1 : x < 1
    · simp (disch := (first | assumption | (refine sm_of ?_ ?_ <;> omega) | fail)) only [iI_add, iI_sub, iI_mul, iI_neg, iI_lt, iI_le, iI_eq, b1_s, b2_s, ↓reduceIte, L0, L1, L2, L3, L4, L5, L6, L7, L8, L9, L10, L12, L20, L22, L24, L26, L27, L28, L32, L40, L60, L73, L95, L97, L222, L240, L441, L442, L622, Lm1, Lmh, L11, L13, L14, L15, L16, L17, L18, L19, L21, L23, L25, L30, L31, L33, L36, L39, L41, L44, L48, L53, L54, L55, L57, L58, L59, L91, L93, L98, L99, L100, L105, L106, L112, L114, L115, L119, L122, L160, L180, L200, L255, L1440, L24880, L63, Lm2, pX9_ways, h.1.all, gn, show ¬ (T.1.length : Int) = 0 by omega, x1]
    · have x2 : ¬ x ≤ 40 := fun z => hc ⟨t0, by omega, z⟩
      simp (disch := (first | assumption | (refine sm_of ?_ ?_ <;> omega) | fail)) only [iI_add, iI_sub, iI_mul, iI_neg, iI_lt, iI_le, iI_eq, b1_s, b2_s, ↓reduceIte, L0, L1, L2, L3, L4, L5, L6, L7, L8, L9, L10, L12, L20, L22, L24, L26, L27, L28, L32, L40, L60, L73, L95, L97, L222, L240, L441, L442, L622, Lm1, Lmh, L11, L13, L14, L15, L16, L17, L18, L19, L21, L23, L25, L30, L31, L33, L36, L39, L41, L44, L48, L53, L54, L55, L57, L58, L59, L91, L93, L98, L99, L100, L105, L106, L112, L114, L115, L119, L122, L160, L180, L200, L255, L1440, L24880, L63, Lm2, pX9_ways, h.1.all, gn, show ¬ (T.1.length : Int) = 0 by omega, x1, x2]
