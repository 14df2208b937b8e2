/-! the class: a new object -/
/-- memory grown: all that changed lies between a and the new end e -/
def ga (M M' : mm_M) (a e : Nat) : Prop := M'.1 = e ∧ ∀ q, (q < a ∨ e ≤ q) → M'.2 q = M.2 q
theorem ga_fr {M M' : mm_M} {a e : Nat} (h : ga M M' a e) : fr M (M.1, M'.2) a (e - a) := ⟨rfl, fun q hq => h.2 q (by omega)⟩
theorem ga.trans {M M1 M2 : mm_M} {a e b e2 : Nat} (h : ga M M1 a e) (g : ga M1 M2 b e2) (h1 : a ≤ b) (h2 : e ≤ e2) : ga M M2 a e2 := ⟨g.1, fun q hq => (g.2 q (by omega)).trans (h.2 q (by omega))⟩
theorem ga.at {M M' : mm_M} {a e q : Nat} {x : Option mm_E} (h : ga M M' a e) (hq : M.2 q = x) (hd : q < a ∨ e ≤ q) : M'.2 q = x := (h.2 q hd).trans hq
theorem fr.ga {M M' : mm_M} {b k a e : Nat} (h : fr M M' b k) (h1 : M.1 = e) (h2 : a ≤ b) (h3 : b + k ≤ e) : ga M M' a e := ⟨h.1.trans h1, fun q hq => h.2 q (by omega)⟩
theorem nw_ex (M : mm_M) (e : mm_E) : ∃ M1, (∀ f : Nat → mm_M → Option mm_M, mm_nw M e f = f M.1 M1) ∧ M1.2 M.1 = some e ∧ ga M M1 M.1 (M.1 + 1) := ⟨mm_new M e, fun f => rfl, by simp [mm_new], rfl, fun q hq => by
  show (if q = M.1 then some e else M.2 q) = M.2 q
  rw [if_neg (by omega)]⟩
theorem nw_at {M : mm_M} {a : Nat} (h : M.1 = a) (e : mm_E) : ∃ M1, (∀ f : Nat → mm_M → Option mm_M, mm_nw M e f = f a M1) ∧ M1.2 a = some e ∧ ga M M1 a (a + 1) := by subst h; exact nw_ex M e
theorem pr_ex {M : mm_M} {a ci : Nat} {fs : List Value} (h : M.2 a = some (mm_ob ci fs)) (k : Nat) (v : Nat) (hk : k < fs.length := by simp) : ∃ M1, mm_pr ci k M a v = some M1 ∧ M1.2 a = some (mm_ob ci (fs.set k (.ref v))) ∧ fr M M1 a 1 := ⟨_, pr_at h k hk v, set_eq _ _ _, fr.set (by omega)⟩
theorem bd_nil : bd [] := fun x hx => by simp at hx
theorem i5 {n : Nat} {M : mm_M} {a : Nat} (h1 : M.1 = a + 1) (h2 : M.2 a = some (mm_ob 5 [.null, .int (iI 0)])) : ∃ M', pX5_init n M a = some M' ∧ Sg M' a [] ∧ ga M M' a (a + 2) := by
  obtain ⟨M1, e1, s1, g1⟩ := nw_at h1 (mm_ai 20 (fun _ => iI 0))
  obtain ⟨M2, e2, s2, f2⟩ := pr_ex (g1.at h2 (by omega)) 0 (a + 1)
  refine ⟨M2, ?_, ⟨by simp, bd_nil, s2, _, f2.at s1 (by omega), fun i hi => by simp at hi⟩, ⟨f2.1.trans g1.1, fun q hq => (f2.2 q (by omega)).trans (g1.2 q (by omega))⟩⟩
  simp only [pX5_init, L0, e1, e2, b1_s]
theorem i2 {n : Nat} {M : mm_M} {a : Nat} (h1 : M.1 = a + 1) (h2 : M.2 a = some (mm_ob 2 [.null, .int (iI 0)])) : ∃ M', pX2_init n M a = some M' ∧ Ln M' a 0 [] ∧ ga M M' a (a + 3) := by
  obtain ⟨M1, e1, s1, g1⟩ := nw_at h1 (mm_ob 5 [.null, .int (iI 0)])
  obtain ⟨M2, e2, s2, g2⟩ := i5 (n := n) (a := a + 1) g1.1 s1
  obtain ⟨M3, e3, s3, f3⟩ := pr_ex (g2.at (g1.at h2 (by omega)) (by omega)) 0 (a + 1)
  refine ⟨M3, ?_, ⟨nb0, s3, s2.fr f3 (by omega)⟩, ?_⟩
  · simp only [pX2_init, L0, e1, e2, e3, b1_s]
  · exact ⟨f3.1.trans g2.1, fun q hq => (f3.2 q (by omega)).trans ((g2.2 q (by omega)).trans (g1.2 q (by omega)))⟩
theorem i7 {n : Nat} {M : mm_M} {a : Nat} (h1 : M.1 = a + 1) (h2 : M.2 a = some (mm_ob 7 [.int (iI 0), .int (iI 0), .int (iI 0), .null])) : ∃ M', pX7_init n M a = some M' ∧ Sp M' a (iI 0) (iI 0) (iI 0) [] ∧ ga M M' a (a + 3) := by
  obtain ⟨M1, e1, s1, g1⟩ := nw_at h1 (mm_ob 5 [.null, .int (iI 0)])
  obtain ⟨M2, e2, s2, g2⟩ := i5 (n := n) (a := a + 1) g1.1 s1
  obtain ⟨M3, e3, s3, f3⟩ := pr_ex (g2.at (g1.at h2 (by omega)) (by omega)) 3 (a + 1)
  refine ⟨M3, ?_, ⟨s3, s2.fr f3 (by omega)⟩, ?_⟩
  · simp only [pX7_init, L0, e1, e2, e3, b1_s]
  · exact ⟨f3.1.trans g2.1, fun q hq => (f3.2 q (by omega)).trans ((g2.2 q (by omega)).trans (g1.2 q (by omega)))⟩
theorem i8 {n : Nat} {M : mm_M} {a : Nat} (h1 : M.1 = a + 1) (h2 : M.2 a = some (mm_ob 8 [.null, .int (iI 0), .int (iI 0)])) : ∃ M', pX8_init n M a = some M' ∧ TpR M' a [] ∧ ga M M' a (a + 2) := by
  obtain ⟨M1, e1, s1, g1⟩ := nw_at h1 (mm_ai 240 (fun _ => iI 0))
  obtain ⟨M2, e2, s2, f2⟩ := pr_ex (g1.at h2 (by omega)) 0 (a + 1)
  refine ⟨M2, ?_, ⟨by simp, bd_nil, ⟨_, s2⟩, _, f2.at s1 (by omega), fun i hi => by simp at hi⟩, ⟨f2.1.trans g1.1, fun q hq => (f2.2 q (by omega)).trans (g1.2 q (by omega))⟩⟩
  simp only [pX8_init, L0, e1, e2, b1_s]
theorem i3 {n : Nat} {M : mm_M} {a : Nat} (h1 : M.1 = a + 1) (h2 : M.2 a = some (mm_ob 3 [.null, .null, .int (iI 0), .int (iI 0)])) (t : Nat) : ∃ M', pX3_init n M a t = some M' ∧ Rk M' a t [] false ∧ ga M M' a (a + 2) := by
  obtain ⟨M1, e1, s1, g1⟩ := nw_at h1 (mm_ai 200 (fun _ => iI 0))
  obtain ⟨M2, e2, s2, f2⟩ := pr_ex (g1.at h2 (by omega)) 1 (a + 1)
  obtain ⟨M3, e3, s3, f3⟩ := pr_ex s2 0 t
  refine ⟨M3, ?_, ⟨by simp, s3, _, f3.at (f2.at s1 (by omega)) (by omega), fun i hi => by simp at hi⟩, ⟨f3.1.trans (f2.1.trans g1.1), fun q hq => (f3.2 q (by omega)).trans ((f2.2 q (by omega)).trans (g1.2 q (by omega)))⟩⟩
  simp only [pX3_init, L0, e1, e2, e3, b1_s]
theorem i1 {n : Nat} {M : mm_M} {a : Nat} (h1 : M.1 = a + 1) (h2 : M.2 a = some (mm_ob 1 [.null, .null, .null, .int (iI 0)])) : ∃ M', pX1_init n M a = some M' ∧ Jr M' a 0 [] ∧ ga M M' a (a + 4) := by
  obtain ⟨M1, e1, s1, g1⟩ := nw_at h1 (mm_ai 60 (fun _ => iI 0))
  obtain ⟨M2, e2, s2, f2⟩ := pr_ex (g1.at h2 (by omega)) 0 (a + 1)
  obtain ⟨M3, e3, s3, g3⟩ := nw_at (a := a + 2) (f2.1.trans g1.1) (mm_ai 60 (fun _ => iI 0))
  obtain ⟨M4, e4, s4, f4⟩ := pr_ex (g3.at s2 (by omega)) 1 (a + 2)
  obtain ⟨M5, e5, s5, g5⟩ := nw_at (a := a + 3) (f4.1.trans g3.1) (mm_ai 60 (fun _ => iI 0))
  obtain ⟨M6, e6, s6, f6⟩ := pr_ex (g5.at s4 (by omega)) 2 (a + 3)
  refine ⟨M6, ?_, ⟨0, _, _, _, by omega, by omega, by omega, by simp <;> omega, s6, f6.at (g5.at (f4.at (g3.at (f2.at s1 (by omega)) (by omega)) (by omega)) (by omega)) (by omega), f6.at (g5.at (f4.at s3 (by omega)) (by omega)) (by omega), f6.at s5 (by omega), fun i hi => by simp at hi⟩, ⟨f6.1.trans g5.1, fun q hq => (f6.2 q (by omega)).trans ((g5.2 q (by omega)).trans ((f4.2 q (by omega)).trans ((g3.2 q (by omega)).trans ((f2.2 q (by omega)).trans (g1.2 q (by omega))))))⟩⟩
  simp only [pX1_init, L0, e1, e2, e3, e4, e5, e6, b1_s]
theorem i0 {n : Nat} {M : mm_M} {a : Nat} (h1 : M.1 = a + 1) (h2 : M.2 a = some (mm_ob 0 [.null, .int (iI 0), .int (iI 0), .null, .int (iI 0), .int (iI 0), .int (iI 0), .null, .null])) : ∃ M', pX0_init n M a = some M' ∧ CuT M' a kU0 ∧ ga M M' a (a + 8) := by
  obtain ⟨M1, e1, s1, g1⟩ := nw_at h1 (mm_ob 5 [.null, .int (iI 0)])
  obtain ⟨M2, e2, s2, g2⟩ := i5 (n := n) (a := a + 1) g1.1 s1
  obtain ⟨M3, e3, s3, f3⟩ := pr_ex (g2.at (g1.at h2 (by omega)) (by omega)) 0 (a + 1)
  obtain ⟨M4, e4, s4, g4⟩ := nw_at (a := a + 3) (f3.1.trans g2.1) (mm_ob 2 [.null, .int (iI 0)])
  obtain ⟨M5, e5, s5, g5⟩ := i2 (n := n) (a := a + 3) g4.1 s4
  obtain ⟨M6, e6, s6, f6⟩ := pr_ex (g5.at (g4.at s3 (by omega)) (by omega)) 3 (a + 3)
  obtain ⟨M7, e7, s7, g7⟩ := nw_at (a := a + 6) (f6.1.trans g5.1) (mm_ai 9 (fun _ => iI 0))
  obtain ⟨M8, e8, s8, f8⟩ := pr_ex (g7.at s6 (by omega)) 7 (a + 6)
  obtain ⟨M9, e9, s9, g9⟩ := nw_at (a := a + 7) (f8.1.trans g7.1) (mm_ai 9 (fun _ => iI 0))
  obtain ⟨M10, e10, s10, f10⟩ := pr_ex (g9.at s8 (by omega)) 8 (a + 7)
  have w2 : Sg M10 (a + 1) [] := by
    have q3 := s2.fr f3 (by omega)
    have q4 : Sg M4 (a + 1) [] := (q3.fr (ga_fr g4) (by omega) :)
    have q5 : Sg M5 (a + 1) [] := (q4.fr (ga_fr g5) (by omega) :)
    have q6 := q5.fr f6 (by omega)
    have q7 : Sg M7 (a + 1) [] := (q6.fr (ga_fr g7) (by omega) :)
    have q8 := q7.fr f8 (by omega)
    have q9 : Sg M9 (a + 1) [] := (q8.fr (ga_fr g9) (by omega) :)
    exact q9.fr f10 (by omega)
  have w5 : Ln M10 (a + 3) 0 [] := by
    have q6 := s5.fr f6 (by omega)
    have q7 : Ln M7 (a + 3) 0 [] := (q6.fr (ga_fr g7) (by omega) :)
    have q8 := q7.fr f8 (by omega)
    have q9 : Ln M9 (a + 3) 0 [] := (q8.fr (ga_fr g9) (by omega) :)
    exact q9.fr f10 (by omega)
  refine ⟨M10, ?_, ⟨nb0, by show 0 ≤ 0; omega, by show 0 ≤ 9; omega, nb0, s10, w2, w5, ⟨_, f10.at (g9.at (f8.at s7 (by omega)) (by omega)) (by omega), fun i hi => (by simp [kU0] at hi)⟩, _, f10.at s9 (by omega), fun i hi => (by simp [kU0] at hi)⟩, ⟨f10.1.trans g9.1, fun q hq => (f10.2 q (by omega)).trans ((g9.2 q (by omega)).trans ((f8.2 q (by omega)).trans ((g7.2 q (by omega)).trans ((f6.2 q (by omega)).trans ((g5.2 q (by omega)).trans ((g4.2 q (by omega)).trans ((f3.2 q (by omega)).trans ((g2.2 q (by omega)).trans (g1.2 q (by omega))))))))))⟩⟩
  simp only [pX0_init, L0, e1, e2, e3, e4, e5, e6, e7, e8, e9, e10, b1_s]
theorem c_l72 {n : Nat} {a : Nat} : ∀ (k i : Nat) (M : mm_M) (g : Nat → Option Nat), i ≤ 3 → 3 < i + k → M.1 = a + 38 + 8 * i → M.2 a = some (mm_ob 6 [.ref (a + 1), .int (iI 0), .int (iI 0), .ref (a + 2), .ref (a + 3), .ref (a + 7)]) → M.2 (a + 2) = some (mm_ar 1 3 g) → (∀ j, j < i → g j = some (a + 38 + 8 * j)) → (∀ j, j < i → CuT M (a + 38 + 8 * j) kU0) → ∃ M', pX6_init_l72 n k M a (iI i) = some M' ∧ Cv M' a (fun _ => kU0) ∧ M'.1 = a + 62 ∧ ∀ q, (q < a + 2 ∨ (a + 2 < q ∧ q < a + 38 + 8 * i) ∨ a + 62 ≤ q) → M'.2 q = M.2 q := by
  intro k
  induction k with
  | zero => intro i M g a b; omega
  | succ k ih =>
    intro i M g i1 i2 h1 h2 h3 h4 h5
    show ∃ M', pX6_init_l72b n (pX6_init_l72 n k) M a (iI i) = _ ∧ _
    have ln : mm_len M (a + 2) = some (iI 3) := lenr_at h3 (by omega)
    by_cases dd : (3 : Int) ≤ i
    · refine ⟨M, ?_, ⟨⟨g, h3, fun j hj => h4 j (by omega)⟩, fun j hj => h5 j (by omega)⟩, by omega, fun _ _ => rfl⟩
      simp (disch := (first | assumption | (refine sm_of ?_ ?_ <;> omega) | fail)) only [iI_add, iI_sub, iI_mul, iI_neg, iI_lt, iI_le, iI_eq, b1_s, b2_s, ↓reduceIte, L0, L1, L2, L3, L4, L5, L6, L7, L8, L9, L10, L12, L20, L22, L24, L26, L27, L28, L32, L40, L60, L73, L95, L97, L222, L240, L441, L442, L622, Lm1, Lmh, L11, L13, L14, L15, L16, L17, L18, L19, L21, L23, L25, L30, L31, L33, L36, L39, L41, L44, L48, L53, L54, L55, L57, L58, L59, L91, L93, L98, L99, L100, L105, L106, L112, L114, L115, L119, L122, L160, L180, L200, L255, L1440, L24880, L63, Lm2, pX6_init_l72b, gr_at h2 3 rfl, ln, dd]
    · obtain ⟨M1, e1, s1, g1⟩ := nw_at h1 (mm_ob 0 [.null, .int (iI 0), .int (iI 0), .null, .int (iI 0), .int (iI 0), .int (iI 0), .null, .null])
      obtain ⟨M2, e2, s2, g2⟩ := i0 (n := n) g1.1 s1
      have g12 : ga M M2 (a + 38 + 8 * i) (a + 38 + 8 * i + 8) := g1.trans g2 (by omega) (by omega)
      obtain ⟨M3, e3, s3, f3⟩ := rs_ex (g12.at h3 (by omega)) (by omega) s2.2.2.2.2.1 (i := (i : Int)) (by omega) (by omega) (sm_of (by omega) (by omega))
      rw [Int.toNat_natCast] at s3
      obtain ⟨M4, e4, c4, l4, f4⟩ := ih (i + 1) M3 _ (by omega) (by omega) (by rw [f3.1, g12.1]; omega) (f3.at (g12.at h2 (by omega)) (by omega)) s3 (fun j hj => by
        by_cases e : j = i
        · subst e; simp [va_up]
        · simp [va_up, e]; exact h4 j (by omega)) (fun j hj => by
        by_cases e : j = i
        · subst e; exact s2.fr f3 (by omega)
        · have q2 : CuT M2 (a + 38 + 8 * j) kU0 := ((h5 j (by omega)).fr (ga_fr g12) (by omega) :)
          exact q2.fr f3 (by omega))
      refine ⟨M4, ?_, c4, l4, fun q hq => (f4 q (by omega)).trans ((f3.2 q (by omega)).trans (g12.2 q (by omega)))⟩
      simp (disch := (first | assumption | (refine sm_of ?_ ?_ <;> omega) | fail)) only [iI_add, iI_sub, iI_mul, iI_neg, iI_lt, iI_le, iI_eq, b1_s, b2_s, ↓reduceIte, L0, L1, L2, L3, L4, L5, L6, L7, L8, L9, L10, L12, L20, L22, L24, L26, L27, L28, L32, L40, L60, L73, L95, L97, L222, L240, L441, L442, L622, Lm1, Lmh, L11, L13, L14, L15, L16, L17, L18, L19, L21, L23, L25, L30, L31, L33, L36, L39, L41, L44, L48, L53, L54, L55, L57, L58, L59, L91, L93, L98, L99, L100, L105, L106, L112, L114, L115, L119, L122, L160, L180, L200, L255, L1440, L24880, L63, Lm2, pX6_init_l72b, gr_at h2 3 rfl, ln, dd, e1, e2, e3]
      rw [show ((i : Int) + 1) = ((i + 1 : Nat) : Int) by omega, e4]
theorem c_l42 {n : Nat} {a : Nat} : ∀ (k i : Nat) (M : mm_M) (f g : Nat → Option Nat), i ≤ 10 → 10 < i + k → M.1 = a + 8 + 3 * i → M.2 a = some (mm_ob 6 [.ref (a + 1), .int (iI 0), .int (iI 0), .ref (a + 2), .ref (a + 3), .ref (a + 7)]) → M.2 (a + 1) = some (mm_ar 0 10 f) → (∀ j, j < i → f j = some (a + 8 + 3 * j)) → (∀ j, j < i → Ln M (a + 8 + 3 * j) 0 []) → M.2 (a + 2) = some (mm_ar 1 3 g) → ∃ M', pX6_init_l42 n k M a (iI i) = some M' ∧ Lv M' a (fun j => j) (fun _ => (0, [])) ∧ Cv M' a (fun _ => kU0) ∧ M'.1 = a + 62 ∧ ∀ q, (q ≤ a ∨ (a + 3 ≤ q ∧ q < a + 8) ∨ a + 62 ≤ q) → M'.2 q = M.2 q := by
  intro k
  induction k with
  | zero => intro i M f g a b; omega
  | succ k ih =>
    intro i M f g ib ic h1 h2 h3 h4 h5 h6
    show ∃ M', pX6_init_l42b n (pX6_init_l42 n k) M a (iI i) = _ ∧ _
    have ln : mm_len M (a + 1) = some (iI 10) := lenr_at h3 (by omega)
    by_cases dd : (10 : Int) ≤ i
    · obtain ⟨M1, e1, c1, l1, f1⟩ := c_l72 (n := n) (a := a) 4 0 M g (by omega) (by omega) (by omega) h2 h6 (fun j hj => by omega) (fun j hj => by omega)
      have e1 : pX6_init_l72 n 4 M a (iI 0) = some M1 := e1
      refine ⟨M1, ?_, ⟨⟨f, (f1 _ (by omega)).trans h3, fun j hj => h4 j (by omega)⟩, fun j hj => hj, fun x y _ _ e => e, fun j hj => ?_⟩, c1, l1, fun q hq => f1 q (by omega)⟩
      · simp (disch := (first | assumption | (refine sm_of ?_ ?_ <;> omega) | fail)) only [iI_add, iI_sub, iI_mul, iI_neg, iI_lt, iI_le, iI_eq, b1_s, b2_s, ↓reduceIte, L0, L1, L2, L3, L4, L5, L6, L7, L8, L9, L10, L12, L20, L22, L24, L26, L27, L28, L32, L40, L60, L73, L95, L97, L222, L240, L441, L442, L622, Lm1, Lmh, L11, L13, L14, L15, L16, L17, L18, L19, L21, L23, L25, L30, L31, L33, L36, L39, L41, L44, L48, L53, L54, L55, L57, L58, L59, L91, L93, L98, L99, L100, L105, L106, L112, L114, L115, L119, L122, L160, L180, L200, L255, L1440, L24880, L63, Lm2, pX6_init_l42b, gr_at h2 0 rfl, ln, dd, e1]
      · obtain ⟨z1, z2, z3, z4, z5, u, z6, z7⟩ := h5 j (by omega)
        exact ⟨z1, (f1 _ (by omega)).trans z2, z3, z4, (f1 _ (by omega)).trans z5, u, (f1 _ (by omega)).trans z6, z7⟩
    · obtain ⟨M1, e1, s1, g1⟩ := nw_at h1 (mm_ob 2 [.null, .int (iI 0)])
      obtain ⟨M2, e2, s2, g2⟩ := i2 (n := n) g1.1 s1
      have g12 : ga M M2 (a + 8 + 3 * i) (a + 8 + 3 * i + 3) := g1.trans g2 (by omega) (by omega)
      obtain ⟨M3, e3, s3, f3⟩ := rs_ex (g12.at h3 (by omega)) (by omega) s2.2.1 (i := (i : Int)) (by omega) (by omega) (sm_of (by omega) (by omega))
      rw [Int.toNat_natCast] at s3
      obtain ⟨M4, e4, a4, c4, l4, f4⟩ := ih (i + 1) M3 _ g (by omega) (by omega) (by rw [f3.1, g12.1]; omega) (f3.at (g12.at h2 (by omega)) (by omega)) s3 (fun j hj => by
        by_cases e : j = i
        · subst e; simp [va_up]
        · simp [va_up, e]; exact h4 j (by omega)) (fun j hj => by
        by_cases e : j = i
        · subst e; exact s2.fr f3 (by omega)
        · have q2 : Ln M2 (a + 8 + 3 * j) 0 [] := ((h5 j (by omega)).fr (ga_fr g12) (by omega) :)
          exact q2.fr f3 (by omega)) (f3.at (g12.at h6 (by omega)) (by omega))
      refine ⟨M4, ?_, a4, c4, l4, fun q hq => (f4 q hq).trans ((f3.2 q (by omega)).trans (g12.2 q (by omega)))⟩
      simp (disch := (first | assumption | (refine sm_of ?_ ?_ <;> omega) | fail)) only [iI_add, iI_sub, iI_mul, iI_neg, iI_lt, iI_le, iI_eq, b1_s, b2_s, ↓reduceIte, L0, L1, L2, L3, L4, L5, L6, L7, L8, L9, L10, L12, L20, L22, L24, L26, L27, L28, L32, L40, L60, L73, L95, L97, L222, L240, L441, L442, L622, Lm1, Lmh, L11, L13, L14, L15, L16, L17, L18, L19, L21, L23, L25, L30, L31, L33, L36, L39, L41, L44, L48, L53, L54, L55, L57, L58, L59, L91, L93, L98, L99, L100, L105, L106, L112, L114, L115, L119, L122, L160, L180, L200, L255, L1440, L24880, L63, Lm2, pX6_init_l42b, gr_at h2 0 rfl, ln, dd, e1, e2, e3]
      rw [show ((i : Int) + 1) = ((i + 1 : Nat) : Int) by omega, e4]
theorem i6 {n : Nat} {M : mm_M} {a : Nat} (h1 : M.1 = a + 1) (h2 : M.2 a = some (mm_ob 6 [.null, .int (iI 0), .int (iI 0), .null, .null, .null])) : ∃ M', pX6_init n M a = some M' ∧ St M' a 0 kT0 ∧ ga M M' a (a + 62) := by
  obtain ⟨M1, e1, s1, g1⟩ := nw_at h1 (mm_ar 0 10 (fun _ => none))
  obtain ⟨M2, e2, s2, f2⟩ := pr_ex (g1.at h2 (by omega)) 0 (a + 1)
  obtain ⟨M3, e3, s3, g3⟩ := nw_at (a := a + 2) (f2.1.trans g1.1) (mm_ar 1 3 (fun _ => none))
  obtain ⟨M4, e4, s4, f4⟩ := pr_ex (g3.at s2 (by omega)) 3 (a + 2)
  obtain ⟨M5, e5, s5, g5⟩ := nw_at (a := a + 3) (f4.1.trans g3.1) (mm_ob 1 [.null, .null, .null, .int (iI 0)])
  obtain ⟨M6, e6, s6, g6⟩ := i1 (n := n) g5.1 s5
  obtain ⟨M7, e7, s7, f7⟩ := pr_ex (g6.at (g5.at s4 (by omega)) (by omega)) 4 (a + 3)
  obtain ⟨M8, e8, s8, g8⟩ := nw_at (a := a + 7) (f7.1.trans g6.1) (mm_ai 9 (fun _ => iI 0))
  obtain ⟨M9, e9, s9, f9⟩ := pr_ex (g8.at s7 (by omega)) 5 (a + 7)
  have r1 : M9.2 (a + 1) = some (mm_ar 0 10 (fun _ => none)) := f9.at (g8.at (f7.at (g6.at (g5.at (f4.at (g3.at (f2.at s1 (by omega)) (by omega)) (by omega)) (by omega)) (by omega)) (by omega)) (by omega)) (by omega)
  have r2 : M9.2 (a + 2) = some (mm_ar 1 3 (fun _ => none)) := f9.at (g8.at (f7.at (g6.at (g5.at (f4.at s3 (by omega)) (by omega)) (by omega)) (by omega)) (by omega)) (by omega)
  have j9 : Jr M9 (a + 3) 0 [] := by
    have q7 := s6.fr f7 (by omega)
    have q8 : Jr M8 (a + 3) 0 [] := (q7.fr (ga_fr g8) (by omega) :)
    exact q8.fr f9 (by omega)
  obtain ⟨M10, e10, l10, c10, n10, f10⟩ := c_l42 (n := n) (a := a) 11 0 M9 _ _ (by omega) (by omega) (by rw [f9.1, g8.1]) s9 r1 (fun j hj => by omega) (fun j hj => by omega) r2
  have e10 : pX6_init_l42 n 11 M9 a (iI 0) = some M10 := e10
  obtain ⟨w, u, v, z, j1, j2, j3, j4, j5, j6, j7, j8, j9'⟩ := j9
  refine ⟨M10, ?_, ⟨fun j => j, fun _ => (0, []), 0, fun _ => kU0, ⟨⟨by omega, nb0, (f10 a (by omega)).trans s9⟩, l10, c10, ⟨w, u, v, z, j1, j2, j3, j4, (f10 _ (by omega)).trans j5, (f10 _ (by omega)).trans j6, (f10 _ (by omega)).trans j7, (f10 _ (by omega)).trans j8, j9'⟩, _, (f10 _ (by omega)).trans (f9.at s8 (by omega))⟩, rfl, fun _ _ => rfl, by omega, by show (0 : Int) ≤ _; omega, fun i hi => ⟨by show (0 : Int) ≤ _; omega, by show (0 : Int) ≤ 9; omega⟩⟩, n10, fun q hq => (f10 q (by omega)).trans ((f9.2 q (by omega)).trans ((g8.2 q (by omega)).trans ((f7.2 q (by omega)).trans ((g6.2 q (by omega)).trans ((g5.2 q (by omega)).trans ((f4.2 q (by omega)).trans ((g3.2 q (by omega)).trans ((f2.2 q (by omega)).trans (g1.2 q (by omega))))))))))⟩
  simp only [pX6_init, L0, e1, e2, e3, e4, e5, e6, e7, e8, e9, e10, b1_s]
theorem c_l15 {n : Nat} {a : Nat} {v : Value} : ∀ (k i : Nat) (M : mm_M) (f : Nat → Option Nat), i ≤ 12 → 12 < i + k → M.1 = a + 2 + 3 * i → M.2 a = some (mm_ob 4 [.ref (a + 1), .int (iI 0)]) → M.2 (a + 1) = some (mm_ar 3 12 f) → (∀ j, j < i → f j = some (a + 2 + 3 * j)) → (∀ j, j < i → Sp M (a + 2 + 3 * j) (iI 0) (iI 0) (iI 0) []) → ∃ M', pX4_init_l15 n k M a (iI i) = some M' ∧ ScA M' a ∧ M'.1 = a + 38 ∧ ∀ q, (q < a ∨ a + 38 ≤ q) → M'.2 q = M.2 q := by
  intro k
  induction k with
  | zero => intro i M f a b; omega
  | succ k ih =>
    intro i M f i1 i2 h1 h2 h3 h4 h5
    show ∃ M', pX4_init_l15b n (pX4_init_l15 n k) M a (iI i) = _ ∧ _
    have ln : mm_len M (a + 1) = some (iI 12) := lenr_at h3 (by omega)
    by_cases dd : (12 : Int) ≤ i
    · refine ⟨M, ?_, ⟨⟨_, h2⟩, ⟨f, h3, fun j hj => h4 j (by omega)⟩, fun j hj => ⟨_, _, _, _, h5 j (by omega)⟩⟩, by omega, fun _ _ => rfl⟩
      simp (disch := (first | assumption | (refine sm_of ?_ ?_ <;> omega) | fail)) only [iI_add, iI_sub, iI_mul, iI_neg, iI_lt, iI_le, iI_eq, b1_s, b2_s, ↓reduceIte, L0, L1, L2, L3, L4, L5, L6, L7, L8, L9, L10, L12, L20, L22, L24, L26, L27, L28, L32, L40, L60, L73, L95, L97, L222, L240, L441, L442, L622, Lm1, Lmh, L11, L13, L14, L15, L16, L17, L18, L19, L21, L23, L25, L30, L31, L33, L36, L39, L41, L44, L48, L53, L54, L55, L57, L58, L59, L91, L93, L98, L99, L100, L105, L106, L112, L114, L115, L119, L122, L160, L180, L200, L255, L1440, L24880, L63, Lm2, pX4_init_l15b, gr_at h2 0 rfl, ln, dd]
    · obtain ⟨M1, e1, s1, g1⟩ := nw_at h1 (mm_ob 7 [.int (iI 0), .int (iI 0), .int (iI 0), .null])
      obtain ⟨M2, e2, s2, g2⟩ := i7 (n := n) g1.1 s1
      have g12 : ga M M2 (a + 2 + 3 * i) (a + 2 + 3 * i + 3) := g1.trans g2 (by omega) (by omega)
      obtain ⟨M3, e3, s3, f3⟩ := rs_ex (g12.at h3 (by omega)) (by omega) s2.1 (i := (i : Int)) (by omega) (by omega) (sm_of (by omega) (by omega))
      rw [Int.toNat_natCast] at s3
      obtain ⟨M4, e4, a4, l4, f4⟩ := ih (i + 1) M3 _ (by omega) (by omega) (by rw [f3.1, g12.1]; omega) (f3.at (g12.at h2 (by omega)) (by omega)) s3 (fun j hj => by
        by_cases e : j = i
        · subst e; simp [va_up]
        · simp [va_up, e]; exact h4 j (by omega)) (fun j hj => by
        by_cases e : j = i
        · subst e; exact s2.fr f3 (by omega)
        · have q2 : Sp M2 (a + 2 + 3 * j) (iI 0) (iI 0) (iI 0) [] := ((h5 j (by omega)).fr (ga_fr g12) (by omega) :)
          exact q2.fr f3 (by omega))
      refine ⟨M4, ?_, a4, l4, fun q hq => (f4 q hq).trans ((f3.2 q (by omega)).trans (g12.2 q (by omega)))⟩
      simp (disch := (first | assumption | (refine sm_of ?_ ?_ <;> omega) | fail)) only [iI_add, iI_sub, iI_mul, iI_neg, iI_lt, iI_le, iI_eq, b1_s, b2_s, ↓reduceIte, L0, L1, L2, L3, L4, L5, L6, L7, L8, L9, L10, L12, L20, L22, L24, L26, L27, L28, L32, L40, L60, L73, L95, L97, L222, L240, L441, L442, L622, Lm1, Lmh, L11, L13, L14, L15, L16, L17, L18, L19, L21, L23, L25, L30, L31, L33, L36, L39, L41, L44, L48, L53, L54, L55, L57, L58, L59, L91, L93, L98, L99, L100, L105, L106, L112, L114, L115, L119, L122, L160, L180, L200, L255, L1440, L24880, L63, Lm2, pX4_init_l15b, gr_at h2 0 rfl, ln, dd, e1, e2, e3]
      rw [show ((i : Int) + 1) = ((i + 1 : Nat) : Int) by omega, e4]
theorem i4 {n : Nat} {M : mm_M} {a : Nat} (h1 : M.1 = a + 1) (h2 : M.2 a = some (mm_ob 4 [.null, .int (iI 0)])) : ∃ M', pX4_init n M a = some M' ∧ ScA M' a ∧ ga M M' a (a + 38) := by
  obtain ⟨M1, e1, s1, g1⟩ := nw_at h1 (mm_ar 3 12 (fun _ => none))
  obtain ⟨M2, e2, s2, f2⟩ := pr_ex (g1.at h2 (by omega)) 0 (a + 1)
  obtain ⟨M3, e3, a3, n3, f3⟩ := c_l15 (n := n) (a := a) (v := .null) 13 0 M2 _ (by omega) (by omega) (by rw [f2.1, g1.1]) s2 (f2.at s1 (by omega)) (fun j hj => by omega) (fun j hj => by omega)
  have e3 : pX4_init_l15 n 13 M2 a (iI 0) = some M3 := e3
  refine ⟨M3, ?_, a3, n3, fun q hq => (f3 q (by omega)).trans ((f2.2 q (by omega)).trans (g1.2 q (by omega)))⟩
  simp only [pX4_init, L0, e1, e2, e3, b1_s]
theorem c_l174 {n : Nat} {ax : Nat} : ∀ (k i : Nat) (M : mm_M) (g : Nat → Option Nat), i ≤ 5 → 5 < i + k → M.1 = ax + 2685 + 38 * i → CO M ax false 0 0 0 0 → M.2 (ax + 137) = some (mm_ar 4 5 g) → (∀ j, j < i → g j = some (ax + 2685 + 38 * j)) → (∀ j, j < i → ScA M (ax + 2685 + 38 * j)) → ∃ M', pX9_init_l174 n k M ax (iI i) = some M' ∧ SrV M' ax ∧ ScV M' ax [] ∧ M'.1 = ax + 2875 ∧ ∀ q, (q < ax + 137 ∨ (ax + 137 < q ∧ q < ax + 2685 + 38 * i) ∨ ax + 2875 ≤ q) → M'.2 q = M.2 q := by
  intro k
  induction k with
  | zero => intro i M g a b; omega
  | succ k ih =>
    intro i M g i1 i2 h1 h2 h3 h4 h5
    show ∃ M', pX9_init_l174b n (pX9_init_l174 n k) M ax (iI i) = _ ∧ _
    have ln : mm_len M (ax + 137) = some (iI 5) := lenr_at h3 (by omega)
    by_cases dd : (5 : Int) ≤ i
    · refine ⟨M, ?_, ⟨g, h3, fun j hj => h4 j (by omega)⟩, ⟨by simp, fun j hj => h5 j (by omega), fun j hj => by simp at hj⟩, by omega, fun _ _ => rfl⟩
      simp (disch := (first | assumption | (refine sm_of ?_ ?_ <;> omega) | fail)) only [iI_add, iI_sub, iI_mul, iI_neg, iI_lt, iI_le, iI_eq, b1_s, b2_s, ↓reduceIte, L0, L1, L2, L3, L4, L5, L6, L7, L8, L9, L10, L12, L20, L22, L24, L26, L27, L28, L32, L40, L60, L73, L95, L97, L222, L240, L441, L442, L622, Lm1, Lmh, L11, L13, L14, L15, L16, L17, L18, L19, L21, L23, L25, L30, L31, L33, L36, L39, L41, L44, L48, L53, L54, L55, L57, L58, L59, L91, L93, L98, L99, L100, L105, L106, L112, L114, L115, L119, L122, L160, L180, L200, L255, L1440, L24880, L63, Lm2, pX9_init_l174b, h2.all, ln, dd]
    · obtain ⟨M1, e1, s1, g1⟩ := nw_at h1 (mm_ob 4 [.null, .int (iI 0)])
      obtain ⟨M2, e2, s2, g2⟩ := i4 (n := n) g1.1 s1
      have g12 : ga M M2 (ax + 2685 + 38 * i) (ax + 2685 + 38 * i + 38) := g1.trans g2 (by omega) (by omega)
      obtain ⟨vv, ob⟩ := s2.1
      obtain ⟨M3, e3, s3, f3⟩ := rs_ex (g12.at h3 (by omega)) (by omega) ob (i := (i : Int)) (by omega) (by omega) (sm_of (by omega) (by omega))
      rw [Int.toNat_natCast] at s3
      have o2 : CO M2 ax false 0 0 0 0 := (h2.fr (ga_fr g12) (by omega) :)
      obtain ⟨M4, e4, a4, c4, l4, f4⟩ := ih (i + 1) M3 _ (by omega) (by omega) (by rw [f3.1, g12.1]; omega) (o2.fr f3 (by omega)) s3 (fun j hj => by
        by_cases e : j = i
        · subst e; simp [va_up]
        · simp [va_up, e]; exact h4 j (by omega)) (fun j hj => by
        by_cases e : j = i
        · subst e; exact s2.fr f3 (by omega)
        · have q2 : ScA M2 (ax + 2685 + 38 * j) := ((h5 j (by omega)).fr (ga_fr g12) (by omega) :)
          exact q2.fr f3 (by omega))
      refine ⟨M4, ?_, a4, c4, l4, fun q hq => (f4 q (by omega)).trans ((f3.2 q (by omega)).trans (g12.2 q (by omega)))⟩
      simp (disch := (first | assumption | (refine sm_of ?_ ?_ <;> omega) | fail)) only [iI_add, iI_sub, iI_mul, iI_neg, iI_lt, iI_le, iI_eq, b1_s, b2_s, ↓reduceIte, L0, L1, L2, L3, L4, L5, L6, L7, L8, L9, L10, L12, L20, L22, L24, L26, L27, L28, L32, L40, L60, L73, L95, L97, L222, L240, L441, L442, L622, Lm1, Lmh, L11, L13, L14, L15, L16, L17, L18, L19, L21, L23, L25, L30, L31, L33, L36, L39, L41, L44, L48, L53, L54, L55, L57, L58, L59, L91, L93, L98, L99, L100, L105, L106, L112, L114, L115, L119, L122, L160, L180, L200, L255, L1440, L24880, L63, Lm2, pX9_init_l174b, h2.all, ln, dd, e1, e2, e3]
      rw [show ((i : Int) + 1) = ((i + 1 : Nat) : Int) by omega, e4]
theorem c_l144 {n : Nat} {ax : Nat} : ∀ (k i : Nat) (M : mm_M) (f g : Nat → Option Nat), i ≤ 40 → 40 < i + k → M.1 = ax + 205 + 62 * i → CO M ax false 0 0 0 0 → M.2 (ax + 127) = some (mm_ar 2 40 f) → (∀ j, j < i → f j = some (ax + 205 + 62 * j)) → (∀ j, j < i → St M (ax + 205 + 62 * j) 0 kT0) → M.2 (ax + 137) = some (mm_ar 4 5 g) → ∃ M', pX9_init_l144 n k M ax (iI i) = some M' ∧ PrV M' ax ∧ PsV M' ax 0 0 [] ∧ SrV M' ax ∧ ScV M' ax [] ∧ M'.1 = ax + 2875 ∧ ∀ q, (q < ax + 127 ∨ (ax + 127 < q ∧ q < ax + 137) ∨ (ax + 137 < q ∧ q < ax + 205) ∨ ax + 2875 ≤ q) → M'.2 q = M.2 q := by
  intro k
  induction k with
  | zero => intro i M f g a b; omega
  | succ k ih =>
    intro i M f g i1 i2 h1 h2 h3 h4 h5 h6
    show ∃ M', pX9_init_l144b n (pX9_init_l144 n k) M ax (iI i) = _ ∧ _
    have ln : mm_len M (ax + 127) = some (iI 40) := lenr_at h3 (by omega)
    by_cases dd : (40 : Int) ≤ i
    · obtain ⟨M1, e1, a1, c1, l1, f1⟩ := c_l174 (n := n) (ax := ax) 6 0 M g (by omega) (by omega) (by omega) h2 h6 (fun j hj => by omega) (fun j hj => by omega)
      have e1 : pX9_init_l174 n 6 M ax (iI 0) = some M1 := e1
      have ff : fr2 M (M.1, M1.2) (ax + 137) 1 (ax + 2685) 190 := ⟨rfl, fun q x y => f1 q (by omega)⟩
      obtain ⟨Mm, fa, fb⟩ := ff.split
      refine ⟨M1, ?_, ⟨f, (f1 _ (by omega)).trans h3, fun j hj => h4 j (by omega)⟩, ⟨by omega, by simp, fun j hj => ⟨kT0, (((h5 j (by omega)).fr fa (by omega)).fr fb (by omega) :)⟩, fun j hj => by simp at hj⟩, a1, c1, l1, fun q hq => f1 q (by omega)⟩
      simp (disch := (first | assumption | (refine sm_of ?_ ?_ <;> omega) | fail)) only [iI_add, iI_sub, iI_mul, iI_neg, iI_lt, iI_le, iI_eq, b1_s, b2_s, ↓reduceIte, L0, L1, L2, L3, L4, L5, L6, L7, L8, L9, L10, L12, L20, L22, L24, L26, L27, L28, L32, L40, L60, L73, L95, L97, L222, L240, L441, L442, L622, Lm1, Lmh, L11, L13, L14, L15, L16, L17, L18, L19, L21, L23, L25, L30, L31, L33, L36, L39, L41, L44, L48, L53, L54, L55, L57, L58, L59, L91, L93, L98, L99, L100, L105, L106, L112, L114, L115, L119, L122, L160, L180, L200, L255, L1440, L24880, L63, Lm2, pX9_init_l144b, h2.all, ln, dd, e1]
    · obtain ⟨M1, e1, s1, g1⟩ := nw_at h1 (mm_ob 6 [.null, .int (iI 0), .int (iI 0), .null, .null, .null])
      obtain ⟨M2, e2, s2, g2⟩ := i6 (n := n) g1.1 s1
      have g12 : ga M M2 (ax + 205 + 62 * i) (ax + 205 + 62 * i + 62) := g1.trans g2 (by omega) (by omega)
      have ob : ∃ fs, M2.2 (ax + 205 + 62 * i) = some (mm_ob 6 fs) := by
        obtain ⟨F, D, cc, C, ⟨hO, -⟩, -⟩ := s2
        exact ⟨_, hO.2.2⟩
      obtain ⟨fs, ob⟩ := ob
      obtain ⟨M3, e3, s3, f3⟩ := rs_ex (g12.at h3 (by omega)) (by omega) ob (i := (i : Int)) (by omega) (by omega) (sm_of (by omega) (by omega))
      rw [Int.toNat_natCast] at s3
      have o2 : CO M2 ax false 0 0 0 0 := (h2.fr (ga_fr g12) (by omega) :)
      obtain ⟨M4, e4, a4, b4, c4, d4, l4, f4⟩ := ih (i + 1) M3 _ g (by omega) (by omega) (by rw [f3.1, g12.1]; omega) (o2.fr f3 (by omega)) s3 (fun j hj => by
        by_cases e : j = i
        · subst e; simp [va_up]
        · simp [va_up, e]; exact h4 j (by omega)) (fun j hj => by
        by_cases e : j = i
        · subst e; exact s2.fr f3 (by omega)
        · have q2 : St M2 (ax + 205 + 62 * j) 0 kT0 := ((h5 j (by omega)).fr (ga_fr g12) (by omega) :)
          exact q2.fr f3 (by omega)) (f3.at (g12.at h6 (by omega)) (by omega))
      refine ⟨M4, ?_, a4, b4, c4, d4, l4, fun q hq => (f4 q (by omega)).trans ((f3.2 q (by omega)).trans (g12.2 q (by omega)))⟩
      simp (disch := (first | assumption | (refine sm_of ?_ ?_ <;> omega) | fail)) only [iI_add, iI_sub, iI_mul, iI_neg, iI_lt, iI_le, iI_eq, b1_s, b2_s, ↓reduceIte, L0, L1, L2, L3, L4, L5, L6, L7, L8, L9, L10, L12, L20, L22, L24, L26, L27, L28, L32, L40, L60, L73, L95, L97, L222, L240, L441, L442, L622, Lm1, Lmh, L11, L13, L14, L15, L16, L17, L18, L19, L21, L23, L25, L30, L31, L33, L36, L39, L41, L44, L48, L53, L54, L55, L57, L58, L59, L91, L93, L98, L99, L100, L105, L106, L112, L114, L115, L119, L122, L160, L180, L200, L255, L1440, L24880, L63, Lm2, pX9_init_l144b, h2.all, ln, dd, e1, e2, e3]
      rw [show ((i : Int) + 1) = ((i + 1 : Nat) : Int) by omega, e4]
