/-! the class: a new object -/
/-- memory grown: all that changed lies between a and the new end e -/
def ga (M M' : mm_M) (a e : Nat) : Prop := M'.1 = e ∧ ∀ q, (q < a ∨ e ≤ q) → M'.2 q = M.2 q
theorem ga_fr {M M' : mm_M} {a e : Nat} (h : ga M M' a e) : fr M (M.1, M'.2) a (e - a) := ⟨rfl, fun q hq => h.2 q (by omega)⟩
theorem ga.trans {M M1 M2 : mm_M} {a e b e2 : Nat} (h : ga M M1 a e) (g : ga M1 M2 b e2) (h1 : a ≤ b) (h2 : e ≤ e2) : ga M M2 a e2 := ⟨g.1, fun q hq => (g.2 q (by omega)).trans (h.2 q (by omega))⟩
theorem ga.at {M M' : mm_M} {a e q : Nat} {x : Option mm_E} (h : ga M M' a e) (hq : M.2 q = x) (hd : q < a ∨ e ≤ q) : M'.2 q = x := (h.2 q hd).trans hq
theorem fr.ga {M M' : mm_M} {b k a e : Nat} (h : fr M M' b k) (h1 : M.1 = e) (h2 : a ≤ b) (h3 : b + k ≤ e) : ga M M' a e := ⟨h.1.trans h1, fun q hq => h.2 q (by omega)⟩
theorem nw_ex (M : mm_M) (e : mm_E) : ∃ M1, (∀ f : Nat → mm_M → Option mm_M, mm_nw M e f = f M.1 M1) ∧ M1.2 M.1 = some e ∧ ga M M1 M.1 (M.1 + 1) := ⟨mm_new M e, fun f => rfl, by simp [mm_new], rfl, fun q hq => by
  show (if q = M.1 then some e else M.2 q) = M.2 q
  rw [if_neg (by omega)]⟩
theorem nw_at {M : mm_M} {a : Nat} (h : M.1 = a) (e : mm_E) : ∃ M1, (∀ f : Nat → mm_M → Option mm_M, mm_nw M e f = f a M1) ∧ M1.2 a = some e ∧ ga M M1 a (a + 1) := by subst h; exact nw_ex M e
theorem pr_ex {M : mm_M} {a ci : Nat} {fs : List Value} (h : M.2 a = some (mm_ob ci fs)) (k : Nat) (v : Nat) (hk : k < fs.length := by simp) : ∃ M1, mm_pr ci k M a v = some M1 ∧ M1.2 a = some (mm_ob ci (fs.set k (.ref v))) ∧ fr M M1 a 1 := ⟨_, pr_at h k hk v, set_eq _ _ _, fr.set (by omega)⟩
theorem bd_nil : bd [] := fun x hx => by simp at hx
theorem i5 {n : Nat} {M : mm_M} {a : Nat} (h1 : M.1 = a + 1) (h2 : M.2 a = some (mm_ob 5 [.null, .int (iI 0)])) : ∃ M', pX5_init n M a = some M' ∧ Sg M' a [] ∧ ga M M' a (a + 2) := by
  obtain ⟨M1, e1, s1, g1⟩ := nw_at h1 (mm_ai 20 (fun _ => iI 0))
  obtain ⟨M2, e2, s2, f2⟩ := pr_ex (g1.at h2 (by omega)) 0 (a + 1)
  refine ⟨M2, ?_, ⟨by simp, bd_nil, s2, _, f2.at s1 (by omega), fun i hi => by simp at hi⟩, ⟨f2.1.trans g1.1, fun q hq => (f2.2 q (by omega)).trans (g1.2 q (by omega))⟩⟩
  simp only [pX5_init, L0, e1, e2, b1_s]
theorem i2 {n : Nat} {M : mm_M} {a : Nat} (h1 : M.1 = a + 1) (h2 : M.2 a = some (mm_ob 2 [.null, .int (iI 0)])) : ∃ M', pX2_init n M a = some M' ∧ Ln M' a 0 [] ∧ ga M M' a (a + 3) := by
  obtain ⟨M1, e1, s1, g1⟩ := nw_at h1 (mm_ob 5 [.null, .int (iI 0)])
  obtain ⟨M2, e2, s2, g2⟩ := i5 (n := n) (a := a + 1) g1.1 s1
  obtain ⟨M3, e3, s3, f3⟩ := pr_ex (g2.at (g1.at h2 (by omega)) (by omega)) 0 (a + 1)
  refine ⟨M3, ?_, ⟨nb0, s3, s2.fr f3 (by omega)⟩, ?_⟩
  · simp only [pX2_init, L0, e1, e2, e3, b1_s]
  · exact ⟨f3.1.trans g2.1, fun q hq => (f3.2 q (by omega)).trans ((g2.2 q (by omega)).trans (g1.2 q (by omega)))⟩
theorem i7 {n : Nat} {M : mm_M} {a : Nat} (h1 : M.1 = a + 1) (h2 : M.2 a = some (mm_ob 7 [.int (iI 0), .int (iI 0), .int (iI 0), .null])) : ∃ M', pX7_init n M a = some M' ∧ Sp M' a (iI 0) (iI 0) (iI 0) [] ∧ ga M M' a (a + 3) := by
  obtain ⟨M1, e1, s1, g1⟩ := nw_at h1 (mm_ob 5 [.null, .int (iI 0)])
  obtain ⟨M2, e2, s2, g2⟩ := i5 (n := n) (a := a + 1) g1.1 s1
  obtain ⟨M3, e3, s3, f3⟩ := pr_ex (g2.at (g1.at h2 (by omega)) (by omega)) 3 (a + 1)
  refine ⟨M3, ?_, ⟨s3, s2.fr f3 (by omega)⟩, ?_⟩
  · simp only [pX7_init, L0, e1, e2, e3, b1_s]
  · exact ⟨f3.1.trans g2.1, fun q hq => (f3.2 q (by omega)).trans ((g2.2 q (by omega)).trans (g1.2 q (by omega)))⟩
theorem i8 {n : Nat} {M : mm_M} {a : Nat} (h1 : M.1 = a + 1) (h2 : M.2 a = some (mm_ob 8 [.null, .int (iI 0), .int (iI 0)])) : ∃ M', pX8_init n M a = some M' ∧ TpR M' a [] ∧ ga M M' a (a + 2) := by
  obtain ⟨M1, e1, s1, g1⟩ := nw_at h1 (mm_ai 240 (fun _ => iI 0))
  obtain ⟨M2, e2, s2, f2⟩ := pr_ex (g1.at h2 (by omega)) 0 (a + 1)
  refine ⟨M2, ?_, ⟨by simp, bd_nil, ⟨_, s2⟩, _, f2.at s1 (by omega), fun i hi => by simp at hi⟩, ⟨f2.1.trans g1.1, fun q hq => (f2.2 q (by omega)).trans (g1.2 q (by omega))⟩⟩
  simp only [pX8_init, L0, e1, e2, b1_s]
theorem i3 {n : Nat} {M : mm_M} {a : Nat} (h1 : M.1 = a + 1) (h2 : M.2 a = some (mm_ob 3 [.null, .null, .int (iI 0), .int (iI 0)])) (t : Nat) : ∃ M', pX3_init n M a t = some M' ∧ Rk M' a t [] false ∧ ga M M' a (a + 2) := by
  obtain ⟨M1, e1, s1, g1⟩ := nw_at h1 (mm_ai 200 (fun _ => iI 0))
  obtain ⟨M2, e2, s2, f2⟩ := pr_ex (g1.at h2 (by omega)) 1 (a + 1)
  obtain ⟨M3, e3, s3, f3⟩ := pr_ex s2 0 t
  refine ⟨M3, ?_, ⟨by simp, s3, _, f3.at (f2.at s1 (by omega)) (by omega), fun i hi => by simp at hi⟩, ⟨f3.1.trans (f2.1.trans g1.1), fun q hq => (f3.2 q (by omega)).trans ((f2.2 q (by omega)).trans (g1.2 q (by omega)))⟩⟩
  simp only [pX3_init, L0, e1, e2, e3, b1_s]
theorem i1 {n : Nat} {M : mm_M} {a : Nat} (h1 : M.1 = a + 1) (h2 : M.2 a = some (mm_ob 1 [.null, .null, .null, .int (iI 0)])) : ∃ M', pX1_init n M a = some M' ∧ Jr M' a 0 [] ∧ ga M M' a (a + 4) := by
  obtain ⟨M1, e1, s1, g1⟩ := nw_at h1 (mm_ai 60 (fun _ => iI 0))
  obtain ⟨M2, e2, s2, f2⟩ := pr_ex (g1.at h2 (by omega)) 0 (a + 1)
  obtain ⟨M3, e3, s3, g3⟩ := nw_at (a := a + 2) (f2.1.trans g1.1) (mm_ai 60 (fun _ => iI 0))
  obtain ⟨M4, e4, s4, f4⟩ := pr_ex (g3.at s2 (by omega)) 1 (a + 2)
  obtain ⟨M5, e5, s5, g5⟩ := nw_at (a := a + 3) (f4.1.trans g3.1) (mm_ai 60 (fun _ => iI 0))
  obtain ⟨M6, e6, s6, f6⟩ := pr_ex (g5.at s4 (by omega)) 2 (a + 3)
  refine ⟨M6, ?_, ⟨0, _, _, _, by omega, by omega, by omega, by simp <;> omega, s6, f6.at (g5.at (f4.at (g3.at (f2.at s1 (by omega)) (by omega)) (by omega)) (by omega)) (by omega), f6.at (g5.at (f4.at s3 (by omega)) (by omega)) (by omega), f6.at s5 (by omega), fun i hi => by simp at hi⟩, ⟨f6.1.trans g5.1, fun q hq => (f6.2 q (by omega)).trans ((g5.2 q (by omega)).trans ((f4.2 q (by omega)).trans ((g3.2 q (by omega)).trans ((f2.2 q (by omega)).trans (g1.2 q (by omega))))))⟩⟩
  simp only [pX1_init, L0, e1, e2, e3, e4, e5, e6, b1_s]
theorem i0 {n : Nat} {M : mm_M} {a : Nat} (h1 : M.1 = a + 1) (h2 : M.2 a = some (mm_ob 0 [.null, .int (iI 0), .int (iI 0), .null, .int (iI 0), .int (iI 0), .int (iI 0), .null, .null])) : ∃ M', pX0_init n M a = some M' ∧ CuT M' a kU0 ∧ ga M M' a (a + 8) := by
  obtain ⟨M1, e1, s1, g1⟩ := nw_at h1 (mm_ob 5 [.null, .int (iI 0)])
  obtain ⟨M2, e2, s2, g2⟩ := i5 (n := n) (a := a + 1) g1.1 s1
  obtain ⟨M3, e3, s3, f3⟩ := pr_ex (g2.at (g1.at h2 (by omega)) (by omega)) 0 (a + 1)
  obtain ⟨M4, e4, s4, g4⟩ := nw_at (a := a + 3) (f3.1.trans g2.1) (mm_ob 2 [.null, .int (iI 0)])
  obtain ⟨M5, e5, s5, g5⟩ := i2 (n := n) (a := a + 3) g4.1 s4
  obtain ⟨M6, e6, s6, f6⟩ := pr_ex (g5.at (g4.at s3 (by omega)) (by omega)) 3 (a + 3)
  obtain ⟨M7, e7, s7, g7⟩ := nw_at (a := a + 6) (f6.1.trans g5.1) (mm_ai 9 (fun _ => iI 0))
  obtain ⟨M8, e8, s8, f8⟩ := pr_ex (g7.at s6 (by omega)) 7 (a + 6)
  obtain ⟨M9, e9, s9, g9⟩ := nw_at (a := a + 7) (f8.1.trans g7.1) (mm_ai 9 (fun _ => iI 0))
  obtain ⟨M10, e10, s10, f10⟩ := pr_ex (g9.at s8 (by omega)) 8 (a + 7)
  have w2 : Sg M10 (a + 1) [] := by
    have q3 := s2.fr f3 (by omega)
    have q4 : Sg M4 (a + 1) [] := (q3.fr (ga_fr g4) (by omega) :)
    have q5 : Sg M5 (a + 1) [] := (q4.fr (ga_fr g5) (by omega) :)
    have q6 := q5.fr f6 (by omega)
    have q7 : Sg M7 (a + 1) [] := (q6.fr (ga_fr g7) (by omega) :)
    have q8 := q7.fr f8 (by omega)
    have q9 : Sg M9 (a + 1) [] := (q8.fr (ga_fr g9) (by omega) :)
    exact q9.fr f10 (by omega)
  have w5 : Ln M10 (a + 3) 0 [] := by
    have q6 := s5.fr f6 (by omega)
    have q7 : Ln M7 (a + 3) 0 [] := (q6.fr (ga_fr g7) (by omega) :)
    have q8 := q7.fr f8 (by omega)
    have q9 : Ln M9 (a + 3) 0 [] := (q8.fr (ga_fr g9) (by omega) :)
    exact q9.fr f10 (by omega)
  refine ⟨M10, ?_, ⟨nb0, by show 0 ≤ 0; omega, by show 0 ≤ 9; omega, nb0, s10, w2, w5, ⟨_, f10.at (g9.at (f8.at s7 (by omega)) (by omega)) (by omega), fun i hi => (by simp [kU0] at hi)⟩, _, f10.at s9 (by omega), fun i hi => (by simp [kU0] at hi)⟩, ⟨f10.1.trans g9.1, fun q hq => (f10.2 q (by omega)).trans ((g9.2 q (by omega)).trans ((f8.2 q (by omega)).trans ((g7.2 q (by omega)).trans ((f6.2 q (by omega)).trans ((g5.2 q (by omega)).trans ((g4.2 q (by omega)).trans ((f3.2 q (by omega)).trans ((g2.2 q (by omega)).trans (g1.2 q (by omega))))))))))⟩⟩
  simp only [pX0_init, L0, e1, e2, e3, e4, e5, e6, e7, e8, e9, e10, b1_s]
theorem c_l72 {n : Nat} {a : Nat} : ∀ (k i : Nat) (M : mm_M) (g : Nat → Option Nat), i ≤ 3 → 3 < i + k → M.1 = a + 38 + 8 * i → M.2 a = some (mm_ob 6 [.ref (a + 1), .int (iI 0), .int (iI 0), .ref (a + 2), .ref (a + 3), .ref (a + 7)]) → M.2 (a + 2) = some (mm_ar 1 3 g) → (∀ j, j < i → g j = some (a + 38 + 8 * j)) → (∀ j, j < i → CuT M (a + 38 + 8 * j) kU0) → ∃ M', pX6_init_l72 n k M a (iI i) = some M' ∧ Cv M' a (fun _ => kU0) ∧ M'.1 = a + 62 ∧ ∀ q, (q < a + 2 ∨ (a + 2 < q ∧ q < a + 38 + 8 * i) ∨ a + 62 ≤ q) → M'.2 q = M.2 q := by
  intro k
  induction k with
  | zero => intro i M g a b; omega
  | succ k ih =>
    intro i M g i1 i2 h1 h2 h3 h4 h5
    show ∃ M', pX6_init_l72b n (pX6_init_l72 n k) M a (iI i) = _ ∧ _
    have ln : mm_len M (a + 2) = some (iI 3) := lenr_at h3 (by omega)
    by_cases dd : (3 : Int) ≤ i
    · refine ⟨M, ?_, ⟨⟨g, h3, fun j hj => h4 j (by omega)⟩, fun j hj => h5 j (by omega)⟩, by omega, fun _ _ => rfl⟩
      simp (disch := (first | assumption | (refine sm_of ?_ ?_ <;> omega) | fail)) only [iI_add, iI_sub, iI_mul, iI_neg, iI_lt, iI_le, iI_eq, b1_s, b2_s, ↓reduceIte, L0, L1, L2, L3, L4, L5, L6, L7, L8, L9, L10, L12, L20, L22, L24, L26, L27, L28, L32, L40, L60, L73, L95, L97, L222, L240, L441, L442, L622, Lm1, Lmh, L11, L13, L14, L15, L16, L17, L18, L19, L21, L23, L25, L30, L31, L33, L36, L39, L41, L44, L48, L53, L54, L55, L57, L58, L59, L91, L93, L98, L99, L100, L105, L106, L112, L114, L115, L119, L122, L160, L180, L200, L255, L1440, L24880, L63, Lm2, pX6_init_l72b, gr_at h2 3 rfl, ln, dd]
    · obtain ⟨M1, e1, s1, g1⟩ := nw_at h1 (mm_ob 0 [.null, .int (iI 0), .int (iI 0), .null, .int (iI 0), .int (iI 0), .int (iI 0), .null, .null])
      obtain ⟨M2, e2, s2, g2⟩ := i0 (n := n) g1.1 s1
      have g12 : ga M M2 (a + 38 + 8 * i) (a + 38 + 8 * i + 8) := g1.trans g2 (by omega) (by omega)
      obtain ⟨M3, e3, s3, f3⟩ := rs_ex (g12.at h3 (by omega)) (by omega) s2.2.2.2.2.1 (i := (i : Int)) (by omega) (by omega) (sm_of (by omega) (by omega))
      rw [Int.toNat_natCast] at s3
      obtain ⟨M4, e4, c4, l4, f4⟩ := ih (i + 1) M3 _ (by omega) (by omega) (by rw [f3.1, g12.1]; omega) (f3.at (g12.at h2 (by omega)) (by omega)) s3 (fun j hj => by
        by_cases e : j = i
        · subst e; simp [va_up]
        · simp [va_up, e]; exact h4 j (by omega)) (fun j hj => by
        by_cases e : j = i
        · subst e; exact s2.fr f3 (by omega)
        · have q2 : CuT M2 (a + 38 + 8 * j) kU0 := ((h5 j (by omega)).fr (ga_fr g12) (by omega) :)
          exact q2.fr f3 (by omega))
      refine ⟨M4, ?_, c4, l4, fun q hq => (f4 q (by omega)).trans ((f3.2 q (by omega)).trans (g12.2 q (by omega)))⟩
      simp (disch := (first | assumption | (refine sm_of ?_ ?_ <;> omega) | fail)) only [iI_add, iI_sub, iI_mul, iI_neg, iI_lt, iI_le, iI_eq, b1_s, b2_s, ↓reduceIte, L0, L1, L2, L3, L4, L5, L6, L7, L8, L9, L10, L12, L20, L22, L24, L26, L27, L28, L32, L40, L60, L73, L95, L97, L222, L240, L441, L442, L622, Lm1, Lmh, L11, L13, L14, L15, L16, L17, L18, L19, L21, L23, L25, L30, L31, L33, L36, L39, L41, L44, L48, L53, L54, L55, L57, L58, L59, L91, L93, L98, L99, L100, L105, L106, L112, L114, L115, L119, L122, L160, L180, L200, L255, L1440, L24880, L63, Lm2, pX6_init_l72b, gr_at h2 3 rfl, ln, dd, e1, e2, e3]
      rw [show ((i : Int) + 1) = ((i + 1 : Nat) : Int) by omega, e4]
theorem c_l42 {n : Nat} {a : Nat} : ∀ (k i : Nat) (M : mm_M) (f g : Nat → Option Nat), i ≤ 10 → 10 < i + k → M.1 = a + 8 + 3 * i → M.2 a = some (mm_ob 6 [.ref (a + 1), .int (iI 0), .int (iI 0), .ref (a + 2), .ref (a + 3), .ref (a + 7)]) → M.2 (a + 1) = some (mm_ar 0 10 f) → (∀ j, j < i → f j = some (a + 8 + 3 * j)) → (∀ j, j < i → Ln M (a + 8 + 3 * j) 0 []) → M.2 (a + 2) = some (mm_ar 1 3 g) → ∃ M', pX6_init_l42 n k M a (iI i) = some M' ∧ Lv M' a (fun j => j) (fun _ => (0, [])) ∧ Cv M' a (fun _ => kU0) ∧ M'.1 = a + 62 ∧ ∀ q, (q ≤ a ∨ (a + 3 ≤ q ∧ q < a + 8) ∨ a + 62 ≤ q) → M'.2 q = M.2 q := by
  intro k
  induction k with
  | zero => intro i M f g a b; omega
  | succ k ih =>
    intro i M f g ib ic h1 h2 h3 h4 h5 h6
    show ∃ M', pX6_init_l42b n (pX6_init_l42 n k) M a (iI i) = _ ∧ _
    have ln : mm_len M (a + 1) = some (iI 10) := lenr_at h3 (by omega)
    by_cases dd : (10 : Int) ≤ i
    · obtain ⟨M1, e1, c1, l1, f1⟩ := c_l72 (n := n) (a := a) 4 0 M g (by omega) (by omega) (by omega) h2 h6 (fun j hj => by omega) (fun j hj => by omega)
      have e1 : pX6_init_l72 n 4 M a (iI 0) = some M1 := e1
      refine ⟨M1, ?_, ⟨⟨f, (f1 _ (by omega)).trans h3, fun j hj => h4 j (by omega)⟩, fun j hj => hj, fun x y _ _ e => e, fun j hj => ?_⟩, c1, l1, fun q hq => f1 q (by omega)⟩
      · simp (disch := (first | assumption | (refine sm_of ?_ ?_ <;> omega) | fail)) only [iI_add, iI_sub, iI_mul, iI_neg, iI_lt, iI_le, iI_eq, b1_s, b2_s, ↓reduceIte, L0, L1, L2, L3, L4, L5, L6, L7, L8, L9, L10, L12, L20, L22, L24, L26, L27, L28, L32, L40, L60, L73, L95, L97, L222, L240, L441, L442, L622, Lm1, Lmh, L11, L13, L14, L15, L16, L17, L18, L19, L21, L23, L25, L30, L31, L33, L36, L39, L41, L44, L48, L53, L54, L55, L57, L58, L59, L91, L93, L98, L99, L100, L105, L106, L112, L114, L115, L119, L122, L160, L180, L200, L255, L1440, L24880, L63, Lm2, pX6_init_l42b, gr_at h2 0 rfl, ln, dd, e1]
      · obtain ⟨z1, z2, z3, z4, z5, u, z6, z7⟩ := h5 j (by omega)
        exact ⟨z1, (f1 _ (by omega)).trans z2, z3, z4, (f1 _ (by omega)).trans z5, u, (f1 _ (by omega)).trans z6, z7⟩
    · obtain ⟨M1, e1, s1, g1⟩ := nw_at h1 (mm_ob 2 [.null, .int (iI 0)])
      obtain ⟨M2, e2, s2, g2⟩ := i2 (n := n) g1.1 s1
      have g12 : ga M M2 (a + 8 + 3 * i) (a + 8 + 3 * i + 3) := g1.trans g2 (by omega) (by omega)
      obtain ⟨M3, e3, s3, f3⟩ := rs_ex (g12.at h3 (by omega)) (by omega) s2.2.1 (i := (i : Int)) (by omega) (by omega) (sm_of (by omega) (by omega))
      rw [Int.toNat_natCast] at s3
      obtain ⟨M4, e4, a4, c4, l4, f4⟩ := ih (i + 1) M3 _ g (by omega) (by omega) (by rw [f3.1, g12.1]; omega) (f3.at (g12.at h2 (by omega)) (by omega)) s3 (fun j hj => by
        by_cases e : j = i
        · subst e; simp [va_up]
        · simp [va_up, e]; exact h4 j (by omega)) (fun j hj => by
        by_cases e : j = i
        · subst e; exact s2.fr f3 (by omega)
        · have q2 : Ln M2 (a + 8 + 3 * j) 0 [] := ((h5 j (by omega)).fr (ga_fr g12) (by omega) :)
          exact q2.fr f3 (by omega)) (f3.at (g12.at h6 (by omega)) (by omega))
      refine ⟨M4, ?_, a4, c4, l4, fun q hq => (f4 q hq).trans ((f3.2 q (by omega)).trans (g12.2 q (by omega)))⟩
      simp (disch := (first | assumption | (refine sm_of ?_ ?_ <;> omega) | fail)) only [iI_add, iI_sub, iI_mul, iI_neg, iI_lt, iI_le, iI_eq, b1_s, b2_s, ↓reduceIte, L0, L1, L2, L3, L4, L5, L6, L7, L8, L9, L10, L12, L20, L22, L24, L26, L27, L28, L32, L40, L60, L73, L95, L97, L222, L240, L441, L442, L622, Lm1, Lmh, L11, L13, L14, L15, L16, L17, L18, L19, L21, L23, L25, L30, L31, L33, L36, L39, L41, L44, L48, L53, L54, L55, L57, L58, L59, L91, L93, L98, L99, L100, L105, L106, L112, L114, L115, L119, L122, L160, L180, L200, L255, L1440, L24880, L63, Lm2, pX6_init_l42b, gr_at h2 0 rfl, ln, dd, e1, e2, e3]
      rw [show ((i : Int) + 1) = ((i + 1 : Nat) : Int) by omega, e4]
theorem i6 {n : Nat} {M : mm_M} {a : Nat} (h1 : M.1 = a + 1) (h2 : M.2 a = some (mm_ob 6 [.null, .int (iI 0), .int (iI 0), .null, .null, .null])) : ∃ M', pX6_init n M a = some M' ∧ St M' a 0 kT0 ∧ ga M M' a (a + 62) := by
  obtain ⟨M1, e1, s1, g1⟩ := nw_at h1 (mm_ar 0 10 (fun _ => none))
  obtain ⟨M2, e2, s2, f2⟩ := pr_ex (g1.at h2 (by omega)) 0 (a + 1)
  obtain ⟨M3, e3, s3, g3⟩ := nw_at (a := a + 2) (f2.1.trans g1.1) (mm_ar 1 3 (fun _ => none))
  obtain ⟨M4, e4, s4, f4⟩ := pr_ex (g3.at s2 (by omega)) 3 (a + 2)
  obtain ⟨M5, e5, s5, g5⟩ := nw_at (a := a + 3) (f4.1.trans g3.1) (mm_ob 1 [.null, .null, .null, .int (iI 0)])
  obtain ⟨M6, e6, s6, g6⟩ := i1 (n := n) g5.1 s5
  obtain ⟨M7, e7, s7, f7⟩ := pr_ex (g6.at (g5.at s4 (by omega)) (by omega)) 4 (a + 3)
  obtain ⟨M8, e8, s8, g8⟩ := nw_at (a := a + 7) (f7.1.trans g6.1) (mm_ai 9 (fun _ => iI 0))
  obtain ⟨M9, e9, s9, f9⟩ := pr_ex (g8.at s7 (by omega)) 5 (a + 7)
  have r1 : M9.2 (a + 1) = some (mm_ar 0 10 (fun _ => none)) := f9.at (g8.at (f7.at (g6.at (g5.at (f4.at (g3.at (f2.at s1 (by omega)) (by omega)) (by omega)) (by omega)) (by omega)) (by omega)) (by omega)) (by omega)
  have r2 : M9.2 (a + 2) = some (mm_ar 1 3 (fun _ => none)) := f9.at (g8.at (f7.at (g6.at (g5.at (f4.at s3 (by omega)) (by omega)) (by omega)) (by omega)) (by omega)) (by omega)
  have j9 : Jr M9 (a + 3) 0 [] := by
    have q7 := s6.fr f7 (by omega)
    have q8 : Jr M8 (a + 3) 0 [] := (q7.fr (ga_fr g8) (by omega) :)
    exact q8.fr f9 (by omega)
  obtain ⟨M10, e10, l10, c10, n10, f10⟩ := c_l42 (n := n) (a := a) 11 0 M9 _ _ (by omega) (by omega) (by rw [f9.1, g8.1]) s9 r1 (fun j hj => by omega) (fun j hj => by omega) r2
  have e10 : pX6_init_l42 n 11 M9 a (iI 0) = some M10 := e10
  obtain ⟨w, u, v, z, j1, j2, j3, j4, j5, j6, j7, j8, j9'⟩ := j9
  refine ⟨M10, ?_, ⟨fun j => j, fun _ => (0, []), 0, fun _ => kU0, ⟨⟨by omega, nb0, (f10 a (by omega)).trans s9⟩, l10, c10, ⟨w, u, v, z, j1, j2, j3, j4, (f10 _ (by omega)).trans j5, (f10 _ (by omega)).trans j6, (f10 _ (by omega)).trans j7, (f10 _ (by omega)).trans j8, j9'⟩, _, (f10 _ (by omega)).trans (f9.at s8 (by omega))⟩, rfl, fun _ _ => rfl, by omega, by show (0 : Int) ≤ _; omega, fun i hi => ⟨by show (0 : Int) ≤ _; omega, by show (0 : Int) ≤ 9; omega⟩⟩, n10, fun q hq => (f10 q (by omega)).trans ((f9.2 q (by omega)).trans ((g8.2 q (by omega)).trans ((f7.2 q (by omega)).trans ((g6.2 q (by omega)).trans ((g5.2 q (by omega)).trans ((f4.2 q (by omega)).trans ((g3.2 q (by omega)).trans ((f2.2 q (by omega)).trans (g1.2 q (by omega))))))))))⟩
  simp only [pX6_init, L0, e1, e2, e3, e4, e5, e6, e7, e8, e9, e10, b1_s]
theorem c_l15 {n : Nat} {a : Nat} {v : Value} : ∀ (k i : Nat) (M : mm_M) (f : Nat → Option Nat), i ≤ 12 → 12 < i + k → M.1 = a + 2 + 3 * i → M.2 a = some (mm_ob 4 [.ref (a + 1), .int (iI 0)]) → M.2 (a + 1) = some (mm_ar 3 12 f) → (∀ j, j < i → f j = some (a + 2 + 3 * j)) → (∀ j, j < i → Sp M (a + 2 + 3 * j) (iI 0) (iI 0) (iI 0) []) → ∃ M', pX4_init_l15 n k M a (iI i) = some M' ∧ ScA M' a ∧ M'.1 = a + 38 ∧ ∀ q, (q < a ∨ a + 38 ≤ q) → M'.2 q = M.2 q := by
  intro k
  induction k with
  | zero => intro i M f a b; omega
  | succ k ih =>
    intro i M f i1 i2 h1 h2 h3 h4 h5
    show ∃ M', pX4_init_l15b n (pX4_init_l15 n k) M a (iI i) = _ ∧ _
    have ln : mm_len M (a + 1) = some (iI 12) := lenr_at h3 (by omega)
    by_cases dd : (12 : Int) ≤ i
    · refine ⟨M, ?_, ⟨⟨_, h2⟩, ⟨f, h3, fun j hj => h4 j (by omega)⟩, fun j hj => ⟨_, _, _, _, h5 j (by omega)⟩⟩, by omega, fun _ _ => rfl⟩
      simp (disch := (first | assumption | (refine sm_of ?_ ?_ <;> omega) | fail)) only [iI_add, iI_sub, iI_mul, iI_neg, iI_lt, iI_le, iI_eq, b1_s, b2_s, ↓reduceIte, L0, L1, L2, L3, L4, L5, L6, L7, L8, L9, L10, L12, L20, L22, L24, L26, L27, L28, L32, L40, L60, L73, L95, L97, L222, L240, L441, L442, L622, Lm1, Lmh, L11, L13, L14, L15, L16, L17, L18, L19, L21, L23, L25, L30, L31, L33, L36, L39, L41, L44, L48, L53, L54, L55, L57, L58, L59, L91, L93, L98, L99, L100, L105, L106, L112, L114, L115, L119, L122, L160, L180, L200, L255, L1440, L24880, L63, Lm2, pX4_init_l15b, gr_at h2 0 rfl, ln, dd]
    · obtain ⟨M1, e1, s1, g1⟩ := nw_at h1 (mm_ob 7 [.int (iI 0), .int (iI 0), .int (iI 0), .null])
      obtain ⟨M2, e2, s2, g2⟩ := i7 (n := n) g1.1 s1
      have g12 : ga M M2 (a + 2 + 3 * i) (a + 2 + 3 * i + 3) := g1.trans g2 (by omega) (by omega)
      obtain ⟨M3, e3, s3, f3⟩ := rs_ex (g12.at h3 (by omega)) (by omega) s2.1 (i := (i : Int)) (by omega) (by omega) (sm_of (by omega) (by omega))
      rw [Int.toNat_natCast] at s3
      obtain ⟨M4, e4, a4, l4, f4⟩ := ih (i + 1) M3 _ (by omega) (by omega) (by rw [f3.1, g12.1]; omega) (f3.at (g12.at h2 (by omega)) (by omega)) s3 (fun j hj => by
        by_cases e : j = i
        · subst e; simp [va_up]
        · simp [va_up, e]; exact h4 j (by omega)) (fun j hj => by
        by_cases e : j = i
        · subst e; exact s2.fr f3 (by omega)
        · have q2 : Sp M2 (a + 2 + 3 * j) (iI 0) (iI 0) (iI 0) [] := ((h5 j (by omega)).fr (ga_fr g12) (by omega) :)
          exact q2.fr f3 (by omega))
      refine ⟨M4, ?_, a4, l4, fun q hq => (f4 q hq).trans ((f3.2 q (by omega)).trans (g12.2 q (by omega)))⟩
      simp (disch := (first | assumption | (refine sm_of ?_ ?_ <;> omega) | fail)) only [iI_add, iI_sub, iI_mul, iI_neg, iI_lt, iI_le, iI_eq, b1_s, b2_s, ↓reduceIte, L0, L1, L2, L3, L4, L5, L6, L7, L8, L9, L10, L12, L20, L22, L24, L26, L27, L28, L32, L40, L60, L73, L95, L97, L222, L240, L441, L442, L622, Lm1, Lmh, L11, L13, L14, L15, L16, L17, L18, L19, L21, L23, L25, L30, L31, L33, L36, L39, L41, L44, L48, L53, L54, L55, L57, L58, L59, L91, L93, L98, L99, L100, L105, L106, L112, L114, L115, L119, L122, L160, L180, L200, L255, L1440, L24880, L63, Lm2, pX4_init_l15b, gr_at h2 0 rfl, ln, dd, e1, e2, e3]
      rw [show ((i : Int) + 1) = ((i + 1 : Nat) : Int) by omega, e4]
theorem i4 {n : Nat} {M : mm_M} {a : Nat} (h1 : M.1 = a + 1) (h2 : M.2 a = some (mm_ob 4 [.null, .int (iI 0)])) : ∃ M', pX4_init n M a = some M' ∧ ScA M' a ∧ ga M M' a (a + 38) := by
  obtain ⟨M1, e1, s1, g1⟩ := nw_at h1 (mm_ar 3 12 (fun _ => none))
  obtain ⟨M2, e2, s2, f2⟩ := pr_ex (g1.at h2 (by omega)) 0 (a + 1)
  obtain ⟨M3, e3, a3, n3, f3⟩ := c_l15 (n := n) (a := a) (v := .null) 13 0 M2 _ (by omega) (by omega) (by rw [f2.1, g1.1]) s2 (f2.at s1 (by omega)) (fun j hj => by omega) (fun j hj => by omega)
  have e3 : pX4_init_l15 n 13 M2 a (iI 0) = some M3 := e3
  refine ⟨M3, ?_, a3, n3, fun q hq => (f3 q (by omega)).trans ((f2.2 q (by omega)).trans (g1.2 q (by omega)))⟩
  simp only [pX4_init, L0, e1, e2, e3, b1_s]
theorem c_l174 {n : Nat} {ax : Nat} : ∀ (k i : Nat) (M : mm_M) (g : Nat → Option Nat), i ≤ 5 → 5 < i + k → M.1 = ax + 2685 + 38 * i → CO M ax false 0 0 0 0 → M.2 (ax + 137) = some (mm_ar 4 5 g) → (∀ j, j < i → g j = some (ax + 2685 + 38 * j)) → (∀ j, j < i → ScA M (ax + 2685 + 38 * j)) → ∃ M', pX9_init_l174 n k M ax (iI i) = some M' ∧ SrV M' ax ∧ ScV M' ax [] ∧ M'.1 = ax + 2875 ∧ ∀ q, (q < ax + 137 ∨ (ax + 137 < q ∧ q < ax + 2685 + 38 * i) ∨ ax + 2875 ≤ q) → M'.2 q = M.2 q := by
  intro k
  induction k with
  | zero => intro i M g a b; omega
  | succ k ih =>
    intro i M g i1 i2 h1 h2 h3 h4 h5
    show ∃ M', pX9_init_l174b n (pX9_init_l174 n k) M ax (iI i) = _ ∧ _
    have ln : mm_len M (ax + 137) = some (iI 5) := lenr_at h3 (by omega)
    by_cases dd : (5 : Int) ≤ i
    · refine ⟨M, ?_, ⟨g, h3, fun j hj => h4 j (by omega)⟩, ⟨by simp, fun j hj => h5 j (by omega), fun j hj => by simp at hj⟩, by omega, fun _ _ => rfl⟩
      simp (disch := (first | assumption | (refine sm_of ?_ ?_ <;> omega) | fail)) only [iI_add, iI_sub, iI_mul, iI_neg, iI_lt, iI_le, iI_eq, b1_s, b2_s, ↓reduceIte, L0, L1, L2, L3, L4, L5, L6, L7, L8, L9, L10, L12, L20, L22, L24, L26, L27, L28, L32, L40, L60, L73, L95, L97, L222, L240, L441, L442, L622, Lm1, Lmh, L11, L13, L14, L15, L16, L17, L18, L19, L21, L23, L25, L30, L31, L33, L36, L39, L41, L44, L48, L53, L54, L55, L57, L58, L59, L91, L93, L98, L99, L100, L105, L106, L112, L114, L115, L119, L122, L160, L180, L200, L255, L1440, L24880, L63, Lm2, pX9_init_l174b, h2.all, ln, dd]
    · obtain ⟨M1, e1, s1, g1⟩ := nw_at h1 (mm_ob 4 [.null, .int (iI 0)])
      obtain ⟨M2, e2, s2, g2⟩ := i4 (n := n) g1.1 s1
      have g12 : ga M M2 (ax + 2685 + 38 * i) (ax + 2685 + 38 * i + 38) := g1.trans g2 (by omega) (by omega)
      obtain ⟨vv, ob⟩ := s2.1
      obtain ⟨M3, e3, s3, f3⟩ := rs_ex (g12.at h3 (by omega)) (by omega) ob (i := (i : Int)) (by omega) (by omega) (sm_of (by omega) (by omega))
      rw [Int.toNat_natCast] at s3
      have o2 : CO M2 ax false 0 0 0 0 := (h2.fr (ga_fr g12) (by omega) :)
      obtain ⟨M4, e4, a4, c4, l4, f4⟩ := ih (i + 1) M3 _ (by omega) (by omega) (by rw [f3.1, g12.1]; omega) (o2.fr f3 (by omega)) s3 (fun j hj => by
        by_cases e : j = i
        · subst e; simp [va_up]
        · simp [va_up, e]; exact h4 j (by omega)) (fun j hj => by
        by_cases e : j = i
        · subst e; exact s2.fr f3 (by omega)
        · have q2 : ScA M2 (ax + 2685 + 38 * j) := ((h5 j (by omega)).fr (ga_fr g12) (by omega) :)
          exact q2.fr f3 (by omega))
      refine ⟨M4, ?_, a4, c4, l4, fun q hq => (f4 q (by omega)).trans ((f3.2 q (by omega)).trans (g12.2 q (by omega)))⟩
      simp (disch := (first | assumption | (refine sm_of ?_ ?_ <;> omega) | fail)) only [iI_add, iI_sub, iI_mul, iI_neg, iI_lt, iI_le, iI_eq, b1_s, b2_s, ↓reduceIte, L0, L1, L2, L3, L4, L5, L6, L7, L8, L9, L10, L12, L20, L22, L24, L26, L27, L28, L32, L40, L60, L73, L95, L97, L222, L240, L441, L442, L622, Lm1, Lmh, L11, L13, L14, L15, L16, L17, L18, L19, L21, L23, L25, L30, L31, L33, L36, L39, L41, L44, L48, L53, L54, L55, L57, L58, L59, L91, L93, L98, L99, L100, L105, L106, L112, L114, L115, L119, L122, L160, L180, L200, L255, L1440, L24880, L63, Lm2, pX9_init_l174b, h2.all, ln, dd, e1, e2, e3]
      rw [show ((i : Int) + 1) = ((i + 1 : Nat) : Int) by omega, e4]
theorem c_l144 {n : Nat} {ax : Nat} : ∀ (k i : Nat) (M : mm_M) (f g : Nat → Option Nat), i ≤ 40 → 40 < i + k → M.1 = ax + 205 + 62 * i → CO M ax false 0 0 0 0 → M.2 (ax + 127) = some (mm_ar 2 40 f) → (∀ j, j < i → f j = some (ax + 205 + 62 * j)) → (∀ j, j < i → St M (ax + 205 + 62 * j) 0 kT0) → M.2 (ax + 137) = some (mm_ar 4 5 g) → ∃ M', pX9_init_l144 n k M ax (iI i) = some M' ∧ PrV M' ax ∧ PsV M' ax 0 0 [] ∧ SrV M' ax ∧ ScV M' ax [] ∧ M'.1 = ax + 2875 ∧ ∀ q, (q < ax + 127 ∨ (ax + 127 < q ∧ q < ax + 137) ∨ (ax + 137 < q ∧ q < ax + 205) ∨ ax + 2875 ≤ q) → M'.2 q = M.2 q := by
  intro k
  induction k with
  | zero => intro i M f g a b; omega
  | succ k ih =>
    intro i M f g i1 i2 h1 h2 h3 h4 h5 h6
    show ∃ M', pX9_init_l144b n (pX9_init_l144 n k) M ax (iI i) = _ ∧ _
    have ln : mm_len M (ax + 127) = some (iI 40) := lenr_at h3 (by omega)
    by_cases dd : (40 : Int) ≤ i
    · obtain ⟨M1, e1, a1, c1, l1, f1⟩ := c_l174 (n := n) (ax := ax) 6 0 M g (by omega) (by omega) (by omega) h2 h6 (fun j hj => by omega) (fun j hj => by omega)
      have e1 : pX9_init_l174 n 6 M ax (iI 0) = some M1 := e1
      have ff : fr2 M (M.1, M1.2) (ax + 137) 1 (ax + 2685) 190 := ⟨rfl, fun q x y => f1 q (by omega)⟩
      obtain ⟨Mm, fa, fb⟩ := ff.split
      refine ⟨M1, ?_, ⟨f, (f1 _ (by omega)).trans h3, fun j hj => h4 j (by omega)⟩, ⟨by omega, by simp, fun j hj => ⟨kT0, ((h5 j (by omega)).fr fa (by omega)).fr fb (by omega)⟩, fun j hj => by simp at hj⟩, a1, c1, l1, fun q hq => f1 q (by omega)⟩
      simp (disch := (first | assumption | (refine sm_of ?_ ?_ <;> omega) | fail)) only [iI_add, iI_sub, iI_mul, iI_neg, iI_lt, iI_le, iI_eq, b1_s, b2_s, ↓reduceIte, L0, L1, L2, L3, L4, L5, L6, L7, L8, L9, L10, L12, L20, L22, L24, L26, L27, L28, L32, L40, L60, L73, L95, L97, L222, L240, L441, L442, L622, Lm1, Lmh, L11, L13, L14, L15, L16, L17, L18, L19, L21, L23, L25, L30, L31, L33, L36, L39, L41, L44, L48, L53, L54, L55, L57, L58, L59, L91, L93, L98, L99, L100, L105, L106, L112, L114, L115, L119, L122, L160, L180, L200, L255, L1440, L24880, L63, Lm2, pX9_init_l144b, h2.all, ln, dd, e1]
    · obtain ⟨M1, e1, s1, g1⟩ := nw_at h1 (mm_ob 6 [.null, .int (iI 0), .int (iI 0), .null, .null, .null])
      obtain ⟨M2, e2, s2, g2⟩ := i6 (n := n) g1.1 s1
      have g12 : ga M M2 (ax + 205 + 62 * i) (ax + 205 + 62 * i + 62) := g1.trans g2 (by omega) (by omega)
      have ob : ∃ fs, M2.2 (ax + 205 + 62 * i) = some (mm_ob 6 fs) := by
        obtain ⟨F, D, cc, C, ⟨hO, -⟩, -⟩ := s2
        exact ⟨_, hO.2.2⟩
      obtain ⟨fs, ob⟩ := ob
      obtain ⟨M3, e3, s3, f3⟩ := rs_ex (g12.at h3 (by omega)) (by omega) ob (i := (i : Int)) (by omega) (by omega) (sm_of (by omega) (by omega))
      rw [Int.toNat_natCast] at s3
      have o2 : CO M2 ax false 0 0 0 0 := (h2.fr (ga_fr g12) (by omega) :)
      obtain ⟨M4, e4, a4, b4, c4, d4, l4, f4⟩ := ih (i + 1) M3 _ g (by omega) (by omega) (by rw [f3.1, g12.1]; omega) (o2.fr f3 (by omega)) s3 (fun j hj => by
        by_cases e : j = i
        · subst e; simp [va_up]
        · simp [va_up, e]; exact h4 j (by omega)) (fun j hj => by
        by_cases e : j = i
        · subst e; exact s2.fr f3 (by omega)
        · have q2 : St M2 (ax + 205 + 62 * j) 0 kT0 := ((h5 j (by omega)).fr (ga_fr g12) (by omega) :)
          exact q2.fr f3 (by omega)) (f3.at (g12.at h6 (by omega)) (by omega))
      refine ⟨M4, ?_, a4, b4, c4, d4, l4, fun q hq => (f4 q (by omega)).trans ((f3.2 q (by omega)).trans (g12.2 q (by omega)))⟩
      simp (disch := (first | assumption | (refine sm_of ?_ ?_ <;> omega) | fail)) only [iI_add, iI_sub, iI_mul, iI_neg, iI_lt, iI_le, iI_eq, b1_s, b2_s, ↓reduceIte, L0, L1, L2, L3, L4, L5, L6, L7, L8, L9, L10, L12, L20, L22, L24, L26, L27, L28, L32, L40, L60, L73, L95, L97, L222, L240, L441, L442, L622, Lm1, Lmh, L11, L13, L14, L15, L16, L17, L18, L19, L21, L23, L25, L30, L31, L33, L36, L39, L41, L44, L48, L53, L54, L55, L57, L58, L59, L91, L93, L98, L99, L100, L105, L106, L112, L114, L115, L119, L122, L160, L180, L200, L255, L1440, L24880, L63, Lm2, pX9_init_l144b, h2.all, ln, dd, e1, e2, e3]
      rw [show ((i : Int) + 1) = ((i + 1 : Nat) : Int) by omega, e4]
theorem i9 {n : Nat} {M : mm_M} {ax : Nat} (h1 : M.1 = ax + 1) (h2 : M.2 ax = some (mm_ob 9 [.null, .null, .null, .null, .int (iI 0), .null, .int (iI 0), .int (iI 0), .null, .null, .null, .null, .null, .int (iI 0), .null, .null, .null, .long 0])) : ∃ M', pX9_init n M ax = some M' ∧ Cls M' ax 0 [] kT0 [] [] none [] (fun _ => 0) ∧ M'.1 = ax + 2875 := by
  obtain ⟨A0, ea0, sa0, ga0⟩ := nw_at (a := ax + 1) h1 (mm_ob 8 [.null, .int (iI 0), .int (iI 0)])
  obtain ⟨B0, eb0, sb0, gb0⟩ := i8 (n := n) ga0.1 sa0
  have gg0 : ga M B0 (ax + 1) (ax + 3) := ga0.trans gb0 (by omega) (by omega)
  obtain ⟨D0, ec0, ob0, fc0⟩ := pr_ex (gg0.at h2 (by omega)) 0 (ax + 1)
  have x0_0 := sb0.fr fc0 (by omega)
  obtain ⟨A1, ea1, sa1, ga1⟩ := nw_at (a := ax + 3) (fc0.1.trans gg0.1) (mm_ob 6 [.null, .int (iI 0), .int (iI 0), .null, .null, .null])
  obtain ⟨B1, eb1, sb1, gb1⟩ := i6 (n := n) ga1.1 sa1
  have gg1 : ga D0 B1 (ax + 3) (ax + 65) := ga1.trans gb1 (by omega) (by omega)
  obtain ⟨D1, ec1, ob1, fc1⟩ := pr_ex (gg1.at ob0 (by omega)) 2 (ax + 3)
  have y0_1 : TpR B1 (ax + 1) [] := (x0_0.fr (ga_fr gg1) (by omega) :)
  have x0_1 := y0_1.fr fc1 (by omega)
  have x1_1 := sb1.fr fc1 (by omega)
  obtain ⟨A2, ea2, sa2, ga2⟩ := nw_at (a := ax + 65) (fc1.1.trans gg1.1) (mm_ob 6 [.null, .int (iI 0), .int (iI 0), .null, .null, .null])
  obtain ⟨B2, eb2, sb2, gb2⟩ := i6 (n := n) ga2.1 sa2
  have gg2 : ga D1 B2 (ax + 65) (ax + 127) := ga2.trans gb2 (by omega) (by omega)
  obtain ⟨D2, ec2, ob2, fc2⟩ := pr_ex (gg2.at ob1 (by omega)) 3 (ax + 65)
  have y0_2 : TpR B2 (ax + 1) [] := (x0_1.fr (ga_fr gg2) (by omega) :)
  have x0_2 := y0_2.fr fc2 (by omega)
  have y1_2 : St B2 (ax + 3) 0 kT0 := (x1_1.fr (ga_fr gg2) (by omega) :)
  have x1_2 := y1_2.fr fc2 (by omega)
  have x2_2 := sb2.fr fc2 (by omega)
  obtain ⟨A3, ea3, sa3, ga3⟩ := nw_at (a := ax + 127) (fc2.1.trans gg2.1) (mm_ar 2 40 (fun _ => none))
  have gg3 : ga D2 A3 (ax + 127) (ax + 128) := ga3
  obtain ⟨D3, ec3, ob3, fc3⟩ := pr_ex (gg3.at ob2 (by omega)) 5 (ax + 127)
  have y0_3 : TpR A3 (ax + 1) [] := (x0_2.fr (ga_fr gg3) (by omega) :)
  have x0_3 := y0_3.fr fc3 (by omega)
  have y1_3 : St A3 (ax + 3) 0 kT0 := (x1_2.fr (ga_fr gg3) (by omega) :)
  have x1_3 := y1_3.fr fc3 (by omega)
  have y2_3 : St A3 (ax + 65) 0 kT0 := (x2_2.fr (ga_fr gg3) (by omega) :)
  have x2_3 := y2_3.fr fc3 (by omega)
  have x3_3 : D3.2 (ax + 127) = some (mm_ar 2 40 (fun _ => none)) := fc3.at sa3 (by omega)
  obtain ⟨A4, ea4, sa4, ga4⟩ := nw_at (a := ax + 128) (fc3.1.trans gg3.1) (mm_ob 5 [.null, .int (iI 0)])
  obtain ⟨B4, eb4, sb4, gb4⟩ := i5 (n := n) ga4.1 sa4
  have gg4 : ga D3 B4 (ax + 128) (ax + 130) := ga4.trans gb4 (by omega) (by omega)
  obtain ⟨D4, ec4, ob4, fc4⟩ := pr_ex (gg4.at ob3 (by omega)) 8 (ax + 128)
  have y0_4 : TpR B4 (ax + 1) [] := (x0_3.fr (ga_fr gg4) (by omega) :)
  have x0_4 := y0_4.fr fc4 (by omega)
  have y1_4 : St B4 (ax + 3) 0 kT0 := (x1_3.fr (ga_fr gg4) (by omega) :)
  have x1_4 := y1_4.fr fc4 (by omega)
  have y2_4 : St B4 (ax + 65) 0 kT0 := (x2_3.fr (ga_fr gg4) (by omega) :)
  have x2_4 := y2_4.fr fc4 (by omega)
  have x3_4 : D4.2 (ax + 127) = some (mm_ar 2 40 (fun _ => none)) := fc4.at (gg4.at x3_3 (by omega)) (by omega)
  have x4_4 := sb4.fr fc4 (by omega)
  obtain ⟨A5, ea5, sa5, ga5⟩ := nw_at (a := ax + 130) (fc4.1.trans gg4.1) (mm_ob 5 [.null, .int (iI 0)])
  obtain ⟨B5, eb5, sb5, gb5⟩ := i5 (n := n) ga5.1 sa5
  have gg5 : ga D4 B5 (ax + 130) (ax + 132) := ga5.trans gb5 (by omega) (by omega)
  obtain ⟨D5, ec5, ob5, fc5⟩ := pr_ex (gg5.at ob4 (by omega)) 9 (ax + 130)
  have y0_5 : TpR B5 (ax + 1) [] := (x0_4.fr (ga_fr gg5) (by omega) :)
  have x0_5 := y0_5.fr fc5 (by omega)
  have y1_5 : St B5 (ax + 3) 0 kT0 := (x1_4.fr (ga_fr gg5) (by omega) :)
  have x1_5 := y1_5.fr fc5 (by omega)
  have y2_5 : St B5 (ax + 65) 0 kT0 := (x2_4.fr (ga_fr gg5) (by omega) :)
  have x2_5 := y2_5.fr fc5 (by omega)
  have x3_5 : D5.2 (ax + 127) = some (mm_ar 2 40 (fun _ => none)) := fc5.at (gg5.at x3_4 (by omega)) (by omega)
  have y4_5 : Sg B5 (ax + 128) [] := (x4_4.fr (ga_fr gg5) (by omega) :)
  have x4_5 := y4_5.fr fc5 (by omega)
  have x5_5 := sb5.fr fc5 (by omega)
  obtain ⟨A6, ea6, sa6, ga6⟩ := nw_at (a := ax + 132) (fc5.1.trans gg5.1) (mm_ob 5 [.null, .int (iI 0)])
  obtain ⟨B6, eb6, sb6, gb6⟩ := i5 (n := n) ga6.1 sa6
  have gg6 : ga D5 B6 (ax + 132) (ax + 134) := ga6.trans gb6 (by omega) (by omega)
  obtain ⟨D6, ec6, ob6, fc6⟩ := pr_ex (gg6.at ob5 (by omega)) 10 (ax + 132)
  have y0_6 : TpR B6 (ax + 1) [] := (x0_5.fr (ga_fr gg6) (by omega) :)
  have x0_6 := y0_6.fr fc6 (by omega)
  have y1_6 : St B6 (ax + 3) 0 kT0 := (x1_5.fr (ga_fr gg6) (by omega) :)
  have x1_6 := y1_6.fr fc6 (by omega)
  have y2_6 : St B6 (ax + 65) 0 kT0 := (x2_5.fr (ga_fr gg6) (by omega) :)
  have x2_6 := y2_6.fr fc6 (by omega)
  have x3_6 : D6.2 (ax + 127) = some (mm_ar 2 40 (fun _ => none)) := fc6.at (gg6.at x3_5 (by omega)) (by omega)
  have y4_6 : Sg B6 (ax + 128) [] := (x4_5.fr (ga_fr gg6) (by omega) :)
  have x4_6 := y4_6.fr fc6 (by omega)
  have y5_6 : Sg B6 (ax + 130) [] := (x5_5.fr (ga_fr gg6) (by omega) :)
  have x5_6 := y5_6.fr fc6 (by omega)
  have x6_6 := sb6.fr fc6 (by omega)
  obtain ⟨A7, ea7, sa7, ga7⟩ := nw_at (a := ax + 134) (fc6.1.trans gg6.1) (mm_ob 7 [.int (iI 0), .int (iI 0), .int (iI 0), .null])
  obtain ⟨B7, eb7, sb7, gb7⟩ := i7 (n := n) ga7.1 sa7
  have gg7 : ga D6 B7 (ax + 134) (ax + 137) := ga7.trans gb7 (by omega) (by omega)
  obtain ⟨D7, ec7, ob7, fc7⟩ := pr_ex (gg7.at ob6 (by omega)) 11 (ax + 134)
  have y0_7 : TpR B7 (ax + 1) [] := (x0_6.fr (ga_fr gg7) (by omega) :)
  have x0_7 := y0_7.fr fc7 (by omega)
  have y1_7 : St B7 (ax + 3) 0 kT0 := (x1_6.fr (ga_fr gg7) (by omega) :)
  have x1_7 := y1_7.fr fc7 (by omega)
  have y2_7 : St B7 (ax + 65) 0 kT0 := (x2_6.fr (ga_fr gg7) (by omega) :)
  have x2_7 := y2_7.fr fc7 (by omega)
  have x3_7 : D7.2 (ax + 127) = some (mm_ar 2 40 (fun _ => none)) := fc7.at (gg7.at x3_6 (by omega)) (by omega)
  have y4_7 : Sg B7 (ax + 128) [] := (x4_6.fr (ga_fr gg7) (by omega) :)
  have x4_7 := y4_7.fr fc7 (by omega)
  have y5_7 : Sg B7 (ax + 130) [] := (x5_6.fr (ga_fr gg7) (by omega) :)
  have x5_7 := y5_7.fr fc7 (by omega)
  have y6_7 : Sg B7 (ax + 132) [] := (x6_6.fr (ga_fr gg7) (by omega) :)
  have x6_7 := y6_7.fr fc7 (by omega)
  have x7_7 := sb7.fr fc7 (by omega)
  obtain ⟨A8, ea8, sa8, ga8⟩ := nw_at (a := ax + 137) (fc7.1.trans gg7.1) (mm_ar 4 5 (fun _ => none))
  have gg8 : ga D7 A8 (ax + 137) (ax + 138) := ga8
  obtain ⟨D8, ec8, ob8, fc8⟩ := pr_ex (gg8.at ob7 (by omega)) 12 (ax + 137)
  have y0_8 : TpR A8 (ax + 1) [] := (x0_7.fr (ga_fr gg8) (by omega) :)
  have x0_8 := y0_8.fr fc8 (by omega)
  have y1_8 : St A8 (ax + 3) 0 kT0 := (x1_7.fr (ga_fr gg8) (by omega) :)
  have x1_8 := y1_8.fr fc8 (by omega)
  have y2_8 : St A8 (ax + 65) 0 kT0 := (x2_7.fr (ga_fr gg8) (by omega) :)
  have x2_8 := y2_8.fr fc8 (by omega)
  have x3_8 : D8.2 (ax + 127) = some (mm_ar 2 40 (fun _ => none)) := fc8.at (gg8.at x3_7 (by omega)) (by omega)
  have y4_8 : Sg A8 (ax + 128) [] := (x4_7.fr (ga_fr gg8) (by omega) :)
  have x4_8 := y4_8.fr fc8 (by omega)
  have y5_8 : Sg A8 (ax + 130) [] := (x5_7.fr (ga_fr gg8) (by omega) :)
  have x5_8 := y5_8.fr fc8 (by omega)
  have y6_8 : Sg A8 (ax + 132) [] := (x6_7.fr (ga_fr gg8) (by omega) :)
  have x6_8 := y6_8.fr fc8 (by omega)
  have y7_8 : Sp A8 (ax + 134) (iI 0) (iI 0) (iI 0) [] := (x7_7.fr (ga_fr gg8) (by omega) :)
  have x7_8 := y7_8.fr fc8 (by omega)
  have x8_8 : D8.2 (ax + 137) = some (mm_ar 4 5 (fun _ => none)) := fc8.at sa8 (by omega)
  obtain ⟨A9, ea9, sa9, ga9⟩ := nw_at (a := ax + 138) (fc8.1.trans gg8.1) (mm_ai 4 (fun _ => iI 0))
  have gg9 : ga D8 A9 (ax + 138) (ax + 139) := ga9
  obtain ⟨D9, ec9, ob9, fc9⟩ := pr_ex (gg9.at ob8 (by omega)) 14 (ax + 138)
  have y0_9 : TpR A9 (ax + 1) [] := (x0_8.fr (ga_fr gg9) (by omega) :)
  have x0_9 := y0_9.fr fc9 (by omega)
  have y1_9 : St A9 (ax + 3) 0 kT0 := (x1_8.fr (ga_fr gg9) (by omega) :)
  have x1_9 := y1_9.fr fc9 (by omega)
  have y2_9 : St A9 (ax + 65) 0 kT0 := (x2_8.fr (ga_fr gg9) (by omega) :)
  have x2_9 := y2_9.fr fc9 (by omega)
  have x3_9 : D9.2 (ax + 127) = some (mm_ar 2 40 (fun _ => none)) := fc9.at (gg9.at x3_8 (by omega)) (by omega)
  have y4_9 : Sg A9 (ax + 128) [] := (x4_8.fr (ga_fr gg9) (by omega) :)
  have x4_9 := y4_9.fr fc9 (by omega)
  have y5_9 : Sg A9 (ax + 130) [] := (x5_8.fr (ga_fr gg9) (by omega) :)
  have x5_9 := y5_9.fr fc9 (by omega)
  have y6_9 : Sg A9 (ax + 132) [] := (x6_8.fr (ga_fr gg9) (by omega) :)
  have x6_9 := y6_9.fr fc9 (by omega)
  have y7_9 : Sp A9 (ax + 134) (iI 0) (iI 0) (iI 0) [] := (x7_8.fr (ga_fr gg9) (by omega) :)
  have x7_9 := y7_9.fr fc9 (by omega)
  have x8_9 : D9.2 (ax + 137) = some (mm_ar 4 5 (fun _ => none)) := fc9.at (gg9.at x8_8 (by omega)) (by omega)
  have x9_9 : D9.2 (ax + 138) = some (mm_ai 4 (fun _ => iI 0)) := fc9.at sa9 (by omega)
  obtain ⟨A10, ea10, sa10, ga10⟩ := nw_at (a := ax + 139) (fc9.1.trans gg9.1) (mm_ob 6 [.null, .int (iI 0), .int (iI 0), .null, .null, .null])
  obtain ⟨B10, eb10, sb10, gb10⟩ := i6 (n := n) ga10.1 sa10
  have gg10 : ga D9 B10 (ax + 139) (ax + 201) := ga10.trans gb10 (by omega) (by omega)
  obtain ⟨D10, ec10, ob10, fc10⟩ := pr_ex (gg10.at ob9 (by omega)) 1 (ax + 139)
  have y0_10 : TpR B10 (ax + 1) [] := (x0_9.fr (ga_fr gg10) (by omega) :)
  have x0_10 := y0_10.fr fc10 (by omega)
  have y1_10 : St B10 (ax + 3) 0 kT0 := (x1_9.fr (ga_fr gg10) (by omega) :)
  have x1_10 := y1_10.fr fc10 (by omega)
  have y2_10 : St B10 (ax + 65) 0 kT0 := (x2_9.fr (ga_fr gg10) (by omega) :)
  have x2_10 := y2_10.fr fc10 (by omega)
  have x3_10 : D10.2 (ax + 127) = some (mm_ar 2 40 (fun _ => none)) := fc10.at (gg10.at x3_9 (by omega)) (by omega)
  have y4_10 : Sg B10 (ax + 128) [] := (x4_9.fr (ga_fr gg10) (by omega) :)
  have x4_10 := y4_10.fr fc10 (by omega)
  have y5_10 : Sg B10 (ax + 130) [] := (x5_9.fr (ga_fr gg10) (by omega) :)
  have x5_10 := y5_10.fr fc10 (by omega)
  have y6_10 : Sg B10 (ax + 132) [] := (x6_9.fr (ga_fr gg10) (by omega) :)
  have x6_10 := y6_10.fr fc10 (by omega)
  have y7_10 : Sp B10 (ax + 134) (iI 0) (iI 0) (iI 0) [] := (x7_9.fr (ga_fr gg10) (by omega) :)
  have x7_10 := y7_10.fr fc10 (by omega)
  have x8_10 : D10.2 (ax + 137) = some (mm_ar 4 5 (fun _ => none)) := fc10.at (gg10.at x8_9 (by omega)) (by omega)
  have x9_10 : D10.2 (ax + 138) = some (mm_ai 4 (fun _ => iI 0)) := fc10.at (gg10.at x9_9 (by omega)) (by omega)
  have x10_10 := sb10.fr fc10 (by omega)
  obtain ⟨A11, ea11, sa11, ga11⟩ := nw_at (a := ax + 201) (fc10.1.trans gg10.1) (mm_ob 3 [.null, .null, .int (iI 0), .int (iI 0)])
  obtain ⟨B11, eb11, sb11, gb11⟩ := i3 (n := n) ga11.1 sa11 (ax + 139)
  have gg11 : ga D10 B11 (ax + 201) (ax + 203) := ga11.trans gb11 (by omega) (by omega)
  obtain ⟨D11, ec11, ob11, fc11⟩ := pr_ex (gg11.at ob10 (by omega)) 15 (ax + 201)
  have y0_11 : TpR B11 (ax + 1) [] := (x0_10.fr (ga_fr gg11) (by omega) :)
  have x0_11 := y0_11.fr fc11 (by omega)
  have y1_11 : St B11 (ax + 3) 0 kT0 := (x1_10.fr (ga_fr gg11) (by omega) :)
  have x1_11 := y1_11.fr fc11 (by omega)
  have y2_11 : St B11 (ax + 65) 0 kT0 := (x2_10.fr (ga_fr gg11) (by omega) :)
  have x2_11 := y2_11.fr fc11 (by omega)
  have x3_11 : D11.2 (ax + 127) = some (mm_ar 2 40 (fun _ => none)) := fc11.at (gg11.at x3_10 (by omega)) (by omega)
  have y4_11 : Sg B11 (ax + 128) [] := (x4_10.fr (ga_fr gg11) (by omega) :)
  have x4_11 := y4_11.fr fc11 (by omega)
  have y5_11 : Sg B11 (ax + 130) [] := (x5_10.fr (ga_fr gg11) (by omega) :)
  have x5_11 := y5_11.fr fc11 (by omega)
  have y6_11 : Sg B11 (ax + 132) [] := (x6_10.fr (ga_fr gg11) (by omega) :)
  have x6_11 := y6_11.fr fc11 (by omega)
  have y7_11 : Sp B11 (ax + 134) (iI 0) (iI 0) (iI 0) [] := (x7_10.fr (ga_fr gg11) (by omega) :)
  have x7_11 := y7_11.fr fc11 (by omega)
  have x8_11 : D11.2 (ax + 137) = some (mm_ar 4 5 (fun _ => none)) := fc11.at (gg11.at x8_10 (by omega)) (by omega)
  have x9_11 : D11.2 (ax + 138) = some (mm_ai 4 (fun _ => iI 0)) := fc11.at (gg11.at x9_10 (by omega)) (by omega)
  have y10_11 : St B11 (ax + 139) 0 kT0 := (x10_10.fr (ga_fr gg11) (by omega) :)
  have x10_11 := y10_11.fr fc11 (by omega)
  have x11_11 := sb11.fr fc11 (by omega)
  obtain ⟨A12, ea12, sa12, ga12⟩ := nw_at (a := ax + 203) (fc11.1.trans gg11.1) (mm_ob 3 [.null, .null, .int (iI 0), .int (iI 0)])
  obtain ⟨B12, eb12, sb12, gb12⟩ := i3 (n := n) ga12.1 sa12 (ax + 139)
  have gg12 : ga D11 B12 (ax + 203) (ax + 205) := ga12.trans gb12 (by omega) (by omega)
  obtain ⟨D12, ec12, ob12, fc12⟩ := pr_ex (gg12.at ob11 (by omega)) 16 (ax + 203)
  have y0_12 : TpR B12 (ax + 1) [] := (x0_11.fr (ga_fr gg12) (by omega) :)
  have x0_12 := y0_12.fr fc12 (by omega)
  have y1_12 : St B12 (ax + 3) 0 kT0 := (x1_11.fr (ga_fr gg12) (by omega) :)
  have x1_12 := y1_12.fr fc12 (by omega)
  have y2_12 : St B12 (ax + 65) 0 kT0 := (x2_11.fr (ga_fr gg12) (by omega) :)
  have x2_12 := y2_12.fr fc12 (by omega)
  have x3_12 : D12.2 (ax + 127) = some (mm_ar 2 40 (fun _ => none)) := fc12.at (gg12.at x3_11 (by omega)) (by omega)
  have y4_12 : Sg B12 (ax + 128) [] := (x4_11.fr (ga_fr gg12) (by omega) :)
  have x4_12 := y4_12.fr fc12 (by omega)
  have y5_12 : Sg B12 (ax + 130) [] := (x5_11.fr (ga_fr gg12) (by omega) :)
  have x5_12 := y5_12.fr fc12 (by omega)
  have y6_12 : Sg B12 (ax + 132) [] := (x6_11.fr (ga_fr gg12) (by omega) :)
  have x6_12 := y6_12.fr fc12 (by omega)
  have y7_12 : Sp B12 (ax + 134) (iI 0) (iI 0) (iI 0) [] := (x7_11.fr (ga_fr gg12) (by omega) :)
  have x7_12 := y7_12.fr fc12 (by omega)
  have x8_12 : D12.2 (ax + 137) = some (mm_ar 4 5 (fun _ => none)) := fc12.at (gg12.at x8_11 (by omega)) (by omega)
  have x9_12 : D12.2 (ax + 138) = some (mm_ai 4 (fun _ => iI 0)) := fc12.at (gg12.at x9_11 (by omega)) (by omega)
  have y10_12 : St B12 (ax + 139) 0 kT0 := (x10_11.fr (ga_fr gg12) (by omega) :)
  have x10_12 := y10_12.fr fc12 (by omega)
  have y11_12 : Rk B12 (ax + 201) (ax + 139) [] false := (x11_11.fr (ga_fr gg12) (by omega) :)
  have x11_12 := y11_12.fr fc12 (by omega)
  have x12_12 := sb12.fr fc12 (by omega)
  have co : CO D12 ax false 0 0 0 0 := ob12
  obtain ⟨MF, ez, pr, pv, sr, sv, nF, fF⟩ := c_l144 (n := n) (ax := ax) 41 0 D12 _ _ (by omega) (by omega) (by rw [fc12.1, gg12.1]) co x3_12 (fun j hj => by omega) (fun j hj => by omega) x8_12
  have ez : pX9_init_l144 n 41 D12 ax (iI 0) = some MF := ez
  have fr3 : ∀ {X : mm_M → Prop}, (∀ {M1 M2 : mm_M}, X M1 → fr M1 M2 (ax + 127) 1 → X M2) → (∀ {M1 M2 : mm_M}, X M1 → fr M1 M2 (ax + 137) 1 → X M2) → (∀ {M1 M2 : mm_M}, X M1 → fr M1 M2 (ax + 205) 2670 → X M2) → X D12 → X (D12.1, MF.2) := by
    intro X t1 t2 t3 x
    let N1 : mm_M := (D12.1, fun q => if q = ax + 127 then MF.2 q else D12.2 q)
    let N2 : mm_M := (D12.1, fun q => if q = ax + 137 then MF.2 q else N1.2 q)
    have a1 : fr D12 N1 (ax + 127) 1 := ⟨rfl, fun q hq => by show (if q = ax + 127 then MF.2 q else D12.2 q) = _; rw [if_neg (by omega)]⟩
    have a2 : fr N1 N2 (ax + 137) 1 := ⟨rfl, fun q hq => by show (if q = ax + 137 then MF.2 q else N1.2 q) = _; rw [if_neg (by omega)]⟩
    have a3 : fr N2 (D12.1, MF.2) (ax + 205) 2670 := ⟨rfl, fun q hq => by
      show MF.2 q = (if q = ax + 137 then MF.2 q else if q = ax + 127 then MF.2 q else D12.2 q)
      by_cases c1 : q = ax + 137
      · rw [if_pos c1]
      · rw [if_neg c1]
        by_cases c2 : q = ax + 127
        · rw [if_pos c2]
        · rw [if_neg c2]; exact fF q (by omega)⟩
    exact t3 (t2 (t1 x a1) a2) a3
  have z0 : TpR MF (ax + 1) [] := fr3 (X := fun M => TpR M (ax + 1) []) (fun x f => x.fr f (by omega)) (fun x f => x.fr f (by omega)) (fun x f => x.fr f (by omega)) x0_12
  have z1 : St MF (ax + 3) 0 kT0 := fr3 (X := fun M => St M (ax + 3) 0 kT0) (fun x f => x.fr f (by omega)) (fun x f => x.fr f (by omega)) (fun x f => x.fr f (by omega)) x1_12
  have z2 : St MF (ax + 65) 0 kT0 := fr3 (X := fun M => St M (ax + 65) 0 kT0) (fun x f => x.fr f (by omega)) (fun x f => x.fr f (by omega)) (fun x f => x.fr f (by omega)) x2_12
  have z4 : Sg MF (ax + 128) [] := fr3 (X := fun M => Sg M (ax + 128) []) (fun x f => x.fr f (by omega)) (fun x f => x.fr f (by omega)) (fun x f => x.fr f (by omega)) x4_12
  have z5 : Sg MF (ax + 130) [] := fr3 (X := fun M => Sg M (ax + 130) []) (fun x f => x.fr f (by omega)) (fun x f => x.fr f (by omega)) (fun x f => x.fr f (by omega)) x5_12
  have z6 : Sg MF (ax + 132) [] := fr3 (X := fun M => Sg M (ax + 132) []) (fun x f => x.fr f (by omega)) (fun x f => x.fr f (by omega)) (fun x f => x.fr f (by omega)) x6_12
  have z7 : Sp MF (ax + 134) (iI 0) (iI 0) (iI 0) [] := fr3 (X := fun M => Sp M (ax + 134) (iI 0) (iI 0) (iI 0) []) (fun x f => x.fr f (by omega)) (fun x f => x.fr f (by omega)) (fun x f => x.fr f (by omega)) x7_12
  have z10 : St MF (ax + 139) 0 kT0 := fr3 (X := fun M => St M (ax + 139) 0 kT0) (fun x f => x.fr f (by omega)) (fun x f => x.fr f (by omega)) (fun x f => x.fr f (by omega)) x10_12
  have z11 : Rk MF (ax + 201) (ax + 139) [] false := fr3 (X := fun M => Rk M (ax + 201) (ax + 139) [] false) (fun x f => x.fr f (by omega)) (fun x f => x.fr f (by omega)) (fun x f => x.fr f (by omega)) x11_12
  have z12 : Rk MF (ax + 203) (ax + 139) [] false := fr3 (X := fun M => Rk M (ax + 203) (ax + 139) [] false) (fun x f => x.fr f (by omega)) (fun x f => x.fr f (by omega)) (fun x f => x.fr f (by omega)) x12_12
  have zc : CO MF ax false 0 0 0 0 := (fF ax (by omega)).trans co
  refine ⟨MF, ?_, ⟨0, 0, false, false, zc, z0, ⟨_, z1⟩, ⟨_, z2, fun J hJ => (by cases hJ)⟩, pr, z4, z5, ⟨_, z6⟩, ⟨_, _, _, _, z7⟩, sr, ⟨_, (fF _ (by omega)).trans x9_12, fun i hi => rfl⟩, z10, ⟨_, z11, fun q => (by cases q)⟩, ⟨_, z12, fun q => (by cases q)⟩, pv, sv⟩, nF⟩
  simp only [pX9_init, L0, ea0, eb0, ec0, ea1, eb1, ec1, ea2, eb2, ec2, ea3, ec3, ea4, eb4, ec4, ea5, eb5, ec5, ea6, eb6, ec6, ea7, eb7, ec7, ea8, ec8, ea9, ec9, ea10, eb10, ec10, ea11, eb11, ec11, ea12, eb12, ec12, ez, b1_s]
theorem i10 {n : Nat} {M : mm_M} {am : Nat} (h1 : M.1 = am + 1) (h2 : M.2 am = some (mm_ob 10 [.int (iI 0), .null, .int (iI 0), .int (iI 0), .int (iI 0), .null, .null, .int (iI 0), .null, .null, .int (iI 0), .null, .int (iI 0), .null, .null, .null, .int (iI 0), .null, .null, .int (iI 0), .int (iI 0), .null, .int (iI 0), .long 0, .null, .int (iI 0), .int (iI 0), .int (iI 0), .null, .int (iI 0), .null, .null, .int (iI 0)])) : ∃ M', pX10_init n M am = some M' ∧ M' = mk M' am (fun _ _ => 0, 0) ∧ M'.1 = am + 17 ∧ ∀ q, (q < am ∨ am + 17 ≤ q) → M'.2 q = M.2 q := by
  obtain ⟨A0, ea0, sa0, ga0⟩ := nw_at (a := am + 1) h1 (mm_ai 240 (fun _ => iI 0))
  obtain ⟨D0, ec0, ob0, fc0⟩ := pr_ex (ga0.at h2 (by omega)) 1 (am + 1)
  have x0_0 : D0.2 (am + 1) = some (mm_ai 240 (fun _ => iI 0)) := fc0.at sa0 (by omega)
  have w0 : ∀ q, (q < am ∨ am + 2 ≤ q) → D0.2 q = M.2 q := fun q hq => (fc0.2 q (by omega)).trans ((ga0.2 q (by omega)))
  obtain ⟨A1, ea1, sa1, ga1⟩ := nw_at (a := am + 2) (fc0.1.trans ga0.1) (mm_ai 8 (fun _ => iI 0))
  obtain ⟨D1, ec1, ob1, fc1⟩ := pr_ex (ga1.at ob0 (by omega)) 5 (am + 2)
  have x0_1 : D1.2 (am + 1) = some (mm_ai 240 (fun _ => iI 0)) := fc1.at (ga1.at x0_0 (by omega)) (by omega)
  have x1_1 : D1.2 (am + 2) = some (mm_ai 8 (fun _ => iI 0)) := fc1.at sa1 (by omega)
  have w1 : ∀ q, (q < am ∨ am + 3 ≤ q) → D1.2 q = M.2 q := fun q hq => (fc1.2 q (by omega)).trans ((ga1.2 q (by omega)).trans (w0 q (by omega)))
  obtain ⟨A2, ea2, sa2, ga2⟩ := nw_at (a := am + 3) (fc1.1.trans ga1.1) (mm_ai 160 (fun _ => iI 0))
  obtain ⟨D2, ec2, ob2, fc2⟩ := pr_ex (ga2.at ob1 (by omega)) 6 (am + 3)
  have x0_2 : D2.2 (am + 1) = some (mm_ai 240 (fun _ => iI 0)) := fc2.at (ga2.at x0_1 (by omega)) (by omega)
  have x1_2 : D2.2 (am + 2) = some (mm_ai 8 (fun _ => iI 0)) := fc2.at (ga2.at x1_1 (by omega)) (by omega)
  have x2_2 : D2.2 (am + 3) = some (mm_ai 160 (fun _ => iI 0)) := fc2.at sa2 (by omega)
  have w2 : ∀ q, (q < am ∨ am + 4 ≤ q) → D2.2 q = M.2 q := fun q hq => (fc2.2 q (by omega)).trans ((ga2.2 q (by omega)).trans (w1 q (by omega)))
  obtain ⟨A3, ea3, sa3, ga3⟩ := nw_at (a := am + 4) (fc2.1.trans ga2.1) (mm_ai 1440 (fun _ => iI 0))
  obtain ⟨D3, ec3, ob3, fc3⟩ := pr_ex (ga3.at ob2 (by omega)) 8 (am + 4)
  have x0_3 : D3.2 (am + 1) = some (mm_ai 240 (fun _ => iI 0)) := fc3.at (ga3.at x0_2 (by omega)) (by omega)
  have x1_3 : D3.2 (am + 2) = some (mm_ai 8 (fun _ => iI 0)) := fc3.at (ga3.at x1_2 (by omega)) (by omega)
  have x2_3 : D3.2 (am + 3) = some (mm_ai 160 (fun _ => iI 0)) := fc3.at (ga3.at x2_2 (by omega)) (by omega)
  have x3_3 : D3.2 (am + 4) = some (mm_ai 1440 (fun _ => iI 0)) := fc3.at sa3 (by omega)
  have w3 : ∀ q, (q < am ∨ am + 5 ≤ q) → D3.2 q = M.2 q := fun q hq => (fc3.2 q (by omega)).trans ((ga3.2 q (by omega)).trans (w2 q (by omega)))
  obtain ⟨A4, ea4, sa4, ga4⟩ := nw_at (a := am + 5) (fc3.1.trans ga3.1) (mm_ai 5 (fun _ => iI 0))
  obtain ⟨D4, ec4, ob4, fc4⟩ := pr_ex (ga4.at ob3 (by omega)) 9 (am + 5)
  have x0_4 : D4.2 (am + 1) = some (mm_ai 240 (fun _ => iI 0)) := fc4.at (ga4.at x0_3 (by omega)) (by omega)
  have x1_4 : D4.2 (am + 2) = some (mm_ai 8 (fun _ => iI 0)) := fc4.at (ga4.at x1_3 (by omega)) (by omega)
  have x2_4 : D4.2 (am + 3) = some (mm_ai 160 (fun _ => iI 0)) := fc4.at (ga4.at x2_3 (by omega)) (by omega)
  have x3_4 : D4.2 (am + 4) = some (mm_ai 1440 (fun _ => iI 0)) := fc4.at (ga4.at x3_3 (by omega)) (by omega)
  have x4_4 : D4.2 (am + 5) = some (mm_ai 5 (fun _ => iI 0)) := fc4.at sa4 (by omega)
  have w4 : ∀ q, (q < am ∨ am + 6 ≤ q) → D4.2 q = M.2 q := fun q hq => (fc4.2 q (by omega)).trans ((ga4.2 q (by omega)).trans (w3 q (by omega)))
  obtain ⟨A5, ea5, sa5, ga5⟩ := nw_at (a := am + 6) (fc4.1.trans ga4.1) (mm_ai 20 (fun _ => iI 0))
  obtain ⟨D5, ec5, ob5, fc5⟩ := pr_ex (ga5.at ob4 (by omega)) 11 (am + 6)
  have x0_5 : D5.2 (am + 1) = some (mm_ai 240 (fun _ => iI 0)) := fc5.at (ga5.at x0_4 (by omega)) (by omega)
  have x1_5 : D5.2 (am + 2) = some (mm_ai 8 (fun _ => iI 0)) := fc5.at (ga5.at x1_4 (by omega)) (by omega)
  have x2_5 : D5.2 (am + 3) = some (mm_ai 160 (fun _ => iI 0)) := fc5.at (ga5.at x2_4 (by omega)) (by omega)
  have x3_5 : D5.2 (am + 4) = some (mm_ai 1440 (fun _ => iI 0)) := fc5.at (ga5.at x3_4 (by omega)) (by omega)
  have x4_5 : D5.2 (am + 5) = some (mm_ai 5 (fun _ => iI 0)) := fc5.at (ga5.at x4_4 (by omega)) (by omega)
  have x5_5 : D5.2 (am + 6) = some (mm_ai 20 (fun _ => iI 0)) := fc5.at sa5 (by omega)
  have w5 : ∀ q, (q < am ∨ am + 7 ≤ q) → D5.2 q = M.2 q := fun q hq => (fc5.2 q (by omega)).trans ((ga5.2 q (by omega)).trans (w4 q (by omega)))
  obtain ⟨A6, ea6, sa6, ga6⟩ := nw_at (a := am + 7) (fc5.1.trans ga5.1) (mm_ai 622 (fun _ => iI 0))
  obtain ⟨D6, ec6, ob6, fc6⟩ := pr_ex (ga6.at ob5 (by omega)) 13 (am + 7)
  have x0_6 : D6.2 (am + 1) = some (mm_ai 240 (fun _ => iI 0)) := fc6.at (ga6.at x0_5 (by omega)) (by omega)
  have x1_6 : D6.2 (am + 2) = some (mm_ai 8 (fun _ => iI 0)) := fc6.at (ga6.at x1_5 (by omega)) (by omega)
  have x2_6 : D6.2 (am + 3) = some (mm_ai 160 (fun _ => iI 0)) := fc6.at (ga6.at x2_5 (by omega)) (by omega)
  have x3_6 : D6.2 (am + 4) = some (mm_ai 1440 (fun _ => iI 0)) := fc6.at (ga6.at x3_5 (by omega)) (by omega)
  have x4_6 : D6.2 (am + 5) = some (mm_ai 5 (fun _ => iI 0)) := fc6.at (ga6.at x4_5 (by omega)) (by omega)
  have x5_6 : D6.2 (am + 6) = some (mm_ai 20 (fun _ => iI 0)) := fc6.at (ga6.at x5_5 (by omega)) (by omega)
  have x6_6 : D6.2 (am + 7) = some (mm_ai 622 (fun _ => iI 0)) := fc6.at sa6 (by omega)
  have w6 : ∀ q, (q < am ∨ am + 8 ≤ q) → D6.2 q = M.2 q := fun q hq => (fc6.2 q (by omega)).trans ((ga6.2 q (by omega)).trans (w5 q (by omega)))
  obtain ⟨A7, ea7, sa7, ga7⟩ := nw_at (a := am + 8) (fc6.1.trans ga6.1) (mm_ai 4 (fun _ => iI 0))
  obtain ⟨D7, ec7, ob7, fc7⟩ := pr_ex (ga7.at ob6 (by omega)) 14 (am + 8)
  have x0_7 : D7.2 (am + 1) = some (mm_ai 240 (fun _ => iI 0)) := fc7.at (ga7.at x0_6 (by omega)) (by omega)
  have x1_7 : D7.2 (am + 2) = some (mm_ai 8 (fun _ => iI 0)) := fc7.at (ga7.at x1_6 (by omega)) (by omega)
  have x2_7 : D7.2 (am + 3) = some (mm_ai 160 (fun _ => iI 0)) := fc7.at (ga7.at x2_6 (by omega)) (by omega)
  have x3_7 : D7.2 (am + 4) = some (mm_ai 1440 (fun _ => iI 0)) := fc7.at (ga7.at x3_6 (by omega)) (by omega)
  have x4_7 : D7.2 (am + 5) = some (mm_ai 5 (fun _ => iI 0)) := fc7.at (ga7.at x4_6 (by omega)) (by omega)
  have x5_7 : D7.2 (am + 6) = some (mm_ai 20 (fun _ => iI 0)) := fc7.at (ga7.at x5_6 (by omega)) (by omega)
  have x6_7 : D7.2 (am + 7) = some (mm_ai 622 (fun _ => iI 0)) := fc7.at (ga7.at x6_6 (by omega)) (by omega)
  have x7_7 : D7.2 (am + 8) = some (mm_ai 4 (fun _ => iI 0)) := fc7.at sa7 (by omega)
  have w7 : ∀ q, (q < am ∨ am + 9 ≤ q) → D7.2 q = M.2 q := fun q hq => (fc7.2 q (by omega)).trans ((ga7.2 q (by omega)).trans (w6 q (by omega)))
  obtain ⟨A8, ea8, sa8, ga8⟩ := nw_at (a := am + 9) (fc7.1.trans ga7.1) (mm_ai 6 (fun _ => iI 0))
  obtain ⟨D8, ec8, ob8, fc8⟩ := pr_ex (ga8.at ob7 (by omega)) 15 (am + 9)
  have x0_8 : D8.2 (am + 1) = some (mm_ai 240 (fun _ => iI 0)) := fc8.at (ga8.at x0_7 (by omega)) (by omega)
  have x1_8 : D8.2 (am + 2) = some (mm_ai 8 (fun _ => iI 0)) := fc8.at (ga8.at x1_7 (by omega)) (by omega)
  have x2_8 : D8.2 (am + 3) = some (mm_ai 160 (fun _ => iI 0)) := fc8.at (ga8.at x2_7 (by omega)) (by omega)
  have x3_8 : D8.2 (am + 4) = some (mm_ai 1440 (fun _ => iI 0)) := fc8.at (ga8.at x3_7 (by omega)) (by omega)
  have x4_8 : D8.2 (am + 5) = some (mm_ai 5 (fun _ => iI 0)) := fc8.at (ga8.at x4_7 (by omega)) (by omega)
  have x5_8 : D8.2 (am + 6) = some (mm_ai 20 (fun _ => iI 0)) := fc8.at (ga8.at x5_7 (by omega)) (by omega)
  have x6_8 : D8.2 (am + 7) = some (mm_ai 622 (fun _ => iI 0)) := fc8.at (ga8.at x6_7 (by omega)) (by omega)
  have x7_8 : D8.2 (am + 8) = some (mm_ai 4 (fun _ => iI 0)) := fc8.at (ga8.at x7_7 (by omega)) (by omega)
  have x8_8 : D8.2 (am + 9) = some (mm_ai 6 (fun _ => iI 0)) := fc8.at sa8 (by omega)
  have w8 : ∀ q, (q < am ∨ am + 10 ≤ q) → D8.2 q = M.2 q := fun q hq => (fc8.2 q (by omega)).trans ((ga8.2 q (by omega)).trans (w7 q (by omega)))
  obtain ⟨A9, ea9, sa9, ga9⟩ := nw_at (a := am + 10) (fc8.1.trans ga8.1) (mm_ai 200 (fun _ => iI 0))
  obtain ⟨D9, ec9, ob9, fc9⟩ := pr_ex (ga9.at ob8 (by omega)) 17 (am + 10)
  have x0_9 : D9.2 (am + 1) = some (mm_ai 240 (fun _ => iI 0)) := fc9.at (ga9.at x0_8 (by omega)) (by omega)
  have x1_9 : D9.2 (am + 2) = some (mm_ai 8 (fun _ => iI 0)) := fc9.at (ga9.at x1_8 (by omega)) (by omega)
  have x2_9 : D9.2 (am + 3) = some (mm_ai 160 (fun _ => iI 0)) := fc9.at (ga9.at x2_8 (by omega)) (by omega)
  have x3_9 : D9.2 (am + 4) = some (mm_ai 1440 (fun _ => iI 0)) := fc9.at (ga9.at x3_8 (by omega)) (by omega)
  have x4_9 : D9.2 (am + 5) = some (mm_ai 5 (fun _ => iI 0)) := fc9.at (ga9.at x4_8 (by omega)) (by omega)
  have x5_9 : D9.2 (am + 6) = some (mm_ai 20 (fun _ => iI 0)) := fc9.at (ga9.at x5_8 (by omega)) (by omega)
  have x6_9 : D9.2 (am + 7) = some (mm_ai 622 (fun _ => iI 0)) := fc9.at (ga9.at x6_8 (by omega)) (by omega)
  have x7_9 : D9.2 (am + 8) = some (mm_ai 4 (fun _ => iI 0)) := fc9.at (ga9.at x7_8 (by omega)) (by omega)
  have x8_9 : D9.2 (am + 9) = some (mm_ai 6 (fun _ => iI 0)) := fc9.at (ga9.at x8_8 (by omega)) (by omega)
  have x9_9 : D9.2 (am + 10) = some (mm_ai 200 (fun _ => iI 0)) := fc9.at sa9 (by omega)
  have w9 : ∀ q, (q < am ∨ am + 11 ≤ q) → D9.2 q = M.2 q := fun q hq => (fc9.2 q (by omega)).trans ((ga9.2 q (by omega)).trans (w8 q (by omega)))
  obtain ⟨A10, ea10, sa10, ga10⟩ := nw_at (a := am + 11) (fc9.1.trans ga9.1) (mm_ai 200 (fun _ => iI 0))
  obtain ⟨D10, ec10, ob10, fc10⟩ := pr_ex (ga10.at ob9 (by omega)) 18 (am + 11)
  have x0_10 : D10.2 (am + 1) = some (mm_ai 240 (fun _ => iI 0)) := fc10.at (ga10.at x0_9 (by omega)) (by omega)
  have x1_10 : D10.2 (am + 2) = some (mm_ai 8 (fun _ => iI 0)) := fc10.at (ga10.at x1_9 (by omega)) (by omega)
  have x2_10 : D10.2 (am + 3) = some (mm_ai 160 (fun _ => iI 0)) := fc10.at (ga10.at x2_9 (by omega)) (by omega)
  have x3_10 : D10.2 (am + 4) = some (mm_ai 1440 (fun _ => iI 0)) := fc10.at (ga10.at x3_9 (by omega)) (by omega)
  have x4_10 : D10.2 (am + 5) = some (mm_ai 5 (fun _ => iI 0)) := fc10.at (ga10.at x4_9 (by omega)) (by omega)
  have x5_10 : D10.2 (am + 6) = some (mm_ai 20 (fun _ => iI 0)) := fc10.at (ga10.at x5_9 (by omega)) (by omega)
  have x6_10 : D10.2 (am + 7) = some (mm_ai 622 (fun _ => iI 0)) := fc10.at (ga10.at x6_9 (by omega)) (by omega)
  have x7_10 : D10.2 (am + 8) = some (mm_ai 4 (fun _ => iI 0)) := fc10.at (ga10.at x7_9 (by omega)) (by omega)
  have x8_10 : D10.2 (am + 9) = some (mm_ai 6 (fun _ => iI 0)) := fc10.at (ga10.at x8_9 (by omega)) (by omega)
  have x9_10 : D10.2 (am + 10) = some (mm_ai 200 (fun _ => iI 0)) := fc10.at (ga10.at x9_9 (by omega)) (by omega)
  have x10_10 : D10.2 (am + 11) = some (mm_ai 200 (fun _ => iI 0)) := fc10.at sa10 (by omega)
  have w10 : ∀ q, (q < am ∨ am + 12 ≤ q) → D10.2 q = M.2 q := fun q hq => (fc10.2 q (by omega)).trans ((ga10.2 q (by omega)).trans (w9 q (by omega)))
  obtain ⟨A11, ea11, sa11, ga11⟩ := nw_at (a := am + 12) (fc10.1.trans ga10.1) (mm_ai 24880 (fun _ => iI 0))
  obtain ⟨D11, ec11, ob11, fc11⟩ := pr_ex (ga11.at ob10 (by omega)) 21 (am + 12)
  have x0_11 : D11.2 (am + 1) = some (mm_ai 240 (fun _ => iI 0)) := fc11.at (ga11.at x0_10 (by omega)) (by omega)
  have x1_11 : D11.2 (am + 2) = some (mm_ai 8 (fun _ => iI 0)) := fc11.at (ga11.at x1_10 (by omega)) (by omega)
  have x2_11 : D11.2 (am + 3) = some (mm_ai 160 (fun _ => iI 0)) := fc11.at (ga11.at x2_10 (by omega)) (by omega)
  have x3_11 : D11.2 (am + 4) = some (mm_ai 1440 (fun _ => iI 0)) := fc11.at (ga11.at x3_10 (by omega)) (by omega)
  have x4_11 : D11.2 (am + 5) = some (mm_ai 5 (fun _ => iI 0)) := fc11.at (ga11.at x4_10 (by omega)) (by omega)
  have x5_11 : D11.2 (am + 6) = some (mm_ai 20 (fun _ => iI 0)) := fc11.at (ga11.at x5_10 (by omega)) (by omega)
  have x6_11 : D11.2 (am + 7) = some (mm_ai 622 (fun _ => iI 0)) := fc11.at (ga11.at x6_10 (by omega)) (by omega)
  have x7_11 : D11.2 (am + 8) = some (mm_ai 4 (fun _ => iI 0)) := fc11.at (ga11.at x7_10 (by omega)) (by omega)
  have x8_11 : D11.2 (am + 9) = some (mm_ai 6 (fun _ => iI 0)) := fc11.at (ga11.at x8_10 (by omega)) (by omega)
  have x9_11 : D11.2 (am + 10) = some (mm_ai 200 (fun _ => iI 0)) := fc11.at (ga11.at x9_10 (by omega)) (by omega)
  have x10_11 : D11.2 (am + 11) = some (mm_ai 200 (fun _ => iI 0)) := fc11.at (ga11.at x10_10 (by omega)) (by omega)
  have x11_11 : D11.2 (am + 12) = some (mm_ai 24880 (fun _ => iI 0)) := fc11.at sa11 (by omega)
  have w11 : ∀ q, (q < am ∨ am + 13 ≤ q) → D11.2 q = M.2 q := fun q hq => (fc11.2 q (by omega)).trans ((ga11.2 q (by omega)).trans (w10 q (by omega)))
  obtain ⟨A12, ea12, sa12, ga12⟩ := nw_at (a := am + 13) (fc11.1.trans ga11.1) (mm_ai 20 (fun _ => iI 0))
  obtain ⟨D12, ec12, ob12, fc12⟩ := pr_ex (ga12.at ob11 (by omega)) 24 (am + 13)
  have x0_12 : D12.2 (am + 1) = some (mm_ai 240 (fun _ => iI 0)) := fc12.at (ga12.at x0_11 (by omega)) (by omega)
  have x1_12 : D12.2 (am + 2) = some (mm_ai 8 (fun _ => iI 0)) := fc12.at (ga12.at x1_11 (by omega)) (by omega)
  have x2_12 : D12.2 (am + 3) = some (mm_ai 160 (fun _ => iI 0)) := fc12.at (ga12.at x2_11 (by omega)) (by omega)
  have x3_12 : D12.2 (am + 4) = some (mm_ai 1440 (fun _ => iI 0)) := fc12.at (ga12.at x3_11 (by omega)) (by omega)
  have x4_12 : D12.2 (am + 5) = some (mm_ai 5 (fun _ => iI 0)) := fc12.at (ga12.at x4_11 (by omega)) (by omega)
  have x5_12 : D12.2 (am + 6) = some (mm_ai 20 (fun _ => iI 0)) := fc12.at (ga12.at x5_11 (by omega)) (by omega)
  have x6_12 : D12.2 (am + 7) = some (mm_ai 622 (fun _ => iI 0)) := fc12.at (ga12.at x6_11 (by omega)) (by omega)
  have x7_12 : D12.2 (am + 8) = some (mm_ai 4 (fun _ => iI 0)) := fc12.at (ga12.at x7_11 (by omega)) (by omega)
  have x8_12 : D12.2 (am + 9) = some (mm_ai 6 (fun _ => iI 0)) := fc12.at (ga12.at x8_11 (by omega)) (by omega)
  have x9_12 : D12.2 (am + 10) = some (mm_ai 200 (fun _ => iI 0)) := fc12.at (ga12.at x9_11 (by omega)) (by omega)
  have x10_12 : D12.2 (am + 11) = some (mm_ai 200 (fun _ => iI 0)) := fc12.at (ga12.at x10_11 (by omega)) (by omega)
  have x11_12 : D12.2 (am + 12) = some (mm_ai 24880 (fun _ => iI 0)) := fc12.at (ga12.at x11_11 (by omega)) (by omega)
  have x12_12 : D12.2 (am + 13) = some (mm_ai 20 (fun _ => iI 0)) := fc12.at sa12 (by omega)
  have w12 : ∀ q, (q < am ∨ am + 14 ≤ q) → D12.2 q = M.2 q := fun q hq => (fc12.2 q (by omega)).trans ((ga12.2 q (by omega)).trans (w11 q (by omega)))
  obtain ⟨A13, ea13, sa13, ga13⟩ := nw_at (a := am + 14) (fc12.1.trans ga12.1) (mm_ai 18 (fun _ => iI 0))
  obtain ⟨D13, ec13, ob13, fc13⟩ := pr_ex (ga13.at ob12 (by omega)) 28 (am + 14)
  have x0_13 : D13.2 (am + 1) = some (mm_ai 240 (fun _ => iI 0)) := fc13.at (ga13.at x0_12 (by omega)) (by omega)
  have x1_13 : D13.2 (am + 2) = some (mm_ai 8 (fun _ => iI 0)) := fc13.at (ga13.at x1_12 (by omega)) (by omega)
  have x2_13 : D13.2 (am + 3) = some (mm_ai 160 (fun _ => iI 0)) := fc13.at (ga13.at x2_12 (by omega)) (by omega)
  have x3_13 : D13.2 (am + 4) = some (mm_ai 1440 (fun _ => iI 0)) := fc13.at (ga13.at x3_12 (by omega)) (by omega)
  have x4_13 : D13.2 (am + 5) = some (mm_ai 5 (fun _ => iI 0)) := fc13.at (ga13.at x4_12 (by omega)) (by omega)
  have x5_13 : D13.2 (am + 6) = some (mm_ai 20 (fun _ => iI 0)) := fc13.at (ga13.at x5_12 (by omega)) (by omega)
  have x6_13 : D13.2 (am + 7) = some (mm_ai 622 (fun _ => iI 0)) := fc13.at (ga13.at x6_12 (by omega)) (by omega)
  have x7_13 : D13.2 (am + 8) = some (mm_ai 4 (fun _ => iI 0)) := fc13.at (ga13.at x7_12 (by omega)) (by omega)
  have x8_13 : D13.2 (am + 9) = some (mm_ai 6 (fun _ => iI 0)) := fc13.at (ga13.at x8_12 (by omega)) (by omega)
  have x9_13 : D13.2 (am + 10) = some (mm_ai 200 (fun _ => iI 0)) := fc13.at (ga13.at x9_12 (by omega)) (by omega)
  have x10_13 : D13.2 (am + 11) = some (mm_ai 200 (fun _ => iI 0)) := fc13.at (ga13.at x10_12 (by omega)) (by omega)
  have x11_13 : D13.2 (am + 12) = some (mm_ai 24880 (fun _ => iI 0)) := fc13.at (ga13.at x11_12 (by omega)) (by omega)
  have x12_13 : D13.2 (am + 13) = some (mm_ai 20 (fun _ => iI 0)) := fc13.at (ga13.at x12_12 (by omega)) (by omega)
  have x13_13 : D13.2 (am + 14) = some (mm_ai 18 (fun _ => iI 0)) := fc13.at sa13 (by omega)
  have w13 : ∀ q, (q < am ∨ am + 15 ≤ q) → D13.2 q = M.2 q := fun q hq => (fc13.2 q (by omega)).trans ((ga13.2 q (by omega)).trans (w12 q (by omega)))
  obtain ⟨A14, ea14, sa14, ga14⟩ := nw_at (a := am + 15) (fc13.1.trans ga13.1) (mm_ai 441 (fun _ => iI 0))
  obtain ⟨D14, ec14, ob14, fc14⟩ := pr_ex (ga14.at ob13 (by omega)) 30 (am + 15)
  have x0_14 : D14.2 (am + 1) = some (mm_ai 240 (fun _ => iI 0)) := fc14.at (ga14.at x0_13 (by omega)) (by omega)
  have x1_14 : D14.2 (am + 2) = some (mm_ai 8 (fun _ => iI 0)) := fc14.at (ga14.at x1_13 (by omega)) (by omega)
  have x2_14 : D14.2 (am + 3) = some (mm_ai 160 (fun _ => iI 0)) := fc14.at (ga14.at x2_13 (by omega)) (by omega)
  have x3_14 : D14.2 (am + 4) = some (mm_ai 1440 (fun _ => iI 0)) := fc14.at (ga14.at x3_13 (by omega)) (by omega)
  have x4_14 : D14.2 (am + 5) = some (mm_ai 5 (fun _ => iI 0)) := fc14.at (ga14.at x4_13 (by omega)) (by omega)
  have x5_14 : D14.2 (am + 6) = some (mm_ai 20 (fun _ => iI 0)) := fc14.at (ga14.at x5_13 (by omega)) (by omega)
  have x6_14 : D14.2 (am + 7) = some (mm_ai 622 (fun _ => iI 0)) := fc14.at (ga14.at x6_13 (by omega)) (by omega)
  have x7_14 : D14.2 (am + 8) = some (mm_ai 4 (fun _ => iI 0)) := fc14.at (ga14.at x7_13 (by omega)) (by omega)
  have x8_14 : D14.2 (am + 9) = some (mm_ai 6 (fun _ => iI 0)) := fc14.at (ga14.at x8_13 (by omega)) (by omega)
  have x9_14 : D14.2 (am + 10) = some (mm_ai 200 (fun _ => iI 0)) := fc14.at (ga14.at x9_13 (by omega)) (by omega)
  have x10_14 : D14.2 (am + 11) = some (mm_ai 200 (fun _ => iI 0)) := fc14.at (ga14.at x10_13 (by omega)) (by omega)
  have x11_14 : D14.2 (am + 12) = some (mm_ai 24880 (fun _ => iI 0)) := fc14.at (ga14.at x11_13 (by omega)) (by omega)
  have x12_14 : D14.2 (am + 13) = some (mm_ai 20 (fun _ => iI 0)) := fc14.at (ga14.at x12_13 (by omega)) (by omega)
  have x13_14 : D14.2 (am + 14) = some (mm_ai 18 (fun _ => iI 0)) := fc14.at (ga14.at x13_13 (by omega)) (by omega)
  have x14_14 : D14.2 (am + 15) = some (mm_ai 441 (fun _ => iI 0)) := fc14.at sa14 (by omega)
  have w14 : ∀ q, (q < am ∨ am + 16 ≤ q) → D14.2 q = M.2 q := fun q hq => (fc14.2 q (by omega)).trans ((ga14.2 q (by omega)).trans (w13 q (by omega)))
  obtain ⟨A15, ea15, sa15, ga15⟩ := nw_at (a := am + 16) (fc14.1.trans ga14.1) (mm_ai 622 (fun _ => iI 0))
  obtain ⟨D15, ec15, ob15, fc15⟩ := pr_ex (ga15.at ob14 (by omega)) 31 (am + 16)
  have x0_15 : D15.2 (am + 1) = some (mm_ai 240 (fun _ => iI 0)) := fc15.at (ga15.at x0_14 (by omega)) (by omega)
  have x1_15 : D15.2 (am + 2) = some (mm_ai 8 (fun _ => iI 0)) := fc15.at (ga15.at x1_14 (by omega)) (by omega)
  have x2_15 : D15.2 (am + 3) = some (mm_ai 160 (fun _ => iI 0)) := fc15.at (ga15.at x2_14 (by omega)) (by omega)
  have x3_15 : D15.2 (am + 4) = some (mm_ai 1440 (fun _ => iI 0)) := fc15.at (ga15.at x3_14 (by omega)) (by omega)
  have x4_15 : D15.2 (am + 5) = some (mm_ai 5 (fun _ => iI 0)) := fc15.at (ga15.at x4_14 (by omega)) (by omega)
  have x5_15 : D15.2 (am + 6) = some (mm_ai 20 (fun _ => iI 0)) := fc15.at (ga15.at x5_14 (by omega)) (by omega)
  have x6_15 : D15.2 (am + 7) = some (mm_ai 622 (fun _ => iI 0)) := fc15.at (ga15.at x6_14 (by omega)) (by omega)
  have x7_15 : D15.2 (am + 8) = some (mm_ai 4 (fun _ => iI 0)) := fc15.at (ga15.at x7_14 (by omega)) (by omega)
  have x8_15 : D15.2 (am + 9) = some (mm_ai 6 (fun _ => iI 0)) := fc15.at (ga15.at x8_14 (by omega)) (by omega)
  have x9_15 : D15.2 (am + 10) = some (mm_ai 200 (fun _ => iI 0)) := fc15.at (ga15.at x9_14 (by omega)) (by omega)
  have x10_15 : D15.2 (am + 11) = some (mm_ai 200 (fun _ => iI 0)) := fc15.at (ga15.at x10_14 (by omega)) (by omega)
  have x11_15 : D15.2 (am + 12) = some (mm_ai 24880 (fun _ => iI 0)) := fc15.at (ga15.at x11_14 (by omega)) (by omega)
  have x12_15 : D15.2 (am + 13) = some (mm_ai 20 (fun _ => iI 0)) := fc15.at (ga15.at x12_14 (by omega)) (by omega)
  have x13_15 : D15.2 (am + 14) = some (mm_ai 18 (fun _ => iI 0)) := fc15.at (ga15.at x13_14 (by omega)) (by omega)
  have x14_15 : D15.2 (am + 15) = some (mm_ai 441 (fun _ => iI 0)) := fc15.at (ga15.at x14_14 (by omega)) (by omega)
  have x15_15 : D15.2 (am + 16) = some (mm_ai 622 (fun _ => iI 0)) := fc15.at sa15 (by omega)
  have w15 : ∀ q, (q < am ∨ am + 17 ≤ q) → D15.2 q = M.2 q := fun q hq => (fc15.2 q (by omega)).trans ((ga15.2 q (by omega)).trans (w14 q (by omega)))
  refine ⟨D15, ?_, ?_, fc15.1.trans ga15.1, w15⟩
  · simp only [pX10_init, L0, ea0, ec0, ea1, ec1, ea2, ec2, ea3, ec3, ea4, ec4, ea5, ec5, ea6, ec6, ea7, ec7, ea8, ec8, ea9, ec9, ea10, ec10, ea11, ec11, ea12, ec12, ea13, ec13, ea14, ec14, ea15, ec15, b1_s]
  · have key : ∀ q, D15.2 q = if am ≤ q ∧ q < am + 17 then some (mcell am (fun _ _ => 0, 0) (q - am)) else D15.2 q := by
      intro q
      by_cases c : am ≤ q ∧ q < am + 17
      · rw [if_pos c]
        obtain ⟨j, rfl⟩ : ∃ j, q = am + j := ⟨q - am, by omega⟩
        rw [Nat.add_sub_cancel_left]
        have hj : j < 17 := by omega
        rcases (show j = 0 ∨ j = 1 ∨ j = 2 ∨ j = 3 ∨ j = 4 ∨ j = 5 ∨ j = 6 ∨ j = 7 ∨ j = 8 ∨ j = 9 ∨ j = 10 ∨ j = 11 ∨ j = 12 ∨ j = 13 ∨ j = 14 ∨ j = 15 ∨ j = 16 by omega) with rfl | rfl | rfl | rfl | rfl | rfl | rfl | rfl | rfl | rfl | rfl | rfl | rfl | rfl | rfl | rfl | rfl
        · exact ob15
        · exact x0_15
        · exact x1_15
        · exact x2_15
        · exact x3_15
        · exact x4_15
        · exact x5_15
        · exact x6_15
        · exact x7_15
        · exact x8_15
        · exact x9_15
        · exact x10_15
        · exact x11_15
        · exact x12_15
        · exact x13_15
        · exact x14_15
        · exact x15_15
      · rw [if_neg c]
    exact Prod.ext rfl (funext key)
