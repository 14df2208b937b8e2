/-! the class: stores and scripts read off the tape -/
def fr2 (M M' : mm_M) (a j b k : Nat) : Prop := M'.1 = M.1 ∧ ∀ q, (q < a ∨ a + j ≤ q) → (q < b ∨ b + k ≤ q) → M'.2 q = M.2 q
theorem fr2.trans {M M1 M2 : mm_M} {a j b k : Nat} (h : fr2 M M1 a j b k) (g : fr2 M1 M2 a j b k) : fr2 M M2 a j b k := ⟨g.1.trans h.1, fun q a b => (g.2 q a b).trans (h.2 q a b)⟩
theorem fr.l2 {M M' : mm_M} {a j b k c l : Nat} (h : fr M M' c l) (h1 : a ≤ c) (h2 : c + l ≤ a + j) : fr2 M M' a j b k := ⟨h.1, fun q x _ => h.2 q (by omega)⟩
theorem fr.r2 {M M' : mm_M} {a j b k c l : Nat} (h : fr M M' c l) (h1 : b ≤ c) (h2 : c + l ≤ b + k) : fr2 M M' a j b k := ⟨h.1, fun q _ x => h.2 q (by omega)⟩
theorem opF_last (F : Nat → Nat) (c : Nat) : opF F c c = F := by
  funext i
  unfold opF
  by_cases h : i < c
  · rw [if_pos h]
  · rw [if_neg h]
    by_cases g : i = c
    · rw [if_pos g, g]
    · rw [if_neg g, if_neg (by omega)]
theorem lns_put {F : Nat → Nat} {D : Nat → kL} {c : Nat} (hi : ∀ i j, i < 10 → j < 10 → F i = F j → i = j) (hc : c < 10) (l : kL) : lns F (fun j => if j = F c then l else D j) (c + 1) = lns F D c ++ [l] := by
  rw [lns_succ]
  congr 1
  · unfold lns
    refine List.map_congr_left (fun i hh => ?_)
    have hh := List.mem_range.mp hh
    show (if F i = F c then l else D (F i)) = D (F i)
    rw [if_neg (fun z => by have := hi i c (by omega) hc z; omega)]
  · simp
def nmF : Nat → List (List Int) → List kL
  | _, [] => []
  | c, x :: l => ((c : Int), x) :: nmF (c + 1) l
theorem nmF_map (c : Nat) (l : List (List Int)) : nmF c l = (List.range l.length).map (fun i : Nat => (((c + i : Nat) : Int), l.getD i [])) := by
  induction l generalizing c with
  | nil => rfl
  | cons x l ih =>
    rw [nmF, ih (c + 1), List.length_cons, List.range_succ_eq_map, List.map_cons, List.map_map]
    congr 1
    refine List.map_congr_left (fun i _ => ?_)
    show (((c + 1 + i : Nat) : Int), l.getD i []) = (((c + (i + 1) : Nat) : Int), _)
    rw [show c + 1 + i = c + (i + 1) by omega]
    rfl
theorem nmF_num (l : List (List Int)) : nmF 0 l = numL l := by
  rw [nmF_map]
  unfold numL
  refine List.map_congr_left (fun i _ => ?_)
  rw [Nat.zero_add]
theorem nmF_len (c : Nat) (l : List (List Int)) : (nmF c l).length = l.length := by rw [nmF_map]; simp
theorem c_stl {n : Nat} (hn : 300 ≤ n) {a t : Nat} {tp : List Int} (hd : a + 2 ≤ t ∨ t + 62 ≤ a) {F : Nat → Nat} {C : Nat → kU} {B : Int} : ∀ (k r cc i : Nat) (M : mm_M) (D : Nat → kL), Sv M t F D cc cc C B [] → Tp M a tp i → cc + r = 8 → 1 ≤ r → r < k → ∃ M' D' c', pX8_storeFault_l11 n k M a t (iI cc) = some (iI (stF tp r i).1, M') ∧ TpR M' a tp ∧ Sv M' t F D' c' c' C B [] ∧ ((stF tp r i).1 = -1 → lns F D' c' = lns F D cc ++ nmF cc (stF tp r i).2) ∧ fr2 M M' a 2 t 62 := by
  intro k
  induction k with
  | zero => intro r cc i M D _ _ _ _ h; omega
  | succ k ih =>
    intro r cc i M D h ht hr h1 hk
    obtain ⟨r, rfl⟩ : ∃ r', r = r' + 1 := ⟨r - 1, by omega⟩
    show ∃ M' D' c', pX8_storeFault_l11b n (pX8_storeFault_l11 n k) M a t (iI cc) = _ ∧ _
    obtain ⟨hO, hL, hC, hJ, fs, hS⟩ := h
    obtain ⟨M1, e1, o1, l1, q1, q2, q3, f1⟩ := st_open (n := n) (by omega) hO hL (k := cc) (by omega) (by omega) ⟨by omega, by omega⟩
    rw [opF_last] at l1
    have fc := hL.2.1 cc (by omega)
    have t1 := ht.fr f1 (by omega)
    have x1 := l1.2.2.2 (F cc) fc
    obtain ⟨M2, e2, t2, g2, k1, k2⟩ := tp_read hn (s := t + 8 + 3 * F cc + 1) (by omega) t1 x1.2.2 (most := 20) (by omega)
    have e2 : pX8_readSigns n M1 a (t + 8 + 3 * F cc + 1) (iI 20) = _ := e2
    have pb := pk_bd ht.2.1 (rds tp 20 i).2
    -- the state after the read
    have s2 : Sv M2 t F (fun j => if j = F cc then ((cc : Int), (rds tp 20 i).1) else D j) (cc + 1) ((cc : Int) + 1) C B [] := by
      obtain ⟨⟨f, w1, w2⟩, w3, w4, w5⟩ := l1
      refine ⟨⟨o1.1, o1.2.1, (k2 t (by omega) (by omega)).trans o1.2.2⟩, ⟨⟨f, (k2 _ (by omega) (by omega)).trans w1, w2⟩, w3, w4, fun j hj => ?_⟩, ?_, ?_, fs, (k2 _ (by omega) (by omega)).trans (q3.trans hS)⟩
      · have w := w5 j hj
        by_cases e : j = F cc
        · subst e
          simp only [↓reduceIte] at w ⊢
          exact ⟨w.1, (k2 _ (by omega) (by omega)).trans w.2.1, g2⟩
        · simp only [if_neg e] at w ⊢
          obtain ⟨z1, z2, z3, z4, z5, u, z6, z7⟩ := w
          exact ⟨z1, (k2 _ (by omega) (by omega)).trans z2, z3, z4, (k2 _ (by omega) (by omega)).trans z5, u, (k2 _ (by omega) (by omega)).trans z6, z7⟩
      · obtain ⟨⟨f, v1, v2⟩, v3⟩ := q1 _ hC
        refine ⟨⟨f, (k2 _ (by omega) (by omega)).trans v1, v2⟩, fun j hj => ?_⟩
        obtain ⟨h1, h2, h3, h4, h5, ⟨h61, h62, h63, u6, h64, h65⟩, ⟨h71, h72, h73, h74, h75, u7, h76, h77⟩, ⟨f, h8, h9⟩, g, h10, h11⟩ := v3 j hj
        exact ⟨h1, h2, h3, h4, (k2 _ (by omega) (by omega)).trans h5, ⟨h61, h62, (k2 _ (by omega) (by omega)).trans h63, u6, (k2 _ (by omega) (by omega)).trans h64, h65⟩, ⟨h71, (k2 _ (by omega) (by omega)).trans h72, h73, h74, (k2 _ (by omega) (by omega)).trans h75, u7, (k2 _ (by omega) (by omega)).trans h76, h77⟩, ⟨f, (k2 _ (by omega) (by omega)).trans h8, h9⟩, g, (k2 _ (by omega) (by omega)).trans h10, h11⟩
      · obtain ⟨w, f, g, h, j1, j2, j3, j4, j5, j6, j7, j8, j9⟩ := q2 _ _ hJ
        exact ⟨w, f, g, h, j1, j2, j3, j4, (k2 _ (by omega) (by omega)).trans j5, (k2 _ (by omega) (by omega)).trans j6, (k2 _ (by omega) (by omega)).trans j7, (k2 _ (by omega) (by omega)).trans j8, j9⟩
    have ll := lns_put (D := D) hL.2.2.1 (show cc < 10 by omega) ((cc : Int), (rds tp 20 i).1)
    have gr : mm_gr 2 0 M1 (t + 8 + 3 * F cc) = some (t + 8 + 3 * F cc + 1) := gr_at x1.2.1 0 rfl
    have ff : fr2 M M2 a 2 t 62 := (f1.r2 (by omega) (by omega)).trans ⟨k1, fun q h1 h2 => k2 q h1 (by omega)⟩
    have n8 : ¬ (8 : Int) ≤ cc := by omega
    generalize hD2 : (fun j => if j = F cc then ((cc : Int), (rds tp 20 i).1) else D j) = D2 at s2 ll
    have s2 : Sv M2 t F D2 (cc + 1) ((cc + 1 : Nat) : Int) C B [] := s2
    simp only [stF]
    by_cases c : (rds tp 20 i).1 = []
    · rw [if_pos c]
      rw [decide_eq_false (by simp; exact c)] at e2
      refine ⟨M2, D2, cc + 1, ?_, t2.r, s2, fun z => by simp at z, ff⟩
      simp (disch := (first | assumption | (refine sm_of ?_ ?_ <;> omega) | fail)) only [iI_add, iI_sub, iI_mul, iI_neg, iI_lt, iI_le, iI_eq, b1_s, b2_s, ↓reduceIte, L0, L1, L2, L3, L4, L5, L6, L7, L8, L9, L10, L12, L20, L22, L24, L26, L27, L28, L32, L40, L60, L73, L95, L97, L222, L240, L441, L442, L622, Lm1, Lmh, L11, L13, L14, L15, L16, L17, L18, L19, L21, L23, L25, L30, L31, L33, L36, L39, L41, L44, L48, L53, L54, L55, L57, L58, L59, L91, L93, L98, L99, L100, L105, L106, L112, L114, L115, L119, L122, L160, L180, L200, L255, L1440, L24880, L63, Lm2, pX8_storeFault_l11b, n8, e1, gr, e2, bI_0, gi_at t2.2.2.2.1 2 rfl]
    · rw [if_neg c]
      rw [decide_eq_true c] at e2
      obtain ⟨M3, e3, t3, f3⟩ := tp_peek hn t2
      have s3 := s2.fr f3 (by omega)
      have ff3 := ff.trans (f3.l2 (a := a) (j := 2) (b := t) (k := 62) (by omega) (by omega))
      by_cases d : pk tp (rds tp 20 i).2 = -1
      · rw [if_pos d]
        refine ⟨M3, D2, cc + 1, ?_, t3.r, s3, fun z => by rw [ll]; rfl, ff3⟩
        simp (disch := (first | assumption | (refine sm_of ?_ ?_ <;> omega) | fail)) only [iI_add, iI_sub, iI_mul, iI_neg, iI_lt, iI_le, iI_eq, b1_s, b2_s, ↓reduceIte, L0, L1, L2, L3, L4, L5, L6, L7, L8, L9, L10, L12, L20, L22, L24, L26, L27, L28, L32, L40, L60, L73, L95, L97, L222, L240, L441, L442, L622, Lm1, Lmh, L11, L13, L14, L15, L16, L17, L18, L19, L21, L23, L25, L30, L31, L33, L36, L39, L41, L44, L48, L53, L54, L55, L57, L58, L59, L91, L93, L98, L99, L100, L105, L106, L112, L114, L115, L119, L122, L160, L180, L200, L255, L1440, L24880, L63, Lm2, pX8_storeFault_l11b, n8, e1, gr, e2, bI_0, Bool.true_eq_false, e3, d]
      · rw [if_neg d]
        by_cases u : r = 0
        · rw [if_pos (Or.inl u)]
          refine ⟨M3, D2, cc + 1, ?_, t3.r, s3, fun z => by simp at z, ff3⟩
          simp (disch := (first | assumption | (refine sm_of ?_ ?_ <;> omega) | fail)) only [iI_add, iI_sub, iI_mul, iI_neg, iI_lt, iI_le, iI_eq, b1_s, b2_s, ↓reduceIte, L0, L1, L2, L3, L4, L5, L6, L7, L8, L9, L10, L12, L20, L22, L24, L26, L27, L28, L32, L40, L60, L73, L95, L97, L222, L240, L441, L442, L622, Lm1, Lmh, L11, L13, L14, L15, L16, L17, L18, L19, L21, L23, L25, L30, L31, L33, L36, L39, L41, L44, L48, L53, L54, L55, L57, L58, L59, L91, L93, L98, L99, L100, L105, L106, L112, L114, L115, L119, L122, L160, L180, L200, L255, L1440, L24880, L63, Lm2, pX8_storeFault_l11b, n8, e1, gr, e2, bI_0, Bool.true_eq_false, e3, d, show ((cc : Int) + 1 = 8) = True from eq_true (by omega), gi_at t3.2.2.2.1 2 rfl]
        · obtain ⟨M4, e4, t4, f4⟩ := tp_skip hn t3 (c := 59) (by omega)
          rw [pk_skp] at e4 t4
          rw [skp_skp] at t4
          have s4 := s3.fr f4 (by omega)
          have ff4 := ff3.trans (f4.l2 (a := a) (j := 2) (b := t) (k := 62) (by omega) (by omega))
          by_cases v : pk tp (rds tp 20 i).2 = 59
          · rw [if_neg (by omega)]
            rw [if_pos v] at t4
            rw [decide_eq_true v] at e4
            obtain ⟨M5, D5, c5, e5, t5, s5, l5, f5⟩ := ih r (cc + 1) _ M4 D2 s4 t4 (by omega) (by omega) (by omega)
            refine ⟨M5, D5, c5, ?_, t5, s5, fun z => ?_, ff4.trans f5⟩
            · simp (disch := (first | assumption | (refine sm_of ?_ ?_ <;> omega) | fail)) only [iI_add, iI_sub, iI_mul, iI_neg, iI_lt, iI_le, iI_eq, b1_s, b2_s, ↓reduceIte, L0, L1, L2, L3, L4, L5, L6, L7, L8, L9, L10, L12, L20, L22, L24, L26, L27, L28, L32, L40, L60, L73, L95, L97, L222, L240, L441, L442, L622, Lm1, Lmh, L11, L13, L14, L15, L16, L17, L18, L19, L21, L23, L25, L30, L31, L33, L36, L39, L41, L44, L48, L53, L54, L55, L57, L58, L59, L91, L93, L98, L99, L100, L105, L106, L112, L114, L115, L119, L122, L160, L180, L200, L255, L1440, L24880, L63, Lm2, pX8_storeFault_l11b, n8, e1, gr, e2, bI_0, Bool.true_eq_false, e3, d, show ¬ ((cc : Int) + 1 = 8) by omega, e4]
              exact e5
            · rw [l5 z, ll]
              simp [nmF]
          · rw [if_pos (Or.inr v)]
            rw [if_neg v] at t4
            rw [decide_eq_false v] at e4
            refine ⟨M4, D2, cc + 1, ?_, t4.r, s4, fun z => by simp at z, ff4⟩
            simp (disch := (first | assumption | (refine sm_of ?_ ?_ <;> omega) | fail)) only [iI_add, iI_sub, iI_mul, iI_neg, iI_lt, iI_le, iI_eq, b1_s, b2_s, ↓reduceIte, L0, L1, L2, L3, L4, L5, L6, L7, L8, L9, L10, L12, L20, L22, L24, L26, L27, L28, L32, L40, L60, L73, L95, L97, L222, L240, L441, L442, L622, Lm1, Lmh, L11, L13, L14, L15, L16, L17, L18, L19, L21, L23, L25, L30, L31, L33, L36, L39, L41, L44, L48, L53, L54, L55, L57, L58, L59, L91, L93, L98, L99, L100, L105, L106, L112, L114, L115, L119, L122, L160, L180, L200, L255, L1440, L24880, L63, Lm2, pX8_storeFault_l11b, n8, e1, gr, e2, bI_0, Bool.true_eq_false, e3, d, show ¬ ((cc : Int) + 1 = 8) by omega, e4, gi_at t4.2.2.2.1 2 rfl]
theorem c_store {n : Nat} (hn : 300 ≤ n) {M : mm_M} {a t : Nat} {tp : List Int} (hd : a + 2 ≤ t ∨ t + 62 ≤ a) (h : TpR M a tp) {B : Int} (hB : 0 ≤ B) {T : kT} (hS : St M t B T) : ∃ M' T', pX8_storeFault n M a t = some (iI (stF tp 8 0).1, M') ∧ TpR M' a tp ∧ St M' t B T' ∧ ((stF tp 8 0).1 = -1 → T' = (numL (stF tp 8 0).2, ((stF tp 8 0).2.length : Int), (fun i => noU (T.2.2.1 i)), [])) ∧ fr2 M M' a 2 t 62 := by
  obtain ⟨F, D, cc, C, s, e1, e2, e3, e4, e5⟩ := hS
  obtain ⟨M1, w1, t1, f1⟩ := tr_at h
  obtain ⟨M2, C2, w2, s2, c2, f2⟩ := st_empty (n := n) (by omega) (s.fr f1 (by omega)) hB
  obtain ⟨M3, D3, c3, w3, t3, s3, l3, f3⟩ := c_stl hn hd n 8 0 0 M2 D s2 (t1.fr f2 (by omega)) (by omega) (by omega) (by omega)
  have w3 : pX8_storeFault_l11 n n M2 a t (iI 0) = _ := w3
  have cl := lns_len F D3 c3
  have c10 := s3.1.1
  refine ⟨M3, (lns F D3 c3, (c3 : Int), (fun i => noU (T.2.2.1 i)), []), ?_, t3, ⟨F, D3, c3, C2, s3, rfl, fun i hi => ?_, e3, by show (c3 : Int) ≤ B + 10; omega, fun i hi => ⟨by show (0 : Int) ≤ 10 * B; omega, by show (0 : Int) ≤ 9; omega⟩⟩, fun z => ?_, ((f1.l2 (by omega) (by omega)).trans (f2.r2 (by omega) (by omega))).trans f3⟩
  · simp (disch := (first | assumption | (refine sm_of ?_ ?_ <;> omega) | fail)) only [iI_add, iI_sub, iI_mul, iI_neg, iI_lt, iI_le, iI_eq, b1_s, b2_s, ↓reduceIte, L0, L1, L2, L3, L4, L5, L6, L7, L8, L9, L10, L12, L20, L22, L24, L26, L27, L28, L32, L40, L60, L73, L95, L97, L222, L240, L441, L442, L622, Lm1, Lmh, L11, L13, L14, L15, L16, L17, L18, L19, L21, L23, L25, L30, L31, L33, L36, L39, L41, L44, L48, L53, L54, L55, L57, L58, L59, L91, L93, L98, L99, L100, L105, L106, L112, L114, L115, L119, L122, L160, L180, L200, L255, L1440, L24880, L63, Lm2, pX8_storeFault, tr_v h, w1, w2, w3]
  · rw [c2 i hi, e2 i hi]
  · have := l3 z
    rw [show lns F D 0 = [] from rfl, List.nil_append, nmF_num] at this
    rw [this, numL_len] at cl
    rw [this, cl]
/-- a script, whatever it holds -/
def ScA (M : mm_M) (s : Nat) : Prop := (∃ v, M.2 s = some (mm_ob 4 [.ref (s + 1), .int v])) ∧ (∃ f, M.2 (s + 1) = some (mm_ar 3 12 f) ∧ ∀ i, i < 12 → f i = some (s + 2 + 3 * i)) ∧ ∀ i, i < 12 → ∃ so x y xs, Sp M (s + 2 + 3 * i) so x y xs
def SpZ (M : mm_M) (s : Nat) (z : kS) : Prop := Sp M s (iI z.1) (iI z.2.1) (iI z.2.2.1) z.2.2.2
def Sc (M : mm_M) (s : Nat) (zs : List kS) : Prop := ScA M s ∧ zs.length ≤ 12 ∧ M.2 s = some (mm_ob 4 [.ref (s + 1), .int (iI zs.length)]) ∧ ∀ i, i < zs.length → SpZ M (s + 2 + 3 * i) (zs.getD i kS0)
theorem ScA.fr {M M' : mm_M} {s b k : Nat} (h : ScA M s) (hf : fr M M' b k) (hd : s + 38 ≤ b ∨ b + k ≤ s) : ScA M' s := by
  obtain ⟨⟨v, h1⟩, ⟨f, h2, h3⟩, h4⟩ := h
  refine ⟨⟨v, hf.at h1 (by omega)⟩, ⟨f, hf.at h2 (by omega), h3⟩, fun i hi => ?_⟩
  obtain ⟨so, x, y, xs, g⟩ := h4 i hi
  exact ⟨so, x, y, xs, g.fr hf (by omega)⟩
theorem Sc.fr {M M' : mm_M} {s b k : Nat} {zs : List kS} (h : Sc M s zs) (hf : fr M M' b k) (hd : s + 38 ≤ b ∨ b + k ≤ s) : Sc M' s zs :=
  ⟨h.1.fr hf hd, h.2.1, hf.at h.2.2.1 (by omega), fun i hi => (h.2.2.2 i hi).fr hf (by have := h.2.1; omega)⟩
theorem Sp.f2 {M M' : mm_M} {a s : Nat} {so x y : Int32} {xs : List Int} {c : Nat} (h : Sp M c so x y xs) (f : frS M M' a s) (h1 : c + 3 ≤ a ∨ a + 2 ≤ c) (h2 : c + 3 ≤ s ∨ s + 3 ≤ c) : Sp M' c so x y xs := by
  obtain ⟨h3, z3, z4, z5, k, z6, z7⟩ := h
  exact ⟨(f.2 _ (by omega) (by omega)).trans h3, z3, z4, (f.2 _ (by omega) (by omega)).trans z5, k, (f.2 _ (by omega) (by omega)).trans z6, z7⟩
theorem c_scl {n : Nat} (hn : 300 ≤ n) {a s : Nat} {tp : List Int} (hd : a + 2 ≤ s ∨ s + 38 ≤ a) : ∀ (k r cc i : Nat) (M : mm_M), ScA M s → Tp M a tp i → cc + r = 12 → 1 ≤ r → r < k → ∃ M', pX8_scriptFault_l7 n k M a s (iI cc) = some (iI (scF tp r i).1, M') ∧ TpR M' a tp ∧ ScA M' s ∧ ((scF tp r i).1 = -1 → M'.2 s = some (mm_ob 4 [.ref (s + 1), .int (iI ((cc + (scF tp r i).2.length : Nat) : Int))]) ∧ ∀ j, j < (scF tp r i).2.length → SpZ M' (s + 2 + 3 * (cc + j)) ((scF tp r i).2.getD j kS0)) ∧ (∀ j, j < cc → ∀ z, SpZ M (s + 2 + 3 * j) z → SpZ M' (s + 2 + 3 * j) z) ∧ (scF tp r i).2.length ≤ r ∧ fr2 M M' a 2 s 38 := by
  intro k
  induction k with
  | zero => intro r cc i M _ _ _ _ h; omega
  | succ k ih =>
    intro r cc i M h ht hr h1 hk
    obtain ⟨r, rfl⟩ : ∃ r', r = r' + 1 := ⟨r - 1, by omega⟩
    show ∃ M', pX8_scriptFault_l7b n (pX8_scriptFault_l7 n k) M a s (iI cc) = _ ∧ _
    obtain ⟨⟨v, q1⟩, ⟨f, q2, q3⟩, q4⟩ := h
    obtain ⟨so, x, y, xs, sp⟩ := q4 cc (by omega)
    obtain ⟨M2, e2, t2, ⟨so', x', y', xs', sp2⟩, ok2, f2⟩ := c_step hn (s := s + 2 + 3 * cc) (by omega) ht sp
    have pb := pk_bd ht.2.1 (stepF tp i).2.1
    have gr : mm_gr 4 0 M s = some (s + 1) := gr_at q1 0 rfl
    have ra : mm_ra M (s + 1) (iI cc) = some (s + 2 + 3 * cc) := by rw [ra_at q2 (by omega) (by omega) (by omega) (sm_of (by omega) (by omega)), Int.toNat_natCast, q3 cc (by omega)]
    have a2 : ScA M2 s := by
      refine ⟨⟨v, (f2.2 _ (by omega) (by omega)).trans q1⟩, ⟨f, (f2.2 _ (by omega) (by omega)).trans q2, q3⟩, fun j hj => ?_⟩
      by_cases e : j = cc
      · subst e; exact ⟨_, _, _, _, sp2⟩
      · obtain ⟨so, x, y, xs, g⟩ := q4 j hj
        exact ⟨so, x, y, xs, g.f2 f2 (by omega) (by omega)⟩
    have kp2 : ∀ j, j < cc → ∀ z, SpZ M (s + 2 + 3 * j) z → SpZ M2 (s + 2 + 3 * j) z := fun j hj z g => Sp.f2 g f2 (by omega) (by omega)
    have ff : fr2 M M2 a 2 s 38 := ⟨f2.1, fun q h1 h2 => f2.2 q h1 (by omega)⟩
    have n12 : ¬ (12 : Int) ≤ cc := by omega
    simp only [scF]
    by_cases c : (stepF tp i).1 = false
    · rw [if_pos c]
      rw [c] at e2
      refine ⟨M2, ?_, t2.r, a2, fun z => by simp at z, kp2, by simp, ff⟩
      simp (disch := (first | assumption | (refine sm_of ?_ ?_ <;> omega) | fail)) only [iI_add, iI_sub, iI_mul, iI_neg, iI_lt, iI_le, iI_eq, b1_s, b2_s, ↓reduceIte, L0, L1, L2, L3, L4, L5, L6, L7, L8, L9, L10, L12, L20, L22, L24, L26, L27, L28, L32, L40, L60, L73, L95, L97, L222, L240, L441, L442, L622, Lm1, Lmh, L11, L13, L14, L15, L16, L17, L18, L19, L21, L23, L25, L30, L31, L33, L36, L39, L41, L44, L48, L53, L54, L55, L57, L58, L59, L91, L93, L98, L99, L100, L105, L106, L112, L114, L115, L119, L122, L160, L180, L200, L255, L1440, L24880, L63, Lm2, pX8_scriptFault_l7b, n12, gr, ra, e2, bI_0, gi_at t2.2.2.2.1 2 rfl]
    · rw [if_neg c]
      have c := eq_true_of_ne_false c
      rw [c] at e2
      have ok2 := ok2 c
      obtain ⟨M3, e3, t3, f3⟩ := tp_peek hn t2
      have a3 := a2.fr f3 (by omega)
      have ff3 := ff.trans (f3.l2 (a := a) (j := 2) (b := s) (k := 38) (by omega) (by omega))
      have kp3 : ∀ j, j < cc → ∀ z, SpZ M (s + 2 + 3 * j) z → SpZ M3 (s + 2 + 3 * j) z := fun j hj z g => Sp.fr (kp2 j hj z g) f3 (by omega)
      have sp3 : SpZ M3 (s + 2 + 3 * cc) (stepF tp i).2.2 := Sp.fr ok2 f3 (by omega)
      by_cases d : pk tp (stepF tp i).2.1 = -1
      · rw [if_pos d]
        obtain ⟨⟨v3, q13⟩, q23, q33⟩ := a3
        obtain ⟨M4, e4, s4, f4⟩ := pi_ex q13 1 (iI ((cc : Int) + 1))
        refine ⟨M4, ?_, t3.r.fr f4 (by omega), ?_, fun _ => ⟨s4, fun j hj => ?_⟩, fun j hj z g => Sp.fr (kp3 j hj z g) f4 (by omega), by simp, ff3.trans (f4.r2 (by omega) (by omega))⟩
        · simp (disch := (first | assumption | (refine sm_of ?_ ?_ <;> omega) | fail)) only [iI_add, iI_sub, iI_mul, iI_neg, iI_lt, iI_le, iI_eq, b1_s, b2_s, ↓reduceIte, L0, L1, L2, L3, L4, L5, L6, L7, L8, L9, L10, L12, L20, L22, L24, L26, L27, L28, L32, L40, L60, L73, L95, L97, L222, L240, L441, L442, L622, Lm1, Lmh, L11, L13, L14, L15, L16, L17, L18, L19, L21, L23, L25, L30, L31, L33, L36, L39, L41, L44, L48, L53, L54, L55, L57, L58, L59, L91, L93, L98, L99, L100, L105, L106, L112, L114, L115, L119, L122, L160, L180, L200, L255, L1440, L24880, L63, Lm2, pX8_scriptFault_l7b, n12, gr, ra, e2, bI_0, Bool.true_eq_false, e3, d, pX8_scriptFault_b39, e4]
        · obtain ⟨f, q23, q23'⟩ := q23
          refine ⟨⟨_, s4⟩, ⟨f, f4.at q23 (by omega), q23'⟩, fun j hj => ?_⟩
          obtain ⟨so, x, y, xs, g⟩ := q33 j hj
          exact ⟨so, x, y, xs, g.fr f4 (by omega)⟩
        · obtain rfl : j = 0 := by simp at hj; omega
          exact Sp.fr sp3 f4 (by omega)
      · rw [if_neg d]
        by_cases u : r = 0
        · rw [if_pos (Or.inl u)]
          refine ⟨M3, ?_, t3.r, a3, fun z => by simp at z, kp3, by simp, ff3⟩
          simp (disch := (first | assumption | (refine sm_of ?_ ?_ <;> omega) | fail)) only [iI_add, iI_sub, iI_mul, iI_neg, iI_lt, iI_le, iI_eq, b1_s, b2_s, ↓reduceIte, L0, L1, L2, L3, L4, L5, L6, L7, L8, L9, L10, L12, L20, L22, L24, L26, L27, L28, L32, L40, L60, L73, L95, L97, L222, L240, L441, L442, L622, Lm1, Lmh, L11, L13, L14, L15, L16, L17, L18, L19, L21, L23, L25, L30, L31, L33, L36, L39, L41, L44, L48, L53, L54, L55, L57, L58, L59, L91, L93, L98, L99, L100, L105, L106, L112, L114, L115, L119, L122, L160, L180, L200, L255, L1440, L24880, L63, Lm2, pX8_scriptFault_l7b, n12, gr, ra, e2, bI_0, Bool.true_eq_false, e3, d, show ((cc : Int) + 1 = 12) = True from eq_true (by omega), gi_at t3.2.2.2.1 2 rfl]
        · obtain ⟨M4, e4, t4, f4⟩ := tp_skip hn t3 (c := 59) (by omega)
          rw [pk_skp] at e4 t4
          rw [skp_skp] at t4
          have a4 := a3.fr f4 (by omega)
          have ff4 := ff3.trans (f4.l2 (a := a) (j := 2) (b := s) (k := 38) (by omega) (by omega))
          have kp4 : ∀ j, j < cc → ∀ z, SpZ M (s + 2 + 3 * j) z → SpZ M4 (s + 2 + 3 * j) z := fun j hj z g => Sp.fr (kp3 j hj z g) f4 (by omega)
          have sp4 : SpZ M4 (s + 2 + 3 * cc) (stepF tp i).2.2 := Sp.fr sp3 f4 (by omega)
          by_cases v : pk tp (stepF tp i).2.1 = 59
          · rw [if_neg (by omega)]
            rw [if_pos v] at t4
            rw [decide_eq_true v] at e4
            obtain ⟨M5, e5, t5, a5, o5, kp5, l5, f5⟩ := ih r (cc + 1) _ M4 a4 t4 (by omega) (by omega) (by omega)
            refine ⟨M5, ?_, t5, a5, fun z => ⟨?_, fun j hj => ?_⟩, fun j hj z g => kp5 j (by omega) z (kp4 j hj z g), by simp; omega, ff4.trans f5⟩
            · simp (disch := (first | assumption | (refine sm_of ?_ ?_ <;> omega) | fail)) only [iI_add, iI_sub, iI_mul, iI_neg, iI_lt, iI_le, iI_eq, b1_s, b2_s, ↓reduceIte, L0, L1, L2, L3, L4, L5, L6, L7, L8, L9, L10, L12, L20, L22, L24, L26, L27, L28, L32, L40, L60, L73, L95, L97, L222, L240, L441, L442, L622, Lm1, Lmh, L11, L13, L14, L15, L16, L17, L18, L19, L21, L23, L25, L30, L31, L33, L36, L39, L41, L44, L48, L53, L54, L55, L57, L58, L59, L91, L93, L98, L99, L100, L105, L106, L112, L114, L115, L119, L122, L160, L180, L200, L255, L1440, L24880, L63, Lm2, pX8_scriptFault_l7b, n12, gr, ra, e2, bI_0, Bool.true_eq_false, e3, d, show ¬ ((cc : Int) + 1 = 12) by omega, e4]
              exact e5
            · rw [(o5 z).1, List.length_cons, show cc + 1 + (scF tp r (skp tp (stepF tp i).2.1 + 1)).2.length = cc + ((scF tp r (skp tp (stepF tp i).2.1 + 1)).2.length + 1) by omega]
            · cases j with
              | zero => exact kp5 cc (by omega) _ sp4
              | succ j =>
                have := (o5 z).2 j (by simp at hj; omega)
                rw [show cc + 1 + j = cc + (j + 1) by omega] at this
                exact this
          · rw [if_pos (Or.inr v)]
            rw [if_neg v] at t4
            rw [decide_eq_false v] at e4
            refine ⟨M4, ?_, t4.r, a4, fun z => by simp at z, kp4, by simp, ff4⟩
            simp (disch := (first | assumption | (refine sm_of ?_ ?_ <;> omega) | fail)) only [iI_add, iI_sub, iI_mul, iI_neg, iI_lt, iI_le, iI_eq, b1_s, b2_s, ↓reduceIte, L0, L1, L2, L3, L4, L5, L6, L7, L8, L9, L10, L12, L20, L22, L24, L26, L27, L28, L32, L40, L60, L73, L95, L97, L222, L240, L441, L442, L622, Lm1, Lmh, L11, L13, L14, L15, L16, L17, L18, L19, L21, L23, L25, L30, L31, L33, L36, L39, L41, L44, L48, L53, L54, L55, L57, L58, L59, L91, L93, L98, L99, L100, L105, L106, L112, L114, L115, L119, L122, L160, L180, L200, L255, L1440, L24880, L63, Lm2, pX8_scriptFault_l7b, n12, gr, ra, e2, bI_0, Bool.true_eq_false, e3, d, show ¬ ((cc : Int) + 1 = 12) by omega, e4, gi_at t4.2.2.2.1 2 rfl]
theorem c_script {n : Nat} (hn : 300 ≤ n) {M : mm_M} {a s : Nat} {tp : List Int} (hd : a + 2 ≤ s ∨ s + 38 ≤ a) (h : TpR M a tp) (hS : ScA M s) : ∃ M', pX8_scriptFault n M a s = some (iI (scF tp 12 0).1, M') ∧ TpR M' a tp ∧ ScA M' s ∧ ((scF tp 12 0).1 = -1 → Sc M' s (scF tp 12 0).2) ∧ fr2 M M' a 2 s 38 := by
  obtain ⟨M1, w1, t1, f1⟩ := tr_at h
  obtain ⟨M3, w3, t3, a3, o3, -, l3, f3⟩ := c_scl hn hd n 12 0 0 M1 (hS.fr f1 (by omega)) t1 (by omega) (by omega) (by omega)
  have w3 : pX8_scriptFault_l7 n n M1 a s (iI 0) = _ := w3
  refine ⟨M3, ?_, t3, a3, fun z => ⟨a3, l3, ?_, fun j hj => ?_⟩, (f1.l2 (by omega) (by omega)).trans f3⟩
  · simp (disch := (first | assumption | (refine sm_of ?_ ?_ <;> omega) | fail)) only [iI_add, iI_sub, iI_mul, iI_neg, iI_lt, iI_le, iI_eq, b1_s, b2_s, ↓reduceIte, L0, L1, L2, L3, L4, L5, L6, L7, L8, L9, L10, L12, L20, L22, L24, L26, L27, L28, L32, L40, L60, L73, L95, L97, L222, L240, L441, L442, L622, Lm1, Lmh, L11, L13, L14, L15, L16, L17, L18, L19, L21, L23, L25, L30, L31, L33, L36, L39, L41, L44, L48, L53, L54, L55, L57, L58, L59, L91, L93, L98, L99, L100, L105, L106, L112, L114, L115, L119, L122, L160, L180, L200, L255, L1440, L24880, L63, Lm2, pX8_scriptFault, tr_v h, w1, w3]
  · have := (o3 z).1
    rw [Nat.zero_add] at this
    exact this
  · have := (o3 z).2 j hj
    rw [Nat.zero_add] at this
    exact this
