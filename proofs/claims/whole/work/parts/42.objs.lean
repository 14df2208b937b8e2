theorem pi_ex {M : mm_M} {a ci : Nat} {fs : List Value} (h : M.2 a = some (mm_ob ci fs)) (k : Nat) (v : Int32) (hk : k < fs.length := by simp) : ∃ M1, mm_pi ci k M a v = some M1 ∧ M1.2 a = some (mm_ob ci (fs.set k (.int v))) ∧ fr M M1 a 1 := ⟨_, pi_at h k hk v, set_eq _ _ _, fr.set (by omega)⟩
theorem pl_ex {M : mm_M} {a ci : Nat} {fs : List Value} (h : M.2 a = some (mm_ob ci fs)) (k : Nat) (v : Int64) (hk : k < fs.length := by simp) : ∃ M1, mm_pl ci k M a v = some M1 ∧ M1.2 a = some (mm_ob ci (fs.set k (.long v))) ∧ fr M M1 a 1 := ⟨_, pl_at h k hk v, set_eq _ _ _, fr.set (by omega)⟩
theorem pz_ex {M : mm_M} {a ci : Nat} {fs : List Value} (h : M.2 a = some (mm_ob ci fs)) (k : Nat) (b : Bool) (hk : k < fs.length := by simp) : ∃ M1, mm_pz ci k M a (bI b) = some M1 ∧ M1.2 a = some (mm_ob ci (fs.set k (.int (bI b)))) ∧ fr M M1 a 1 := ⟨_, pz_at h k hk (by cases b <;> decide), set_eq _ _ _, fr.set (by omega)⟩
theorem is_ex {M : mm_M} {a n : Nat} {f : Nat → Int32} (h : M.2 a = some (mm_ai n f)) {i : Int} (h0 : 0 ≤ i) (h1 : i < n) (hs : sm i) (v : Int32) : ∃ M1, mm_is M a (iI i) v = some M1 ∧ M1.2 a = some (mm_ai n (upd f i.toNat v)) ∧ fr M M1 a 1 := ⟨_, is_at h h0 h1 hs v, set_eq _ _ _, fr.set (by omega)⟩
theorem cp_ex {M : mm_M} {a0 a n0 n1 : Nat} {f g : Nat → Int32} (h : M.2 a0 = some (mm_ai n0 f)) (h' : M.2 a = some (mm_ai n1 g)) {sp dp n : Int} (h0 : 0 ≤ sp) (h1 : 0 ≤ dp) (h2 : 0 ≤ n) (h3 : sp + n ≤ n0) (h4 : dp + n ≤ n1) (s1 : sm sp) (s2 : sm dp) (s3 : sm n) : ∃ M1, mm_cp M a0 (iI sp) a (iI dp) (iI n) = some M1 ∧ M1.2 a = some (mm_ai n1 (va_cpy f g sp.toNat dp.toNat n.toNat)) ∧ fr M M1 a 1 := ⟨_, cp_at h h' h0 h1 h2 h3 h4 s1 s2 s3, set_eq _ _ _, fr.set (by omega)⟩
theorem rs_ex {M : mm_M} {a t n v : Nat} {f : Nat → Option Nat} {fs : List Value} (h : M.2 a = some (mm_ar t n f)) (ht : t < 5) (hv : M.2 v = some (mm_ob (mm_elc t) fs)) {i : Int} (h0 : 0 ≤ i) (h1 : i < n) (hs : sm i) : ∃ M1, mm_rs M a (iI i) v = some M1 ∧ M1.2 a = some (mm_ar t n (va_up f i.toNat (some v))) ∧ fr M M1 a 1 := ⟨_, rs_at h ht hv h0 h1 hs, set_eq _ _ _, fr.set (by omega)⟩
/-- a cell that stays -/
theorem fr.at {M M' : mm_M} {b k q : Nat} {e : Option mm_E} (h : fr M M' b k) (hq : M.2 q = e) (hd : q < b ∨ b + k ≤ q) : M'.2 q = e := (h.2 q hd).trans hq
def nb (z : Int) : Prop := 0 ≤ z ∧ z ≤ 100000000
def Ln (M : mm_M) (a : Nat) (num : Int) (xs : List Int) : Prop := nb num ∧ M.2 a = some (mm_ob 2 [.ref (a + 1), .int (iI num)]) ∧ Sg M (a + 1) xs
theorem Ln.fr {M M' : mm_M} {a b k : Nat} {num : Int} {xs : List Int} (h : Ln M a num xs) (hf : fr M M' b k) (hd : a + 3 ≤ b ∨ b + k ≤ a) : Ln M' a num xs := ⟨h.1, hf.at h.2.1 (by omega), h.2.2.fr hf (by omega)⟩
theorem ln_copy {n : Nat} {M : mm_M} {a b : Nat} {u v : Int} {xs ys : List Int} (h : Ln M a u xs) (g : Ln M b v ys) (hd : a + 3 ≤ b ∨ b + 3 ≤ a) : ∃ M', pX2_copyFrom n M a b = some M' ∧ Ln M' a v ys ∧ fr M M' a 3 := by
  obtain ⟨h0, h1, h2⟩ := h
  obtain ⟨g0, g1, g2⟩ := g
  obtain ⟨M1, e1, s1, f1⟩ := sg_copy (n := n) h2 g2 (by omega)
  have h1' := f1.at h1 (by omega)
  have g1' := f1.at g1 (by omega)
  obtain ⟨M2, e2, s2, f2⟩ := pi_ex h1' 1 (iI v)
  refine ⟨M2, ?_, ⟨g0, s2, s1.fr f2 (by omega)⟩, (f1.mono (by omega) (by omega)).trans (f2.mono (by omega) (by omega))⟩
  simp (disch := (first | assumption | (refine sm_of ?_ ?_ <;> omega) | fail)) only [iI_add, iI_sub, iI_mul, iI_neg, iI_lt, iI_le, iI_eq, b1_s, b2_s, ↓reduceIte, L0, L1, L2, L3, L4, L5, L6, L7, L8, L9, L10, L12, L20, L22, L24, L26, L27, L28, L32, L40, L60, L73, L95, L97, L222, L240, L441, L442, L622, Lm1, Lmh, pX2_copyFrom, v_at h1, gr_at h1 0 rfl, gr_at g1 0 rfl, e1, gi_at g1' 1 rfl, e2]
/-- the order of two hits -/
def cmpH (wl : Nat) (p : Nat) (u : Int) (xs : List Int) (q : Nat) (v : Int) (ys : List Int) : Int :=
  if cmpL (xs.drop (p + wl)) (ys.drop (q + wl)) ≠ 0 then cmpL (xs.drop (p + wl)) (ys.drop (q + wl))
  else if cmpL (xs.take p).reverse (ys.take q).reverse ≠ 0 then cmpL (xs.take p).reverse (ys.take q).reverse
  else if u - v ≠ 0 then u - v else (p : Int) - q
theorem cmpL_bd (A B : List Int) : -1 ≤ cmpL A B ∧ cmpL A B ≤ 1 := by
  induction A generalizing B with
  | nil => cases B <;> simp [cmpL]
  | cons x A ih =>
    cases B with
    | nil => simp [cmpL]
    | cons y B =>
      simp only [cmpL]
      split
      · exact ih B
      · split <;> omega
theorem ln_cmp {n : Nat} (hn : 60 ≤ n) {M : mm_M} {a b : Nat} {u v : Int} {xs ys : List Int} (h : Ln M a u xs) (g : Ln M b v ys) {p q wl : Nat} (hp : p ≤ xs.length) (hq : q ≤ ys.length) (hw : wl ≤ 20) : pX2_compare n M a (iI p) b (iI q) (iI wl) = some (iI (cmpH wl p u xs q v ys), M) := by
  obtain ⟨h0, h1, h2⟩ := h
  obtain ⟨g0, g1, g2⟩ := g
  have l1 := h2.1
  have l2 := g2.1
  have c1 := sg_cmpf hn h2 g2 (p := p + wl) (q := q + wl) (by omega) (by omega)
  have c2 := sg_cmpb hn h2 g2 hp hq
  have k1 := cmpL_bd (xs.drop (p + wl)) (ys.drop (q + wl))
  have k2 := cmpL_bd (xs.take p).reverse (ys.take q).reverse
  unfold nb at h0 g0
  unfold cmpH
  generalize cmpL (xs.drop (p + wl)) (ys.drop (q + wl)) = z1 at *
  generalize cmpL (xs.take p).reverse (ys.take q).reverse = z2 at *
  rw [show ((p + wl : Nat) : Int) = (p : Int) + wl by omega, show ((q + wl : Nat) : Int) = (q : Int) + wl by omega] at c1
  simp (disch := (first | assumption | (refine sm_of ?_ ?_ <;> omega) | fail)) only [iI_add, iI_sub, iI_mul, iI_neg, iI_lt, iI_le, iI_eq, b1_s, b2_s, ↓reduceIte, L0, L1, L2, L3, L4, L5, L6, L7, L8, L9, L10, L12, L20, L22, L24, L26, L27, L28, L32, L40, L60, L73, L95, L97, L222, L240, L441, L442, L622, Lm1, Lmh, pX2_compare, pX2_compare_b47, pX2_compare_b63, v_at h1, gr_at h1 0 rfl, gr_at g1 0 rfl, gi_at h1 1 rfl, gi_at g1 1 rfl, c1, c2]
  by_cases d1 : z1 = 0
  · by_cases d2 : z2 = 0
    · by_cases d3 : u - v = 0
      · simp [d1, d2, d3]
      · simp [d1, d2, d3]
    · simp [d1, d2]
  · simp [d1]
/-! steps -/
def Sp (M : mm_M) (a : Nat) (s x y : Int32) (xs : List Int) : Prop := M.2 a = some (mm_ob 7 [.int s, .int x, .int y, .ref (a + 1)]) ∧ Sg M (a + 1) xs
theorem Sp.fr {M M' : mm_M} {a b k : Nat} {s x y : Int32} {xs : List Int} (h : Sp M a s x y xs) (hf : fr M M' b k) (hd : a + 3 ≤ b ∨ b + k ≤ a) : Sp M' a s x y xs := ⟨hf.at h.1 (by omega), h.2.fr hf (by omega)⟩
theorem sg_zero {M M' : mm_M} {a : Nat} {xs : List Int} (h : Sg M a xs) (e : M'.2 a = some (mm_ob 5 [.ref (a + 1), .int (iI 0)])) (f : fr M M' a 1) : Sg M' a [] := by
  obtain ⟨h1, h2, h3, k, h4, h5⟩ := h
  exact ⟨by simp, (fun x hx => by simp at hx), e, k, f.at h4 (by omega), (fun i hi => by simp at hi)⟩
theorem sp_tell {n : Nat} {M : mm_M} {a : Nat} {s x y s' x' y' : Int32} {xs : List Int} (h : Sp M a s x y xs) : ∃ M', pX7_tell n M a s' x' y' = some M' ∧ Sp M' a s' x' y' [] ∧ fr M M' a 3 := by
  obtain ⟨h1, h2⟩ := h
  obtain ⟨M1, e1, s1, f1⟩ := pi_ex h1 0 s'
  obtain ⟨M2, e2, s2, f2⟩ := pi_ex s1 1 x'
  obtain ⟨M3, e3, s3, f3⟩ := pi_ex s2 2 y'
  have f13 := (f1.trans f2).trans f3
  have g := h2.fr f13 (by omega)
  obtain ⟨M4, e4, s4, f4⟩ := pi_ex g.2.2.1 1 (iI 0)
  refine ⟨M4, ?_, ⟨f4.at s3 (by omega), sg_zero g s4 f4⟩, (f13.mono (by omega) (by omega)).trans (f4.mono (by omega) (by omega))⟩
  simp (disch := (first | assumption | (refine sm_of ?_ ?_ <;> omega) | fail)) only [iI_add, iI_sub, iI_mul, iI_neg, iI_lt, iI_le, iI_eq, b1_s, b2_s, ↓reduceIte, L0, L1, L2, L3, L4, L5, L6, L7, L8, L9, L10, L12, L20, L22, L24, L26, L27, L28, L32, L40, L60, L73, L95, L97, L222, L240, L441, L442, L622, Lm1, Lmh, pX7_tell, v_at h1, e1, e2, e3, gr_at s3 3 rfl, e4]
/-! cursors -/
def Cu (M : mm_M) (a : Nat) (w : List Int) (sz : Int) (mk : Bool) (mn : Int) (mx : List Int) (mp : Nat) (pg : List (Int × Int)) (sc : Int) : Prop :=
  nb sz ∧ mp ≤ mx.length ∧ pg.length ≤ 9 ∧ nb sc ∧ M.2 a = some (mm_ob 0 [.ref (a + 1), .int (iI sz), .int (bI mk), .ref (a + 3), .int (iI mp), .int (iI pg.length), .int (iI sc), .ref (a + 6), .ref (a + 7)]) ∧ Sg M (a + 1) w ∧ Ln M (a + 3) mn mx ∧
  (∃ f, M.2 (a + 6) = some (mm_ai 9 f) ∧ ∀ i, i < pg.length → f i = iI (pg.getD i (0, 0)).1) ∧ ∃ f, M.2 (a + 7) = some (mm_ai 9 f) ∧ ∀ i, i < pg.length → f i = iI (pg.getD i (0, 0)).2
theorem Cu.fr {M M' : mm_M} {a b k : Nat} {w : List Int} {sz : Int} {mk : Bool} {mn : Int} {mx : List Int} {mp : Nat} {pg : List (Int × Int)} {sc : Int} (h : Cu M a w sz mk mn mx mp pg sc) (hf : fr M M' b k) (hd : a + 8 ≤ b ∨ b + k ≤ a) : Cu M' a w sz mk mn mx mp pg sc := by
  obtain ⟨h1, h2, h3, h4, h5, h6, h7, ⟨f, h8, h9⟩, g, h10, h11⟩ := h
  exact ⟨h1, h2, h3, h4, hf.at h5 (by omega), h6.fr hf (by omega), h7.fr hf (by omega), ⟨f, hf.at h8 (by omega), h9⟩, g, hf.at h10 (by omega), h11⟩
theorem cu_copy {n : Nat} {M : mm_M} {a b : Nat} {w w' : List Int} {sz sz' : Int} {mk mk' : Bool} {mn mn' : Int} {mx mx' : List Int} {mp mp' : Nat} {pg pg' : List (Int × Int)} {sc sc' : Int} (h : Cu M a w sz mk mn mx mp pg sc) (g : Cu M b w' sz' mk' mn' mx' mp' pg' sc') (hd : a + 8 ≤ b ∨ b + 8 ≤ a) : ∃ M', pX0_copyFrom n M a b = some M' ∧ Cu M' a w' sz' mk' mn' mx' mp' pg' sc' ∧ fr M M' a 8 := by
  obtain ⟨h1, h2, h3, h4, h5, h6, h7, ⟨f, h8, h9⟩, k, h10, h11⟩ := h
  have gg := g
  obtain ⟨g1, g2, g3, g4, g5, g6, g7, ⟨f', g8, g9⟩, k', g10, g11⟩ := g
  obtain ⟨M1, e1, s1, f1⟩ := sg_copy (n := n) h6 g6 (by omega)
  obtain ⟨M2, e2, s2, f2⟩ := pi_ex (f1.at h5 (by omega)) 1 (iI sz')
  obtain ⟨M3, e3, s3, f3⟩ := pz_ex s2 2 mk'
  have f13 : fr M M3 a 3 := ((f1.mono (by omega) (by omega)).trans (f2.mono (by omega) (by omega))).trans (f3.mono (by omega) (by omega))
  obtain ⟨M4, e4, s4, f4⟩ := ln_copy (n := n) (h7.fr f13 (by omega)) (g7.fr f13 (by omega)) (by omega)
  obtain ⟨M5, e5, s5, f5⟩ := pi_ex (f4.at s3 (by omega)) 4 (iI mp')
  obtain ⟨M6, e6, s6, f6⟩ := pi_ex s5 5 (iI pg'.length)
  obtain ⟨M7, e7, s7, f7⟩ := pi_ex s6 6 (iI sc')
  have f57 : fr M4 M7 a 1 := (f5.trans f6).trans f7
  have f17 : fr M M7 a 6 := ((f13.mono (by omega) (by omega)).trans (f4.mono (by omega) (by omega))).trans (f57.mono (by omega) (by omega))
  obtain ⟨M8, e8, s8, f8⟩ := cp_ex (f17.at g8 (by omega)) (f17.at h8 (by omega)) (sp := 0) (dp := 0) (n := 9) (by omega) (by omega) (by omega) (by omega) (by omega) (sm_of (by omega) (by omega)) (sm_of (by omega) (by omega)) (sm_of (by omega) (by omega))
  have f18 : fr M M8 a 7 := (f17.mono (by omega) (by omega)).trans (f8.mono (by omega) (by omega))
  obtain ⟨M9, e9, s9, f9⟩ := cp_ex (f18.at g10 (by omega)) (f18.at h10 (by omega)) (sp := 0) (dp := 0) (n := 9) (by omega) (by omega) (by omega) (by omega) (by omega) (sm_of (by omega) (by omega)) (sm_of (by omega) (by omega)) (sm_of (by omega) (by omega))
  have f89 : fr M7 M9 (a + 6) 2 := (f8.mono (by omega) (by omega)).trans (f9.mono (by omega) (by omega))
  have g5a := f1.at g5 (by omega)
  have g5b := f2.at g5a (by omega)
  have g5c := f13.at g5 (by omega)
  have g5d := f4.at g5c (by omega)
  have g5e := f5.at g5d (by omega)
  have g5f := f6.at g5e (by omega)
  have g5g := f17.at g5 (by omega)
  have g5h := f18.at g5 (by omega)
  refine ⟨M9, ?_, ⟨g1, g2, g3, g4, f89.at s7 (by omega), ?_, ?_, ⟨_, f9.at s8 (by omega), ?_⟩, _, s9, ?_⟩, (f17.mono (by omega) (by omega)).trans (f89.mono (by omega) (by omega))⟩
  · simp (disch := (first | assumption | (refine sm_of ?_ ?_ <;> omega) | fail)) only [iI_add, iI_sub, iI_mul, iI_neg, iI_lt, iI_le, iI_eq, b1_s, b2_s, ↓reduceIte, L0, L1, L2, L3, L4, L5, L6, L7, L8, L9, L10, L12, L20, L22, L24, L26, L27, L28, L32, L40, L60, L73, L95, L97, L222, L240, L441, L442, L622, Lm1, Lmh, pX0_copyFrom, v_at h5, gr_at h5 0 rfl, gr_at g5 0 rfl, e1, gi_at g5a 1 rfl, e2, gi_at g5b 2 rfl, e3, gr_at s3 3 rfl, gr_at g5c 3 rfl, e4, gi_at g5d 4 rfl, e5, gi_at g5e 5 rfl, e6, gi_at g5f 6 rfl, e7, gr_at g5g 7 rfl, gr_at s7 7 rfl, e8, gr_at g5h 8 rfl, gr_at (f8.at s7 (by omega)) 8 rfl, e9]
  · exact (((((s1.fr f2 (by omega)).fr f3 (by omega)).fr f4 (by omega)).fr f57 (by omega)).fr f89 (by omega))
  · exact ((s4.fr f57 (by omega)).fr f89 (by omega))
  · intro i hi
    rw [← g9 i hi]
    simp [va_cpy]; omega
  · intro i hi
    rw [← g11 i hi]
    simp [va_cpy]; omega
theorem cu_unmark {n : Nat} {M : mm_M} {a : Nat} {w : List Int} {sz : Int} {mk : Bool} {mn : Int} {mx : List Int} {mp : Nat} {pg : List (Int × Int)} {sc : Int} (h : Cu M a w sz mk mn mx mp pg sc) : ∃ M', pX0_unmark n M a = some M' ∧ Cu M' a w sz false mn mx mp [] 0 ∧ fr M M' a 1 := by
  obtain ⟨h1, h2, h3, h4, h5, h6, h7, ⟨f, h8, h9⟩, k, h10, h11⟩ := h
  obtain ⟨M1, e1, s1, f1⟩ := pz_ex h5 2 false
  obtain ⟨M2, e2, s2, f2⟩ := pi_ex s1 5 (iI 0)
  obtain ⟨M3, e3, s3, f3⟩ := pi_ex s2 6 (iI 0)
  have f13 := (f1.trans f2).trans f3
  rw [bI_f] at e1
  refine ⟨M3, ?_, ⟨h1, h2, by simp, ⟨by omega, by omega⟩, s3, h6.fr f13 (by omega), h7.fr f13 (by omega), ⟨f, f13.at h8 (by omega), (fun i hi => by simp at hi)⟩, k, f13.at h10 (by omega), (fun i hi => by simp at hi)⟩, f13⟩
  simp (disch := (first | assumption | (refine sm_of ?_ ?_ <;> omega) | fail)) only [iI_add, iI_sub, iI_mul, iI_neg, iI_lt, iI_le, iI_eq, b1_s, b2_s, ↓reduceIte, L0, L1, L2, L3, L4, L5, L6, L7, L8, L9, L10, L12, L20, L22, L24, L26, L27, L28, L32, L40, L60, L73, L95, L97, L222, L240, L441, L442, L622, Lm1, Lmh, pX0_unmark, v_at h5, e1, e2, e3]
theorem cu_tell {n : Nat} {M : mm_M} {a b : Nat} {w : List Int} {sz : Int} {mk : Bool} {mn : Int} {mx : List Int} {mp : Nat} {pg : List (Int × Int)} {sc : Int} (h : Cu M a w sz mk mn mx mp pg sc) {u : Int} {xs : List Int} (g : Ln M b u xs) (hd : a + 8 ≤ b ∨ b + 3 ≤ a) {p : Nat} (hp : p ≤ xs.length) (hl : pg.length < 9) (hsc : nb (sc + 1)) : ∃ M', pX0_tell n M a b (iI p) = some M' ∧ Cu M' a w sz true u xs p (pg ++ [(u, (p : Int))]) (sc + 1) ∧ fr M M' a 8 := by
  obtain ⟨h1, h2, h3, h4, h5, h6, h7, ⟨f, h8, h9⟩, k, h10, h11⟩ := h
  obtain ⟨g0, g1, g2⟩ := g
  have l2 := g2.1
  obtain ⟨M1, e1, s1, f1⟩ := pz_ex h5 2 true
  rw [bI_t] at e1
  have h7' := h7.fr f1 (by omega)
  obtain ⟨M2, e2, s2, f2⟩ := sg_copy (n := n) h7'.2.2 (g2.fr f1 (by omega)) (by omega)
  obtain ⟨M3, e3, s3, f3⟩ := pi_ex (f2.at h7'.2.1 (by omega)) 1 (iI u)
  have t3 := f3.at (f2.at s1 (by omega)) (by omega)
  obtain ⟨M4, e4, s4, f4⟩ := pi_ex t3 4 (iI p)
  have f12 : fr M M2 a 6 := (f1.mono (by omega) (by omega)).trans (f2.mono (by omega) (by omega))
  have f14 : fr M M4 a 6 := (f12.trans (f3.mono (by omega) (by omega))).trans (f4.mono (by omega) (by omega))
  obtain ⟨M5, e5, s5, f5⟩ := is_ex (f14.at h8 (by omega)) (i := pg.length) (by omega) (by omega) (sm_of (by omega) (by omega)) (iI u)
  obtain ⟨M6, e6, s6, f6⟩ := is_ex (f5.at (f14.at h10 (by omega)) (by omega)) (i := pg.length) (by omega) (by omega) (sm_of (by omega) (by omega)) (iI p)
  have t6 := f6.at (f5.at s4 (by omega)) (by omega)
  obtain ⟨M7, e7, s7, f7⟩ := pi_ex t6 5 (iI ((pg.length : Int) + 1))
  obtain ⟨M8, e8, s8, f8⟩ := pi_ex s7 6 (iI (sc + 1))
  have f56 : fr M4 M6 (a + 6) 2 := (f5.mono (by omega) (by omega)).trans (f6.mono (by omega) (by omega))
  have f78 : fr M6 M8 a 1 := f7.trans f8
  have g1a := f12.at g1 (by omega)
  have g1b := f14.at g1 (by omega)
  refine ⟨M8, ?_, ⟨h1, hp, by simp; omega, hsc, ?_, ?_, ?_, ⟨_, f78.at (f6.at s5 (by omega)) (by omega), ?_⟩, _, f78.at s6 (by omega), ?_⟩, ((f14.mono (by omega) (by omega)).trans (f56.mono (by omega) (by omega))).trans (f78.mono (by omega) (by omega))⟩
  · simp (disch := (first | assumption | (refine sm_of ?_ ?_ <;> omega) | fail)) only [iI_add, iI_sub, iI_mul, iI_neg, iI_lt, iI_le, iI_eq, b1_s, b2_s, ↓reduceIte, L0, L1, L2, L3, L4, L5, L6, L7, L8, L9, L10, L12, L20, L22, L24, L26, L27, L28, L32, L40, L60, L73, L95, L97, L222, L240, L441, L442, L622, Lm1, Lmh, pX0_tell, v_at h5, e1, gr_at s1 3 rfl, gr_at h7'.2.1 0 rfl, gr_at (f1.at g1 (by omega)) 0 rfl, e2, gr_at (f2.at s1 (by omega)) 3 rfl, gi_at g1a 1 rfl, e3, e4, gi_at s4 5 rfl, show ¬ (9 : Int) ≤ pg.length by omega, gr_at s4 7 rfl, gi_at g1b 1 rfl, e5, gr_at (f5.at s4 (by omega)) 8 rfl, gi_at (f5.at s4 (by omega)) 5 rfl, e6, gi_at t6 5 rfl, e7, gi_at s7 6 rfl, e8]
  · rw [s8]; simp
  · exact (((((h6.fr f1 (by omega)).fr f2 (by omega)).fr f3 (by omega)).fr f4 (by omega)).fr f56 (by omega)).fr f78 (by omega)
  · refine ⟨g0, ?_, ?_⟩
    · exact f78.at (f56.at (f4.at s3 (by omega)) (by omega)) (by omega)
    · exact ((((s2.fr f3 (by omega)).fr f4 (by omega)).fr f56 (by omega)).fr f78 (by omega))
  · intro i hi
    simp at hi
    by_cases c : i = pg.length
    · subst c; simp [upd]
    · have e9 : (pg ++ [(u, (p : Int))]).getD i (0, 0) = pg.getD i (0, 0) := by
        rw [List.getD_eq_getElem?_getD, List.getElem?_append_left (by omega), List.getD_eq_getElem?_getD]
      rw [e9, ← h9 i (by omega)]; simp [upd, c]
  · intro i hi
    simp at hi
    by_cases c : i = pg.length
    · subst c; simp [upd]
    · have e9 : (pg ++ [(u, (p : Int))]).getD i (0, 0) = pg.getD i (0, 0) := by
        rw [List.getD_eq_getElem?_getD, List.getElem?_append_left (by omega), List.getD_eq_getElem?_getD]
      rw [e9, ← h11 i (by omega)]; simp [upd, c]
def ahd (w : List Int) (mk : Bool) (mn : Int) (mx : List Int) (mp : Nat) (u : Int) (xs : List Int) (p : Nat) : Bool := hasAt xs w p && (!mk || decide (0 < cmpH w.length p u xs mp mn mx))
theorem cmpH_bd {wl p q : Nat} {u v : Int} {xs ys : List Int} (hu : nb u) (hv : nb v) (hp : p ≤ 100) (hq : q ≤ 100) : -100000000 ≤ cmpH wl p u xs q v ys ∧ cmpH wl p u xs q v ys ≤ 100000000 := by
  have k1 := cmpL_bd (xs.drop (p + wl)) (ys.drop (q + wl))
  have k2 := cmpL_bd (xs.take p).reverse (ys.take q).reverse
  unfold nb at hu hv
  unfold cmpH
  split
  · omega
  · split
    · omega
    · split <;> omega
theorem cu_ahead {n : Nat} (hn : 60 ≤ n) {M : mm_M} {a b : Nat} {w : List Int} {sz : Int} {mk : Bool} {mn : Int} {mx : List Int} {mp : Nat} {pg : List (Int × Int)} {sc : Int} (h : Cu M a w sz mk mn mx mp pg sc) {u : Int} {xs : List Int} (g : Ln M b u xs) {p : Nat} (hp : p ≤ xs.length) : pX0_isAhead n M a b (iI p) = some (bI (ahd w mk mn mx mp u xs p), M) := by
  obtain ⟨h1, h2, h3, h4, h5, h6, h7, -, -⟩ := h
  have l1 := h6.1
  have l2 := g.2.2.1
  have l3 := h7.2.2.1
  have c1 := ln_cmp hn g h7 hp h2 (wl := w.length) (by omega)
  have k1 := cmpH_bd (wl := w.length) (xs := xs) (ys := mx) g.1 h7.1 (show p ≤ 100 by omega) (show mp ≤ 100 by omega)
  unfold ahd
  simp (disch := (first | assumption | (refine sm_of ?_ ?_ <;> omega) | fail)) only [iI_add, iI_sub, iI_mul, iI_neg, iI_lt, iI_le, iI_eq, b1_s, b2_s, ↓reduceIte, L0, L1, L2, L3, L4, L5, L6, L7, L8, L9, L10, L12, L20, L22, L24, L26, L27, L28, L32, L40, L60, L73, L95, L97, L222, L240, L441, L442, L622, Lm1, Lmh, pX0_isAhead, v_at h5, gr_at g.2.1 0 rfl, gr_at h5 0 rfl, sg_has hn g.2.2 h6 hp, bI_0, gi_at h5 2 rfl, gr_at h5 3 rfl, gi_at h5 4 rfl, gi_at h6.2.2.1 1 rfl, c1]
  cases hasAt xs w p
  · rfl
  · cases mk
    · rfl
    · by_cases c : cmpH w.length p u xs mp mn mx ≤ 0
      · simp [c, Int.not_lt.mpr c, bI]
      · simp [c, Int.not_le.mp c, bI]
