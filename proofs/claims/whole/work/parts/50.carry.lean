abbrev kT : Type := List kL × Int × (Nat → kU) × List kG
def insL (ls : List kL) (k : Nat) (x : kL) : List kL := ls.take k ++ x :: ls.drop k
def delL (ls : List kL) (k : Nat) : List kL := ls.take k ++ ls.drop (k + 1)
theorem lns_q (F : Nat → Nat) (D : Nat → kL) (c i : Nat) : (lns F D c)[i]? = if i < c then some (D (F i)) else none := by
  unfold lns
  rw [List.getElem?_map]
  by_cases h : i < c
  · rw [if_pos h, List.getElem?_range h]; rfl
  · rw [if_neg h, List.getElem?_eq_none (by simp; omega)]; rfl
theorem lns_op {F : Nat → Nat} {D D' : Nat → kL} {k cc : Nat} (hk : k ≤ cc) (h : ∀ i, i < cc → D' (F i) = D (F i)) : lns (opF F k cc) D' (cc + 1) = insL (lns F D cc) k (D' (F cc)) := by
  apply List.ext_getElem?
  intro i
  rw [lns_q, insL]
  have hl := lns_len F D cc
  by_cases c1 : i < k
  · rw [List.getElem?_append_left (by rw [List.length_take, hl]; omega), List.getElem?_take, if_pos c1, lns_q, if_pos (by omega), if_pos (by omega), opF, if_pos c1, h i (by omega)]
  · rw [List.getElem?_append_right (by rw [List.length_take, hl]; omega), List.length_take, hl, Nat.min_eq_left hk]
    by_cases c2 : i = k
    · subst c2; rw [if_pos (by omega)]; simp [opF]
    · rw [show i - k = (i - k - 1) + 1 by omega, List.getElem?_cons_succ, List.getElem?_drop, lns_q]
      by_cases c3 : i < cc + 1
      · rw [if_pos c3, if_pos (by omega), opF, if_neg c1, if_neg c2, if_pos (by omega), show k + (i - k - 1) = i - 1 by omega, h (i - 1) (by omega)]
      · rw [if_neg c3, if_neg (by omega)]
theorem lns_cl {F : Nat → Nat} {D : Nat → kL} {k cc : Nat} (hk : k < cc) : lns (clF F k cc) D (cc - 1) = delL (lns F D cc) k := by
  apply List.ext_getElem?
  intro i
  rw [lns_q, delL]
  have hl := lns_len F D cc
  by_cases c1 : i < k
  · rw [List.getElem?_append_left (by rw [List.length_take, hl]; omega), List.getElem?_take, if_pos c1, lns_q, if_pos (by omega), if_pos (by omega), clF, if_pos c1]
  · rw [List.getElem?_append_right (by rw [List.length_take, hl]; omega), List.length_take, hl, Nat.min_eq_left (by omega), List.getElem?_drop, lns_q]
    by_cases c3 : i < cc - 1
    · rw [if_pos c3, if_pos (by omega), clF, if_neg c1, if_pos c3, show k + 1 + (i - k) = i + 1 by omega]
    · rw [if_neg c3, if_neg (by omega)]
theorem lns_sw {F : Nat → Nat} {D : Nat → kL} {k o cc : Nat} (hk : k < cc) (ho : o < cc) (hne : k ≠ o) : lns (swF F k o) D cc = ((lns F D cc).set k (D (F o))).set o (D (F k)) := by
  apply List.ext_getElem?
  intro i
  have hl := lns_len F D cc
  rw [lns_q, List.getElem?_set, List.getElem?_set, lns_q, List.length_set, hl]
  by_cases c1 : o = i
  · subst c1; simp [ho, swF, Ne.symm hne]
  · rw [if_neg c1]
    by_cases c2 : k = i
    · subst c2; simp [hk, swF]
    · rw [if_neg c2]; simp [swF, Ne.symm c1, Ne.symm c2]
theorem lns_set {F : Nat → Nat} {D D' : Nat → kL} {k cc : Nat} (hk : k < cc) (h : ∀ i, i < cc → i ≠ k → D' (F i) = D (F i)) : lns F D' cc = (lns F D cc).set k (D' (F k)) := by
  apply List.ext_getElem?
  intro i
  have hl := lns_len F D cc
  rw [lns_q, List.getElem?_set, lns_q, hl]
  by_cases c1 : k = i
  · subst c1; simp [hk]
  · rw [if_neg c1]
    by_cases c2 : i < cc
    · rw [if_pos c2, if_pos c2, h i c2 (Ne.symm c1)]
    · rw [if_neg c2, if_neg c2]
theorem lns_cg {F F' : Nat → Nat} {D D' : Nat → kL} {c : Nat} (h : ∀ i, i < c → D' (F' i) = D (F i)) : lns F' D' c = lns F D c := by
  apply List.ext_getElem?
  intro i
  rw [lns_q, lns_q]
  by_cases q : i < c
  · rw [if_pos q, if_pos q, h i q]
  · rw [if_neg q, if_neg q]
/-- an act carried out: the answer, the lines, how many numbers are given, the cursors -/
def doK (T : kT) (sort x y : Int) (xs : List Int) : Int × List kL × Int × (Nat → kU) :=
  if sort = 0 then ((ln T.1 x).1, T.1.set x.toNat ((ln T.1 x).1, xs), T.2.1, T.2.2.1)
  else if sort = 1 then (T.2.1, insL T.1 x.toNat (T.2.1, xs), T.2.1 + 1, T.2.2.1)
  else if sort = 2 then ((ln T.1 x).2.length, delL T.1 x.toNat, T.2.1, T.2.2.1)
  else if sort = 3 then ((ln T.1 y).1, (T.1.set x.toNat (ln T.1 y)).set y.toNat (ln T.1 x), T.2.1, T.2.2.1)
  else if sort = 4 then (hitsL T.1 xs, T.1, T.2.1, fun j => if j = x.toNat then (xs, y, false, (T.2.2.1 j).2.2.2.1, (T.2.2.1 j).2.2.2.2.1, (T.2.2.1 j).2.2.2.2.2.1, [], 0) else T.2.2.1 j)
  else if sort = 5 then ((scL T.1 (T.2.2.1 x.toNat) T.1.length).length, T.1, T.2.1, fun j => if j = x.toNat then pageK T.1 (T.2.2.1 j) else T.2.2.1 j)
  else if sort = 6 then (leftL T.1 ((T.2.2.1 x.toNat).1, (T.2.2.1 x.toNat).2.1, false, (T.2.2.1 x.toNat).2.2.2.1, (T.2.2.1 x.toNat).2.2.2.2.1, (T.2.2.1 x.toNat).2.2.2.2.2.1, [], 0), T.1, T.2.1, fun j => if j = x.toNat then ((T.2.2.1 j).1, (T.2.2.1 j).2.1, false, (T.2.2.1 j).2.2.2.1, (T.2.2.1 j).2.2.2.2.1, (T.2.2.1 j).2.2.2.2.2.1, [], 0) else T.2.2.1 j)
  else if sort = 7 then (T.2.1, insL (T.1.set x.toNat ((ln T.1 x).1, (ln T.1 x).2.take y.toNat)) (x.toNat + 1) (T.2.1, (ln T.1 x).2.drop y.toNat), T.2.1 + 1, T.2.2.1)
  else (((ln T.1 x).2.length + (ln T.1 (x + 1)).2.length : Nat), delL (T.1.set x.toNat ((ln T.1 x).1, (ln T.1 x).2 ++ (ln T.1 (x + 1)).2)) (x.toNat + 1), T.2.1, T.2.2.1)
def St (M : mm_M) (a : Nat) (B : Int) (T : kT) : Prop := ∃ F D cc C, Sv M a F D cc T.2.1 C B T.2.2.2 ∧ T.1 = lns F D cc ∧ (∀ i, i < 3 → C i = T.2.2.1 i) ∧ B ≤ 5000000 ∧ T.2.1 ≤ B + 10 ∧ ∀ i, i < 3 → (T.2.2.1 i).2.2.2.2.2.2.2 ≤ 10 * B ∧ (T.2.2.1 i).2.1 ≤ 9
theorem St.fr {M M' : mm_M} {a b k : Nat} {B : Int} {T : kT} (h : St M a B T) (hf : fr M M' b k) (hd : a + 62 ≤ b ∨ b + k ≤ a) : St M' a B T := by
  obtain ⟨F, D, cc, C, h1, h2⟩ := h
  exact ⟨F, D, cc, C, h1.fr hf hd, h2⟩
theorem St.mono {M : mm_M} {a : Nat} {B B' : Int} {T : kT} (h : St M a B T) (h1 : B ≤ B') (h2 : B' ≤ 5000000) : St M a B' T := by
  obtain ⟨F, D, cc, C, g1, g2, g3, g4, g5, g6⟩ := h
  exact ⟨F, D, cc, C, g1.mono h1 (by omega), g2, g3, h2, by omega, fun i hi => ⟨by have := (g6 i hi).1; omega, (g6 i hi).2⟩⟩
theorem t_copy {n : Nat} (hn : 60 ≤ n) {M : mm_M} {a b : Nat} {B B' : Int} {T T' : kT} (h : St M a B T) (g : St M b B' T') (hd : a + 62 ≤ b ∨ b + 62 ≤ a) : ∃ M1, pX6_copyFrom n M a b = some M1 ∧ St M1 a B' T' ∧ fr M M1 a 62 := by
  obtain ⟨F, D, cc, C, h1, h2, h3, h4⟩ := h
  obtain ⟨F', D', cc', C', g1, g2, g3, g4⟩ := g
  obtain ⟨M1, D1, C1, e1, s1, a1, a2, f1⟩ := st_copy hn h1 g1 hd
  exact ⟨M1, e1, ⟨F, D1, cc', C1, s1, by rw [g2]; exact (lns_cg a1).symm, fun i hi => (a2 i hi).trans (g3 i hi), g4⟩, f1⟩
theorem t_all {n : Nat} (hn : 60 ≤ n) {M : mm_M} {a : Nat} {B : Int} {T : kT} (h : St M a B T) : pX6_allSigns n M a = some (iI (allS T.1), M) := by
  obtain ⟨F, D, cc, C, h1, h2, -⟩ := h
  rw [h2]; exact st_all hn h1.1 h1.2.1
theorem t_refuse {n : Nat} (hn : 60 ≤ n) {M : mm_M} {a s : Nat} {B : Int} {T : kT} {xs : List Int} (h : St M a B T) {sort x y : Int} (hp : Sp M s (iI sort) (iI x) (iI y) xs) (hs : 0 ≤ sort ∧ sort ≤ 8) (hx : sm x) (hy : sm y) : pX6_refusal n M a s = some (iI (whyK T.1 T.2.2.1 sort x y xs), M) := by
  obtain ⟨F, D, cc, C, h1, h2, h3, -⟩ := h
  rw [h2, st_refuse hn h1.1 h1.2.1 h1.2.2.1 hp hs hx hy]
  have e : ∀ z : Int, isCu C z = isCu T.2.2.1 z := by
    intro z; unfold isCu
    by_cases c : 0 ≤ z ∧ z < 3
    · rw [h3 z.toNat (by omega)]
    · rw [decide_eq_false (fun q => c ⟨q.1, q.2.1⟩), decide_eq_false (fun q => c ⟨q.1, q.2.1⟩)]
  congr 3
  unfold whyK
  rw [e x]
  by_cases c : isCu T.2.2.1 x = false
  · simp [c]
  · have c' : isCu T.2.2.1 x = true := by simpa using c
    have c2 := c'
    unfold isCu at c2
    simp at c2
    rw [h3 x.toNat (by omega)]
theorem t_subject {n : Nat} {M : mm_M} {a s : Nat} {B : Int} {T : kT} {xs : List Int} (h : St M a B T) {sort x y : Int} (hp : Sp M s (iI sort) (iI x) (iI y) xs) (hs : 0 ≤ sort ∧ sort ≤ 8) (hx : sm x) : pX6_subject n M a s = some (iI (subK T.1 T.2.1 sort x), M) := by
  obtain ⟨F, D, cc, C, h1, h2, h3, -⟩ := h
  rw [h2]; exact st_subject h1.1 h1.2.1 hp hs hx
theorem isCu_spec {C : Nat → kU} {x : Int} (h : isCu C x = true) : 0 ≤ x ∧ x < 3 ∧ 0 < (C x.toNat).2.1 := by unfold isCu at h; simpa using h
theorem isLn_spec {ls : List kL} {x : Int} (h : isLn ls x = true) : 0 ≤ x ∧ x < ls.length := by unfold isLn at h; simpa using h
def aft (T : kT) (sort x y : Int) (xs : List Int) : kT := ((doK T sort x y xs).2.1, (doK T sort x y xs).2.2.1, (doK T sort x y xs).2.2.2, T.2.2.2)
theorem t_do {n : Nat} (hn : 60 ≤ n) {M : mm_M} {a s : Nat} {B : Int} {T : kT} {xs : List Int} (h : St M a B T) {sort x y : Int} (hp : Sp M s (iI sort) (iI x) (iI y) xs) (hs : 0 ≤ sort ∧ sort ≤ 8) (hd : a + 62 ≤ s ∨ s + 3 ≤ a) (hB : B + 1 ≤ 5000000) (hw : whyK T.1 T.2.2.1 sort x y xs = -1) : ∃ M1, pX6_carryOut n M a s = some (iI (doK T sort x y xs).1, M1) ∧ St M1 a (B + 1) (aft T sort x y xs) ∧ fr M M1 a 62 := by
  obtain ⟨F, D, cc, C, h1, h2, h3, h4, h5, h6⟩ := h
  obtain ⟨hO, hL, hC, hJ, hsp⟩ := h1
  have hc := hO.1
  have hg := hO.2.1
  have hl : T.1.length = cc := by rw [h2]; exact lns_len F D cc
  have lg : ∀ z : Int, 0 ≤ z → z < cc → ln T.1 z = D (F z.toNat) := fun z z1 z2 => by rw [h2]; exact lns_get (by omega)
  have p1 := hp.1
  have p2 := hp.2
  have b6 : ∀ i, i < 3 → (T.2.2.1 i).2.2.2.2.2.2.2 ≤ 10 * (B + 1) ∧ (T.2.2.1 i).2.1 ≤ 9 := fun i hi => ⟨by have := (h6 i hi).1; omega, (h6 i hi).2⟩
  have hB0 : 0 ≤ B := by obtain ⟨w, _, _, _, z1, z2, _⟩ := hJ; omega
  unfold nb at hg
  have hn1 : nb (T.2.1 + 1) := ⟨by omega, by omega⟩
  have hJ1 := hJ.mono (show B ≤ B + 1 by omega) (by omega)
  unfold whyK at hw
  rcases (show sort = 0 ∨ sort = 1 ∨ sort = 2 ∨ sort = 3 ∨ sort = 4 ∨ sort = 5 ∨ sort = 6 ∨ sort = 7 ∨ sort = 8 by omega) with rfl | rfl | rfl | rfl | rfl | rfl | rfl | rfl | rfl
  · -- set
    have q1 : isLn T.1 x = true := by cases e : isLn T.1 x with | false => simp [e] at hw | true => rfl
    obtain ⟨x0, x1⟩ := isLn_spec q1
    rw [hl] at x1
    have fx := hL.2.1 x.toNat (by omega)
    have lx := hL.ln (i := x.toNat) (by omega)
    obtain ⟨M1, e1, s1, f1⟩ := sg_copy (n := n) lx.2.2 p2 (by omega)
    have l1 := lv_sg hL fx s1 f1
    have o1 := hO.fr f1 (by omega)
    have k1 : kp M M1 a := kp.of f1 (by omega)
    have lx1 := l1.ln (i := x.toNat) (by omega)
    simp only [↓reduceIte] at lx1
    refine ⟨M1, ?_, ⟨F, _, cc, C, ⟨o1, l1, k1.1 C hC, k1.2.1 _ _ hJ1, by rw [k1.2.2.1]; exact hsp⟩, ?_, h3, hB, by show T.2.1 ≤ _; omega, b6⟩, k1.2.2.2⟩
    · simp (disch := (first | assumption | (refine sm_of ?_ ?_ <;> omega) | fail)) only [iI_add, iI_sub, iI_mul, iI_neg, iI_lt, iI_le, iI_eq, b1_s, b2_s, ↓reduceIte, L0, L1, L2, L3, L4, L5, L6, L7, L8, L9, L10, L12, L20, L22, L24, L26, L27, L28, L32, L40, L60, L73, L95, L97, L222, L240, L441, L442, L622, Lm1, Lmh, pX6_carryOut, v_at hO.2.2, gi_at p1 1 rfl, gi_at p1 0 rfl, gr_at hO.2.2 0 rfl, hL.ra x0 (by omega), gr_at lx.2.1 0 rfl, gr_at p1 3 rfl, e1, gr_at o1.2.2 0 rfl, l1.ra x0 (by omega), gi_at lx1.2.1 1 rfl]
      simp [doK, lg x x0 x1]
    · show T.1.set x.toNat ((ln T.1 x).1, xs) = _
      rw [lns_set (D := D) (k := x.toNat) (by omega) (fun i hi hne => by
        have : ¬ F i = F x.toNat := fun q => hne (hL.2.2.1 _ _ (by omega) (by omega) q)
        simp [this]), ← h2, lg x x0 x1]
      simp
  · -- put
    simp at hw
    have x0 : 0 ≤ x ∧ x ≤ cc ∧ cc < 10 := by
      by_cases c1 : T.1 = [] ∨ x < 0 ∨ (T.1.length : Int) < x
      · simp [c1] at hw
      · rw [if_neg c1] at hw
        by_cases c2 : xs = []
        · simp [c2] at hw
        · rw [if_neg c2] at hw
          by_cases c3 : T.1.length = 10
          · simp [c3] at hw
          · rw [hl] at c1 c3; simp at c1; omega
    obtain ⟨M1, e1, o1, l1, k1⟩ := st_open hn hO hL (k := x.toNat) (by omega) x0.2.2 hn1
    have fc := hL.2.1 cc x0.2.2
    rw [show ((x.toNat : Nat) : Int) = x by omega] at e1
    have lc := l1.2.2.2 (F cc) fc
    simp only [↓reduceIte] at lc
    have p1' := k1.2.2.2.at p1 (by omega)
    have p2' := p2.fr k1.2.2.2 (by omega)
    obtain ⟨M2, e2, s2, f2⟩ := sg_copy (n := n) lc.2.2 p2' (by omega)
    have l2 := lv_sg l1 fc s2 f2
    have o2 := o1.fr f2 (by omega)
    have k2 : kp M1 M2 a := kp.of f2 (by omega)
    have eF : opF F x.toNat cc x.toNat = F cc := by simp [opF]
    have r2 := l2.ra (i := x) (by omega) (by omega)
    rw [eF] at r2
    have lx2 := l2.ln (i := x.toNat) (by omega)
    rw [eF] at lx2
    simp only [↓reduceIte] at lx2
    have k12 := k1.trans k2
    refine ⟨M2, ?_, ⟨_, _, cc + 1, C, ⟨o2, l2, k12.1 C hC, k12.2.1 _ _ hJ1, by rw [k12.2.2.1]; exact hsp⟩, ?_, h3, hB, by show T.2.1 + 1 ≤ _; omega, b6⟩, k12.2.2.2⟩
    · have z1 : ((1 : Int) = 0) = False := by simp
      simp (disch := (first | assumption | (refine sm_of ?_ ?_ <;> omega) | fail)) only [iI_add, iI_sub, iI_mul, iI_neg, iI_lt, iI_le, iI_eq, b1_s, b2_s, ↓reduceIte, L0, L1, L2, L3, L4, L5, L6, L7, L8, L9, L10, L12, L20, L22, L24, L26, L27, L28, L32, L40, L60, L73, L95, L97, L222, L240, L441, L442, L622, Lm1, Lmh, pX6_carryOut, v_at hO.2.2, gi_at p1 1 rfl, gi_at p1 0 rfl, z1, e1, gr_at lc.2.1 0 rfl, gr_at p1' 3 rfl, e2, gr_at o2.2.2 0 rfl, r2, gi_at lx2.2.1 1 rfl]
      simp [doK]
    · show insL T.1 x.toNat (T.2.1, xs) = _
      rw [lns_op (D := D) (k := x.toNat) (by omega) (fun i hi => by
        have : ¬ F i = F cc := fun q => by have := hL.2.2.1 _ _ (by omega) x0.2.2 q; omega
        simp [this]), ← h2]
      simp
  · -- take
    simp at hw
    have q1 : isLn T.1 x = true := by cases e : isLn T.1 x with | false => simp [e] at hw | true => rfl
    obtain ⟨x0, x1⟩ := isLn_spec q1
    rw [hl] at x1
    obtain ⟨M1, e1, o1, l1, k1, f1⟩ := st_close hn hO hL (k := x.toNat) (by omega)
    rw [show ((x.toNat : Nat) : Int) = x by omega] at e1
    have eF : clF F x.toNat cc (cc - 1) = F x.toNat := by unfold clF; rw [if_neg (by omega), if_neg (by omega), if_pos rfl]
    have r1 := l1.ra (i := ((cc - 1 : Nat) : Int)) (by omega) (by omega)
    rw [show (((cc - 1 : Nat) : Int)).toNat = cc - 1 by omega, eF] at r1
    have lx1 := l1.ln (i := cc - 1) (by omega)
    rw [eF] at lx1
    refine ⟨M1, ?_, ⟨_, _, cc - 1, C, ⟨o1, l1, k1.1 C hC, k1.2.1 _ _ hJ1, by rw [k1.2.2.1]; exact hsp⟩, ?_, h3, hB, by show T.2.1 ≤ _; omega, b6⟩, k1.2.2.2⟩
    · simp (disch := (first | assumption | (refine sm_of ?_ ?_ <;> omega) | fail)) only [iI_add, iI_sub, iI_mul, iI_neg, iI_lt, iI_le, iI_eq, b1_s, b2_s, ↓reduceIte, L0, L1, L2, L3, L4, L5, L6, L7, L8, L9, L10, L12, L20, L22, L24, L26, L27, L28, L32, L40, L60, L73, L95, L97, L222, L240, L441, L442, L622, Lm1, Lmh, pX6_carryOut, v_at hO.2.2, gi_at p1 1 rfl, gi_at p1 0 rfl, show ((2 : Int) = 0) = False by simp, show ((2 : Int) = 1) = False by simp, e1, gr_at o1.2.2 0 rfl, gi_at o1.2.2 1 rfl, r1, gr_at lx1.2.1 0 rfl, gi_at lx1.2.2.2.2.1 1 rfl]
      simp [doK, lg x x0 x1]
    · show delL T.1 x.toNat = _
      rw [lns_cl (by omega), ← h2]
  · -- swap
    simp at hw
    have q1 : isLn T.1 x = true ∧ isLn T.1 y = true ∧ x ≠ y := by
      cases e : isLn T.1 x
      · simp [e] at hw
      · cases e2 : isLn T.1 y
        · simp [e, e2] at hw
        · refine ⟨rfl, rfl, fun q => ?_⟩
          simp [e, e2, q] at hw
    obtain ⟨x0, x1⟩ := isLn_spec q1.1
    obtain ⟨y0, y1⟩ := isLn_spec q1.2.1
    rw [hl] at x1 y1
    obtain ⟨M1, e1, o1, l1, k1⟩ := st_change (n := n) hO hL (k := x.toNat) (o := y.toNat) (by omega) (by omega) (by omega)
    rw [show ((x.toNat : Nat) : Int) = x by omega, show ((y.toNat : Nat) : Int) = y by omega] at e1
    refine ⟨M1, ?_, ⟨_, _, cc, C, ⟨o1, l1, k1.1 C hC, k1.2.1 _ _ hJ1, by rw [k1.2.2.1]; exact hsp⟩, ?_, h3, hB, by show T.2.1 ≤ _; omega, b6⟩, k1.2.2.2⟩
    · simp (disch := (first | assumption | (refine sm_of ?_ ?_ <;> omega) | fail)) only [iI_add, iI_sub, iI_mul, iI_neg, iI_lt, iI_le, iI_eq, b1_s, b2_s, ↓reduceIte, L0, L1, L2, L3, L4, L5, L6, L7, L8, L9, L10, L12, L20, L22, L24, L26, L27, L28, L32, L40, L60, L73, L95, L97, L222, L240, L441, L442, L622, Lm1, Lmh, pX6_carryOut, v_at hO.2.2, gi_at p1 1 rfl, gi_at p1 0 rfl, show ((3 : Int) = 0) = False by simp, show ((3 : Int) = 1) = False by simp, show ((3 : Int) = 2) = False by simp, gi_at p1 2 rfl, e1]
      simp [doK, lg y y0 y1]
    · show (T.1.set x.toNat (ln T.1 y)).set y.toNat (ln T.1 x) = _
      rw [lns_sw (by omega) (by omega) (by omega), ← h2, lg x x0 x1, lg y y0 y1]
  · -- lay
    simp at hw
    have x0 : 0 ≤ x ∧ x < 3 ∧ 1 ≤ y ∧ y ≤ 9 := by
      by_cases c1 : x < 0 ∨ 3 ≤ x ∨ T.1 = []
      · simp [c1] at hw
      · rw [if_neg c1] at hw
        by_cases c2 : y < 1 ∨ 9 < y ∨ xs = []
        · simp [c2] at hw
        · simp at c1 c2; omega
    obtain ⟨M1, C1, e1, c1, a1, a2, f1⟩ := st_start hn hO hL hC (i := x.toNat) (by omega) hp hd ⟨x0.2.2.1, x0.2.2.2⟩
    refine ⟨M1, ?_, ⟨F, D, cc, C1, ⟨hO.fr f1 (by omega), hL.fr f1 (by omega), c1, hJ1.fr f1 (by omega), ?_⟩, h2, fun i hi => ?_, hB, by show T.2.1 ≤ _; omega, fun i hi => ?_⟩, f1.mono (by omega) (by omega)⟩
    · simp (disch := (first | assumption | (refine sm_of ?_ ?_ <;> omega) | fail)) only [iI_add, iI_sub, iI_mul, iI_neg, iI_lt, iI_le, iI_eq, b1_s, b2_s, ↓reduceIte, L0, L1, L2, L3, L4, L5, L6, L7, L8, L9, L10, L12, L20, L22, L24, L26, L27, L28, L32, L40, L60, L73, L95, L97, L222, L240, L441, L442, L622, Lm1, Lmh, pX6_carryOut, v_at hO.2.2, gi_at p1 1 rfl, gi_at p1 0 rfl, show ((4 : Int) = 0) = False by simp, show ((4 : Int) = 1) = False by simp, show ((4 : Int) = 2) = False by simp, show ((4 : Int) = 3) = False by simp, gr_at hO.2.2 3 rfl, hC.ra (i := x) x0.1 x0.2.1, e1]
      rw [← h2]; simp [doK]
    · obtain ⟨u, hu⟩ := hsp
      exact ⟨u, f1.at hu (by omega)⟩
    · show C1 i = if i = x.toNat then _ else _
      by_cases q : i = x.toNat
      · subst q; rw [if_pos rfl, a1, h3 _ hi]
      · rw [if_neg q, a2 i q, h3 i hi]
    · show (if i = x.toNat then _ else _ : kU).2.2.2.2.2.2.2 ≤ _ ∧ (if i = x.toNat then _ else _ : kU).2.1 ≤ _
      by_cases q : i = x.toNat
      · rw [if_pos q]; simp; omega
      · rw [if_neg q]; exact b6 i hi
  · -- page
    simp at hw
    have q1 : isCu T.2.2.1 x = true := by cases e : isCu T.2.2.1 x with | false => simp [e] at hw | true => rfl
    obtain ⟨x0, x1, x2⟩ := isCu_spec q1
    have hx := h3 x.toNat (by omega)
    have bx := h6 x.toNat (by omega)
    have cx := (hC.2 x.toNat (by omega)).2.2.2.1
    rw [hx] at cx
    unfold nb at cx
    obtain ⟨M1, C1, e1, c1, a1, a2, sp1, m1, f1⟩ := st_turn hn hO hL hC (i0 := x.toNat) (by omega) (by rw [hx]; omega) hsp (by rw [hx]; exact ⟨by omega, by omega⟩)
    have ff : fr M M1 a 62 := ⟨m1, fun q hq => f1 q (by omega)⟩
    have ls : ∀ q, a ≤ q → q < a + 7 ∨ (a + 8 ≤ q ∧ q < a + 38) → M1.2 q = M.2 q := fun q z1 z2 => f1 q (by omega)
    refine ⟨M1, ?_, ⟨F, D, cc, C1, ⟨⟨hO.1, hO.2.1, (ls a (by omega) (by omega)).trans hO.2.2⟩, ?_, c1, ?_, sp1⟩, h2, fun i hi => ?_, hB, by show T.2.1 ≤ _; omega, fun i hi => ?_⟩, ff⟩
    · simp (disch := (first | assumption | (refine sm_of ?_ ?_ <;> omega) | fail)) only [iI_add, iI_sub, iI_mul, iI_neg, iI_lt, iI_le, iI_eq, b1_s, b2_s, ↓reduceIte, L0, L1, L2, L3, L4, L5, L6, L7, L8, L9, L10, L12, L20, L22, L24, L26, L27, L28, L32, L40, L60, L73, L95, L97, L222, L240, L441, L442, L622, Lm1, Lmh, pX6_carryOut, v_at hO.2.2, gi_at p1 1 rfl, gi_at p1 0 rfl, show ((5 : Int) = 0) = False by simp, show ((5 : Int) = 1) = False by simp, show ((5 : Int) = 2) = False by simp, show ((5 : Int) = 3) = False by simp, show ((5 : Int) = 4) = False by simp, gr_at hO.2.2 3 rfl, hC.ra (i := x) x0 x1, e1]
      rw [← h2, hx]; simp [doK, hl]
    · obtain ⟨⟨f, g1, g2⟩, g3, g4, g5⟩ := hL
      refine ⟨⟨f, (ls _ (by omega) (by omega)).trans g1, g2⟩, g3, g4, fun j hj => ?_⟩
      obtain ⟨z1, z2, z3, z4, z5, k, z6, z7⟩ := g5 j hj
      exact ⟨z1, (ls _ (by omega) (by omega)).trans z2, z3, z4, (ls _ (by omega) (by omega)).trans z5, k, (ls _ (by omega) (by omega)).trans z6, z7⟩
    · obtain ⟨w, f, g, k, z1, z2, z3, z4, z5, z6, z7, z8, z9⟩ := hJ1
      exact ⟨w, f, g, k, z1, z2, z3, z4, (ls _ (by omega) (by omega)).trans z5, (ls _ (by omega) (by omega)).trans z6, (ls _ (by omega) (by omega)).trans z7, (ls _ (by omega) (by omega)).trans z8, z9⟩
    · show C1 i = if i = x.toNat then _ else _
      by_cases q : i = x.toNat
      · subst q; rw [if_pos rfl, a1, hx, ← h2]
      · rw [if_neg q, a2 i q, h3 i hi]
    · show (if i = x.toNat then _ else _ : kU).2.2.2.2.2.2.2 ≤ _ ∧ (if i = x.toNat then _ else _ : kU).2.1 ≤ _
      by_cases q : i = x.toNat
      · rw [if_pos q, q]
        have key : ∀ (L : List kH) (u : kU), (L.foldl (tellK T.1) u).2.2.2.2.2.2.2 = u.2.2.2.2.2.2.2 + L.length ∧ (L.foldl (tellK T.1) u).2.1 = u.2.1 := by
          intro L
          induction L with
          | nil => intro u; simp
          | cons z L ih => intro u; rw [List.foldl_cons]; have := ih (tellK T.1 u z); rw [this.1, this.2]; simp [tellK]; omega
        have kk := key (scL T.1 (T.2.2.1 x.toNat) T.1.length) (page0 (T.2.2.1 x.toNat))
        have len9 : (scL T.1 (T.2.2.1 x.toNat) T.1.length).length ≤ 9 := by
          have hp9 : ∀ (i : Nat) (L : List kH) (p : Nat), L.length ≤ 9 → (scP T.1 (T.2.2.1 x.toNat) i L p).length ≤ 9 := by
            intro i L p hL9
            induction p with
            | zero => simpa [scP] using hL9
            | succ p ih =>
              rw [scP_succ]
              split
              · have := offK_len (ltH T.1 (T.2.2.1 x.toNat).1.length) (T.2.2.1 x.toNat).2.1.toNat (i, p) (scP T.1 (T.2.2.1 x.toNat) i L p); omega
              · exact ih
          have : ∀ k, (scL T.1 (T.2.2.1 x.toNat) k).length ≤ 9 := by
            intro k
            induction k with
            | zero => simp [scL]
            | succ k ih => rw [scL_succ]; exact hp9 _ _ _ ih
          exact this _
        unfold pageK
        rw [kk.1, kk.2]
        show (T.2.2.1 x.toNat).2.2.2.2.2.2.2 + _ ≤ _ ∧ (T.2.2.1 x.toNat).2.1 ≤ 9
        omega
      · rw [if_neg q]; exact b6 i hi
  · -- rewind
    simp at hw
    have q1 : isCu T.2.2.1 x = true := by cases e : isCu T.2.2.1 x with | false => simp [e] at hw | true => rfl
    obtain ⟨x0, x1, x2⟩ := isCu_spec q1
    have hx := h3 x.toNat (by omega)
    obtain ⟨M1, e1, c1, f1⟩ := cu_unmark (n := n) (hC.2 x.toNat (by omega))
    have o1 := hO.fr f1 (by omega)
    have l1 := hL.fr f1 (by omega)
    have C1 : Cv M1 a (fun j => if j = x.toNat then ((C j).1, (C j).2.1, false, (C j).2.2.2.1, (C j).2.2.2.2.1, (C j).2.2.2.2.2.1, [], 0) else C j) := by
      obtain ⟨⟨f, g1, g2⟩, g3⟩ := hC
      refine ⟨⟨f, f1.at g1 (by omega), g2⟩, fun j hj => ?_⟩
      by_cases q : j = x.toNat
      · subst q; simp only [↓reduceIte]; exact c1
      · simp only [if_neg q]; exact (g3 j hj).fr f1 (by omega)
    have q2 := st_left hn o1 l1 (u := ((C x.toNat).1, (C x.toNat).2.1, false, (C x.toNat).2.2.2.1, (C x.toNat).2.2.2.2.1, (C x.toNat).2.2.2.2.2.1, [], 0)) c1
    refine ⟨M1, ?_, ⟨F, D, cc, _, ⟨o1, l1, C1, hJ1.fr f1 (by omega), ?_⟩, h2, fun i hi => ?_, hB, by show T.2.1 ≤ _; omega, fun i hi => ?_⟩, f1.mono (by omega) (by omega)⟩
    · simp (disch := (first | assumption | (refine sm_of ?_ ?_ <;> omega) | fail)) only [iI_add, iI_sub, iI_mul, iI_neg, iI_lt, iI_le, iI_eq, b1_s, b2_s, ↓reduceIte, L0, L1, L2, L3, L4, L5, L6, L7, L8, L9, L10, L12, L20, L22, L24, L26, L27, L28, L32, L40, L60, L73, L95, L97, L222, L240, L441, L442, L622, Lm1, Lmh, pX6_carryOut, v_at hO.2.2, gi_at p1 1 rfl, gi_at p1 0 rfl, show ((6 : Int) = 0) = False by simp, show ((6 : Int) = 1) = False by simp, show ((6 : Int) = 2) = False by simp, show ((6 : Int) = 3) = False by simp, show ((6 : Int) = 4) = False by simp, show ((6 : Int) = 5) = False by simp, gr_at hO.2.2 3 rfl, hC.ra (i := x) x0 x1, e1, gr_at o1.2.2 3 rfl, C1.ra (i := x) x0 x1, q2]
      rw [← h2, hx]; simp [doK]
    · obtain ⟨u, hu⟩ := hsp
      exact ⟨u, f1.at hu (by omega)⟩
    · show (if i = x.toNat then _ else _ : kU) = if i = x.toNat then _ else _
      rw [h3 i hi]
    · show (if i = x.toNat then _ else _ : kU).2.2.2.2.2.2.2 ≤ _ ∧ (if i = x.toNat then _ else _ : kU).2.1 ≤ _
      by_cases q : i = x.toNat
      · rw [if_pos q]; have := (b6 i hi).2; simp; omega
      · rw [if_neg q]; exact b6 i hi
  · -- split
    simp at hw
    have q1 : isLn T.1 x = true := by cases e : isLn T.1 x with | false => simp [e] at hw | true => rfl
    obtain ⟨x0, x1⟩ := isLn_spec q1
    have y0 : 1 ≤ y ∧ y < (ln T.1 x).2.length ∧ cc < 10 := by
      rw [if_neg (by simp [q1])] at hw
      by_cases c1 : y < 1 ∨ ((ln T.1 x).2.length : Int) ≤ y
      · simp [c1] at hw
      · rw [if_neg c1] at hw
        by_cases c2 : T.1.length = 10
        · simp [c2] at hw
        · omega
    rw [hl] at x1
    rw [lg x x0 x1] at y0
    obtain ⟨M1, D1, e1, o1, l1, a1, k1⟩ := st_cut hn hO hL (k := x.toNat) (p := y.toNat) (by omega) y0.2.2 hn1 (by omega)
    rw [show ((x.toNat : Nat) : Int) = x by omega, show ((y.toNat : Nat) : Int) = y by omega] at e1
    have fx := hL.2.1 x.toNat (by omega)
    have fc := hL.2.1 cc y0.2.2
    have hne : F cc ≠ F x.toNat := fun q => by have := hL.2.2.1 _ _ y0.2.2 (by omega) q; omega
    refine ⟨M1, ?_, ⟨_, D1, cc + 1, C, ⟨o1, l1, k1.1 C hC, k1.2.1 _ _ hJ1, by rw [k1.2.2.1]; exact hsp⟩, ?_, h3, hB, by show T.2.1 + 1 ≤ _; omega, b6⟩, k1.2.2.2⟩
    · simp only [pX6_carryOut, v_at hO.2.2, gi_at p1 1 rfl, gi_at p1 0 rfl, b1_s]
      rw [if_neg (by decide), if_neg (by decide), if_neg (by decide), if_neg (by decide), if_neg (by decide), if_neg (by decide), if_neg (by decide), if_pos (by decide), gi_at p1 2 rfl, b1_s, e1, b2_s]
      simp [doK]
    · show insL (T.1.set x.toNat ((ln T.1 x).1, (ln T.1 x).2.take y.toNat)) (x.toNat + 1) (T.2.1, (ln T.1 x).2.drop y.toNat) = _
      rw [lns_op (D := D1) (k := x.toNat + 1) (by omega) (fun i hi => rfl), lns_set (D := D) (D' := D1) (k := x.toNat) (by omega) (fun i hi hne' => by
        have z1 : ¬ F i = F x.toNat := fun q => hne' (hL.2.2.1 _ _ (by omega) (by omega) q)
        have z2 : ¬ F i = F cc := fun q => by have := hL.2.2.1 _ _ (by omega) y0.2.2 q; omega
        rw [a1 _ (hL.2.1 i (by omega)), if_neg z1, if_neg z2]), ← h2, a1 _ fx, if_pos rfl, a1 _ fc, if_neg hne, if_pos rfl, lg x x0 x1]
  · -- join
    simp at hw
    have x0 : 0 ≤ x ∧ x + 1 < cc := by
      by_cases c1 : x < 0 ∨ (T.1.length : Int) - 1 ≤ x
      · simp [c1] at hw
      · rw [hl] at c1; omega
    have hlen : (ln T.1 x).2.length + (ln T.1 (x + 1)).2.length ≤ 20 := by
      rw [if_neg (by rw [hl]; omega)] at hw
      by_cases c2 : (20 : Int) < (ln T.1 x).2.length + (ln T.1 (x + 1)).2.length
      · simp [c2] at hw
      · omega
    have ex := lg x (by omega) (by omega)
    have ey := lg (x + 1) (by omega) (by omega)
    rw [show (x + 1).toNat = x.toNat + 1 by omega] at ey
    rw [ex, ey] at hlen
    obtain ⟨M1, D1, e1, o1, l1, a1, k1⟩ := st_unite hn hO hL (k := x.toNat) (by omega) hlen
    rw [show ((x.toNat : Nat) : Int) = x by omega] at e1
    have fx := hL.2.1 x.toNat (by omega)
    refine ⟨M1, ?_, ⟨_, D1, cc - 1, C, ⟨o1, l1, k1.1 C hC, k1.2.1 _ _ hJ1, by rw [k1.2.2.1]; exact hsp⟩, ?_, h3, hB, by show T.2.1 ≤ _; omega, b6⟩, k1.2.2.2⟩
    · simp only [pX6_carryOut, v_at hO.2.2, gi_at p1 1 rfl, gi_at p1 0 rfl, b1_s]
      rw [if_neg (by decide), if_neg (by decide), if_neg (by decide), if_neg (by decide), if_neg (by decide), if_neg (by decide), if_neg (by decide), if_neg (by decide), e1, b2_s]
      simp [doK, ex, ey]
    · show delL (T.1.set x.toNat ((ln T.1 x).1, (ln T.1 x).2 ++ (ln T.1 (x + 1)).2)) (x.toNat + 1) = _
      rw [lns_cl (by omega), lns_set (D := D) (D' := D1) (k := x.toNat) (by omega) (fun i hi hne' => by
        have z1 : ¬ F i = F x.toNat := fun q => hne' (hL.2.2.1 _ _ (by omega) (by omega) q)
        rw [a1 _ (hL.2.1 i (by omega)), if_neg z1]), ← h2, a1 _ fx, if_pos rfl, ex, ey]
