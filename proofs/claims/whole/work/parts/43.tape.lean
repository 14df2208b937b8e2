/-! the tape and its reading -/
def skp (tp : List Int) (i : Nat) : Nat := i + ((tp.drop i).takeWhile (fun x => x == 32)).length
def pk (tp : List Int) (i : Nat) : Int := atL tp (skp tp i)
theorem skp_b {tp : List Int} {i : Nat} (h : i < tp.length) (hb : tp.getD i 0 = 32) : skp tp i = skp tp (i + 1) := by
  unfold skp
  rw [getD_of h] at hb
  rw [List.drop_eq_getElem_cons h, List.takeWhile_cons, hb]
  simp; omega
theorem skp_n {tp : List Int} {i : Nat} (h : ¬ (i < tp.length ∧ tp.getD i 0 = 32)) : skp tp i = i := by
  unfold skp
  by_cases c : i < tp.length
  · have hb : ¬ tp.getD i 0 = 32 := fun q => h ⟨c, q⟩
    rw [getD_of c] at hb
    rw [List.drop_eq_getElem_cons c, List.takeWhile_cons]
    simp [hb]
  · rw [List.drop_eq_nil_of_le (by omega)]; simp
theorem skp_ge (tp : List Int) (i : Nat) : i ≤ skp tp i := by unfold skp; omega
theorem skp_le {tp : List Int} {i : Nat} (h : i ≤ tp.length) : skp tp i ≤ tp.length := by
  unfold skp
  have := (List.takeWhile_prefix (fun x => x == 32) (l := tp.drop i)).length_le
  simp at this
  omega
theorem skp_end {tp : List Int} {i : Nat} : ¬ (skp tp i < tp.length ∧ tp.getD (skp tp i) 0 = 32) := by
  suffices H : ∀ k i, tp.length - i = k → ¬ (skp tp i < tp.length ∧ tp.getD (skp tp i) 0 = 32) from H _ i rfl
  intro k
  induction k with
  | zero =>
    intro i hi
    have := skp_ge tp i
    intro h; omega
  | succ k ih =>
    intro i hi
    by_cases c : i < tp.length ∧ tp.getD i 0 = 32
    · rw [skp_b c.1 c.2]; exact ih (i + 1) (by omega)
    · rw [skp_n c]; exact c
theorem skp_skp (tp : List Int) (i : Nat) : skp tp (skp tp i) = skp tp i := skp_n skp_end
theorem pk_skp (tp : List Int) (i : Nat) : pk tp (skp tp i) = pk tp i := by unfold pk; rw [skp_skp]
theorem pk_bd {tp : List Int} (h : bd tp) (i : Nat) : -1 ≤ pk tp i ∧ pk tp i < 256 := by
  unfold pk atL
  split
  · have := h.get (i := ((skp tp i : Nat) : Int).toNat) (by omega); omega
  · omega
theorem tpk_lt {tp : List Int} {i : Nat} (h : pk tp i ≠ -1) : skp tp i < tp.length := by
  unfold pk atL at h
  split at h
  · omega
  · exact absurd rfl h
def Tp (M : mm_M) (a : Nat) (tp : List Int) (i : Nat) : Prop := tp.length ≤ 240 ∧ bd tp ∧ i ≤ tp.length ∧ M.2 a = some (mm_ob 8 [.ref (a + 1), .int (iI tp.length), .int (iI i)]) ∧ ∃ f : Nat → Int32, M.2 (a + 1) = some (mm_ai 240 f) ∧ ∀ j, j < tp.length → f j = iI (tp.getD j 0)
theorem Tp.fr {M M' : mm_M} {a b k : Nat} {tp : List Int} {i : Nat} (h : Tp M a tp i) (hf : fr M M' b k) (hd : a + 2 ≤ b ∨ b + k ≤ a) : Tp M' a tp i := by
  obtain ⟨h1, h2, h3, h4, f, h5, h6⟩ := h
  exact ⟨h1, h2, h3, hf.at h4 (by omega), f, hf.at h5 (by omega), h6⟩
theorem tp_mv {M : mm_M} {a : Nat} {tp : List Int} {i : Nat} (h : Tp M a tp i) {j : Nat} (hj : j ≤ tp.length) : ∃ M', mm_pi 8 2 M a (iI j) = some M' ∧ Tp M' a tp j ∧ fr M M' a 1 := by
  obtain ⟨h1, h2, h3, h4, f, h5, h6⟩ := h
  obtain ⟨M1, e1, s1, f1⟩ := pi_ex h4 2 (iI j)
  exact ⟨M1, e1, ⟨h1, h2, hj, s1, f, f1.at h5 (by omega), h6⟩, f1⟩
theorem tp_pk38 {n : Nat} {M : mm_M} {a : Nat} {tp : List Int} {i : Nat} (h : Tp M a tp i) : pX8_peek_b38 n M a = some (iI (atL tp i), M) := by
  obtain ⟨h1, h2, h3, h4, f, h5, h6⟩ := h
  unfold atL
  simp (disch := (first | assumption | (refine sm_of ?_ ?_ <;> omega) | fail)) only [iI_add, iI_sub, iI_mul, iI_neg, iI_lt, iI_le, iI_eq, b1_s, b2_s, ↓reduceIte, L0, L1, L2, L3, L4, L5, L6, L7, L8, L9, L10, L12, L20, L22, L24, L26, L27, L28, L32, L40, L60, L73, L95, L97, L222, L240, L441, L442, L622, Lm1, Lmh, pX8_peek_b38, gi_at h4 2 rfl, gi_at h4 1 rfl, gr_at h4 0 rfl]
  by_cases c : (tp.length : Int) ≤ i
  · rw [if_pos c, if_neg (by omega)]
  · rw [if_neg c, if_pos (by omega), ia_at h5 (by omega) (by omega) (sm_of (by omega) (by omega)), b1_s, h6 _ (by omega)]
theorem tp_pkl {n : Nat} {a : Nat} {tp : List Int} : ∀ (k i : Nat) (M : mm_M), Tp M a tp i → tp.length < i + k → ∃ M', pX8_peek_l0 n k M a = some (iI (pk tp i), M') ∧ Tp M' a tp (skp tp i) ∧ fr M M' a 1 := by
  intro k
  induction k with
  | zero => intro i M h hk; have := h.2.2.1; omega
  | succ k ih =>
    intro i M h hk
    have hh := h
    have q := tp_pk38 (n := n) h
    obtain ⟨h1, h2, h3, h4, f, h5, h6⟩ := h
    by_cases c : i < tp.length ∧ tp.getD i 0 = 32
    · have e := ia_at h5 (i := i) (by omega) (by omega) (sm_of (by omega) (by omega))
      rw [h6 _ (by omega), show ((i : Int)).toNat = i by omega, c.2] at e
      obtain ⟨M1, e1, t1, f1⟩ := tp_mv hh (j := i + 1) (by omega)
      obtain ⟨M2, e2, t2, f2⟩ := ih (i + 1) M1 t1 (by omega)
      have p1 : pk tp i = pk tp (i + 1) := by unfold pk; rw [skp_b c.1 c.2]
      rw [p1, skp_b c.1 c.2]
      refine ⟨M2, ?_, t2, f1.trans f2⟩
      show pX8_peek_l0b n (pX8_peek_l0 n k) M a = _
      rw [show (((i + 1 : Nat)) : Int) = (i : Int) + 1 by omega] at e1
      simp (disch := (first | assumption | (refine sm_of ?_ ?_ <;> omega) | fail)) only [iI_add, iI_sub, iI_mul, iI_neg, iI_lt, iI_le, iI_eq, b1_s, b2_s, ↓reduceIte, L0, L1, L2, L3, L4, L5, L6, L7, L8, L9, L10, L12, L20, L22, L24, L26, L27, L28, L32, L40, L60, L73, L95, L97, L222, L240, L441, L442, L622, Lm1, Lmh, pX8_peek_l0b, gi_at h4 2 rfl, gi_at h4 1 rfl, gr_at h4 0 rfl, show ¬ (tp.length : Int) ≤ i by omega, e, e1, e2]
    · have p1 : pk tp i = atL tp i := by unfold pk; rw [skp_n c]
      rw [p1, skp_n c]
      refine ⟨M, ?_, hh, fr.rfl⟩
      show pX8_peek_l0b n (pX8_peek_l0 n k) M a = _
      by_cases d : (tp.length : Int) ≤ i
      · simp (disch := (first | assumption | (refine sm_of ?_ ?_ <;> omega) | fail)) only [iI_add, iI_sub, iI_mul, iI_neg, iI_lt, iI_le, iI_eq, b1_s, b2_s, ↓reduceIte, L0, L1, L2, L3, L4, L5, L6, L7, L8, L9, L10, L12, L20, L22, L24, L26, L27, L28, L32, L40, L60, L73, L95, L97, L222, L240, L441, L442, L622, Lm1, Lmh, pX8_peek_l0b, gi_at h4 2 rfl, gi_at h4 1 rfl, gr_at h4 0 rfl, d, q]
      · have e := ia_at h5 (i := i) (by omega) (by omega) (sm_of (by omega) (by omega))
        rw [h6 _ (by omega), show ((i : Int)).toNat = i by omega] at e
        have b := h2.get (i := i) (by omega)
        simp (disch := (first | assumption | (refine sm_of ?_ ?_ <;> omega) | fail)) only [iI_add, iI_sub, iI_mul, iI_neg, iI_lt, iI_le, iI_eq, b1_s, b2_s, ↓reduceIte, L0, L1, L2, L3, L4, L5, L6, L7, L8, L9, L10, L12, L20, L22, L24, L26, L27, L28, L32, L40, L60, L73, L95, L97, L222, L240, L441, L442, L622, Lm1, Lmh, pX8_peek_l0b, gi_at h4 2 rfl, gi_at h4 1 rfl, gr_at h4 0 rfl, d, e, show ¬ tp.getD i 0 = 32 from fun z => c ⟨by omega, z⟩, q]
theorem tp_peek {n : Nat} (hn : 300 ≤ n) {M : mm_M} {a : Nat} {tp : List Int} {i : Nat} (h : Tp M a tp i) : ∃ M', pX8_peek n M a = some (iI (pk tp i), M') ∧ Tp M' a tp (skp tp i) ∧ fr M M' a 1 := by
  have := h.1
  obtain ⟨M', e, t, f⟩ := tp_pkl (n := n) n i M h (by omega)
  exact ⟨M', by simp only [pX8_peek, v_at h.2.2.2.1]; exact e, t, f⟩
/-- a second look changes nothing -/
theorem tp_peek2 {n : Nat} (hn : 300 ≤ n) {M : mm_M} {a : Nat} {tp : List Int} {i : Nat} (h : Tp M a tp (skp tp i)) : pX8_peek n M a = some (iI (pk tp i), M) := by
  have hk : ¬ (skp tp i < tp.length ∧ tp.getD (skp tp i) 0 = 32) := skp_end
  have l := h.1
  have q := tp_pk38 (n := n) h
  have h4 := h.2.2.2.1
  simp only [pX8_peek, v_at h4]
  obtain ⟨k, rfl⟩ : ∃ k, n = k + 1 := ⟨n - 1, by omega⟩
  show pX8_peek_l0b _ (pX8_peek_l0 _ k) M a = _
  obtain ⟨h1, h2, h3, h4, f, h5, h6⟩ := h
  by_cases d : (tp.length : Int) ≤ skp tp i
  · simp (disch := (first | assumption | (refine sm_of ?_ ?_ <;> omega) | fail)) only [iI_add, iI_sub, iI_mul, iI_neg, iI_lt, iI_le, iI_eq, b1_s, b2_s, ↓reduceIte, L0, L1, L2, L3, L4, L5, L6, L7, L8, L9, L10, L12, L20, L22, L24, L26, L27, L28, L32, L40, L60, L73, L95, L97, L222, L240, L441, L442, L622, Lm1, Lmh, pX8_peek_l0b, gi_at h4 2 rfl, gi_at h4 1 rfl, gr_at h4 0 rfl, d, q, pk]
  · have e := ia_at h5 (i := skp tp i) (by omega) (by omega) (sm_of (by omega) (by omega))
    rw [h6 _ (by omega), show ((skp tp i : Nat) : Int).toNat = skp tp i by omega] at e
    have b := h2.get (i := skp tp i) (by omega)
    simp (disch := (first | assumption | (refine sm_of ?_ ?_ <;> omega) | fail)) only [iI_add, iI_sub, iI_mul, iI_neg, iI_lt, iI_le, iI_eq, b1_s, b2_s, ↓reduceIte, L0, L1, L2, L3, L4, L5, L6, L7, L8, L9, L10, L12, L20, L22, L24, L26, L27, L28, L32, L40, L60, L73, L95, L97, L222, L240, L441, L442, L622, Lm1, Lmh, pX8_peek_l0b, gi_at h4 2 rfl, gi_at h4 1 rfl, gr_at h4 0 rfl, d, e, show ¬ tp.getD (skp tp i) 0 = 32 from fun z => hk ⟨by omega, z⟩, q, pk]
def isSg (b : Int) : Bool := decide (b = 95 ∨ (97 ≤ b ∧ b ≤ 122))
theorem tp_sign {n : Nat} {M : mm_M} {b : Int} (h : -1 ≤ b ∧ b < 256) : pX8_isSign n M (iI b) = some (bI (isSg b), M) := by
  have L122 : (122 : Int32) = iI 122 := by decide
  unfold isSg
  simp (disch := (first | assumption | (refine sm_of ?_ ?_ <;> omega) | fail)) only [iI_add, iI_sub, iI_mul, iI_neg, iI_lt, iI_le, iI_eq, b1_s, b2_s, ↓reduceIte, L0, L1, L2, L3, L4, L5, L6, L7, L8, L9, L10, L12, L20, L22, L24, L26, L27, L28, L32, L40, L60, L73, L95, L97, L222, L240, L441, L442, L622, Lm1, Lmh, pX8_isSign, L122]
  by_cases c1 : b = 95
  · simp [c1, bI]
  · by_cases c2 : b < 97
    · simp [c1, c2, bI, show ¬ (97 ≤ b) by omega]
    · by_cases c3 : 122 < b
      · simp [c1, c2, c3, bI, show ¬ (b ≤ 122) by omega]
      · simp [c1, c2, c3, bI, show (97 ≤ b) by omega, show b ≤ 122 by omega]
/-- reads at most so many signs -/
def rds (tp : List Int) : Nat → Nat → List Int × Nat
  | 0, i => ([], i)
  | m + 1, i => if isSg (pk tp i) = true then (pk tp i :: (rds tp m (skp tp i + 1)).1, (rds tp m (skp tp i + 1)).2) else ([], skp tp i)
theorem isSg_lt {tp : List Int} {i : Nat} (h : isSg (pk tp i) = true) : skp tp i < tp.length := tpk_lt (fun q => by rw [q] at h; exact absurd h (by decide))
theorem rds_le {tp : List Int} (m i : Nat) (h : i ≤ tp.length) : (rds tp m i).2 ≤ tp.length ∧ i ≤ (rds tp m i).2 ∧ (rds tp m i).1.length ≤ m := by
  induction m generalizing i with
  | zero => simp [rds]; exact h
  | succ m ih =>
    simp only [rds]
    have := skp_ge tp i
    have := skp_le h
    split
    · rename_i c
      have := isSg_lt c
      have := ih (skp tp i + 1) (by omega)
      simp; omega
    · simp; omega
theorem tp_rdl {n : Nat} (hn : 300 ≤ n) {a s : Nat} {tp : List Int} (hd : a + 2 ≤ s ∨ s + 2 ≤ a) {most : Nat} (hm : most ≤ 20) : ∀ (k m i : Nat) (xs : List Int) (M : mm_M), Tp M a tp i → Sg M s xs → xs.length + m = most → m < k → ∃ M', pX8_readSigns_l7 n k M a s (iI most) (iI xs.length) = some (bI (decide (xs ++ (rds tp m i).1 ≠ [])), M') ∧ Tp M' a tp (rds tp m i).2 ∧ Sg M' s (xs ++ (rds tp m i).1) ∧ M'.1 = M.1 ∧ ∀ q, (q < a ∨ a + 2 ≤ q) → (q < s ∨ s + 2 ≤ q) → M'.2 q = M.2 q := by
  intro k
  induction k with
  | zero => intro m i xs M h g hx hk; omega
  | succ k ih =>
    intro m i xs M h g hx hk
    have b46 : ∀ (M : mm_M) (ys : List Int), Sg M s ys → pX8_readSigns_b46 n M s = some (bI (decide (ys ≠ [])), M) := by
      intro M ys hy
      have := hy.1
      simp (disch := (first | assumption | (refine sm_of ?_ ?_ <;> omega) | fail)) only [iI_add, iI_sub, iI_mul, iI_neg, iI_lt, iI_le, iI_eq, b1_s, b2_s, ↓reduceIte, L0, L1, L2, L3, L4, L5, L6, L7, L8, L9, L10, L12, L20, L22, L24, L26, L27, L28, L32, L40, L60, L73, L95, L97, L222, L240, L441, L442, L622, Lm1, Lmh, pX8_readSigns_b46, gi_at hy.2.2.1 1 rfl]
      cases ys with
      | nil => simp [bI]
      | cons y ys => simp [bI]; omega
    have lg := g.1
    show ∃ M', pX8_readSigns_l7b n (pX8_readSigns_l7 n k) M a s (iI most) (iI xs.length) = _ ∧ _
    cases m with
    | zero =>
      refine ⟨M, ?_, by simp [rds]; exact h, by simp [rds]; exact g, rfl, fun _ _ _ => rfl⟩
      simp (disch := (first | assumption | (refine sm_of ?_ ?_ <;> omega) | fail)) only [iI_add, iI_sub, iI_mul, iI_neg, iI_lt, iI_le, iI_eq, b1_s, b2_s, ↓reduceIte, L0, L1, L2, L3, L4, L5, L6, L7, L8, L9, L10, L12, L20, L22, L24, L26, L27, L28, L32, L40, L60, L73, L95, L97, L222, L240, L441, L442, L622, Lm1, Lmh, pX8_readSigns_l7b, show (most : Int) ≤ xs.length by omega, b46 M xs g]
      simp [rds]
    | succ m =>
      obtain ⟨M1, e1, t1, f1⟩ := tp_peek hn h
      have g1 := g.fr f1 (by omega)
      have bp := pk_bd h.2.1 i
      by_cases c : isSg (pk tp i) = true
      · have lt := isSg_lt c
        have e2 := tp_peek2 hn t1
        have b2 : 0 ≤ pk tp i ∧ pk tp i < 256 := by
          refine ⟨?_, bp.2⟩
          unfold isSg at c; simp at c; omega
        obtain ⟨M2, e3, g2, f2⟩ := sg_add (n := n) g1 (by omega) b2
        have t2 := t1.fr f2 (by omega)
        obtain ⟨M3, e4, t3, f3⟩ := tp_mv t2 (j := skp tp i + 1) (by omega)
        have g3' := g2.fr f3 (by omega)
        obtain ⟨M4, e5, t4, g4, k1, k2⟩ := ih m (skp tp i + 1) (xs ++ [pk tp i]) M3 t3 g3' (by simp; omega) (by omega)
        have er : (rds tp (m + 1) i) = (pk tp i :: (rds tp m (skp tp i + 1)).1, (rds tp m (skp tp i + 1)).2) := by simp only [rds]; rw [if_pos c]
        rw [er]
        refine ⟨M4, ?_, t4, by simpa using g4, ?_, ?_⟩
        · rw [show ((skp tp i + 1 : Nat) : Int) = (skp tp i : Int) + 1 by omega] at e4
          rw [show ((xs ++ [pk tp i]).length : Int) = (xs.length : Int) + 1 by simp] at e5
          simp (disch := (first | assumption | (refine sm_of ?_ ?_ <;> omega) | fail)) only [iI_add, iI_sub, iI_mul, iI_neg, iI_lt, iI_le, iI_eq, b1_s, b2_s, ↓reduceIte, L0, L1, L2, L3, L4, L5, L6, L7, L8, L9, L10, L12, L20, L22, L24, L26, L27, L28, L32, L40, L60, L73, L95, L97, L222, L240, L441, L442, L622, Lm1, Lmh, pX8_readSigns_l7b, show ¬ (most : Int) ≤ xs.length by omega, e1, tp_sign bp, bI_0, c, Bool.true_eq_false, e2, e3, gi_at t2.2.2.2.1 2 rfl, e4, e5]
          simp
        · rw [k1, f3.1, f2.1, f1.1]
        · intro q h1 h2
          rw [k2 q h1 h2, f3.2 q (by omega), f2.2 q (by omega), f1.2 q (by omega)]
      · have er : (rds tp (m + 1) i) = ([], skp tp i) := by simp only [rds]; rw [if_neg c]
        rw [er]
        refine ⟨M1, ?_, t1, by simpa using g1, f1.1, fun q h1 h2 => f1.2 q (by omega)⟩
        have c' : isSg (pk tp i) = false := by simpa using c
        simp (disch := (first | assumption | (refine sm_of ?_ ?_ <;> omega) | fail)) only [iI_add, iI_sub, iI_mul, iI_neg, iI_lt, iI_le, iI_eq, b1_s, b2_s, ↓reduceIte, L0, L1, L2, L3, L4, L5, L6, L7, L8, L9, L10, L12, L20, L22, L24, L26, L27, L28, L32, L40, L60, L73, L95, L97, L222, L240, L441, L442, L622, Lm1, Lmh, pX8_readSigns_l7b, show ¬ (most : Int) ≤ xs.length by omega, e1, tp_sign bp, bI_0, c', b46 M1 xs g1]
        simp
theorem tp_read {n : Nat} (hn : 300 ≤ n) {M : mm_M} {a s : Nat} {tp xs : List Int} {i : Nat} (hd : a + 2 ≤ s ∨ s + 2 ≤ a) (h : Tp M a tp i) (g : Sg M s xs) {most : Nat} (hm : most ≤ 20) : ∃ M', pX8_readSigns n M a s (iI most) = some (bI (decide ((rds tp most i).1 ≠ [])), M') ∧ Tp M' a tp (rds tp most i).2 ∧ Sg M' s (rds tp most i).1 ∧ M'.1 = M.1 ∧ ∀ q, (q < a ∨ a + 2 ≤ q) → (q < s ∨ s + 2 ≤ q) → M'.2 q = M.2 q := by
  obtain ⟨M1, e1, s1, f1⟩ := pi_ex g.2.2.1 1 (iI 0)
  have g1 := sg_zero g s1 f1
  obtain ⟨M2, e2, t2, g2, k1, k2⟩ := tp_rdl (n := n) hn hd hm n most i [] M1 (h.fr f1 (by omega)) g1 (by simp) (by omega)
  refine ⟨M2, ?_, t2, by simpa using g2, k1.trans f1.1, fun q h1 h2 => (k2 q h1 h2).trans (f1.2 q (by omega))⟩
  have e2 : pX8_readSigns_l7 n n M1 a s (iI most) (iI 0) = _ := e2
  simp (disch := (first | assumption | (refine sm_of ?_ ?_ <;> omega) | fail)) only [iI_add, iI_sub, iI_mul, iI_neg, iI_lt, iI_le, iI_eq, b1_s, b2_s, ↓reduceIte, L0, L1, L2, L3, L4, L5, L6, L7, L8, L9, L10, L12, L20, L22, L24, L26, L27, L28, L32, L40, L60, L73, L95, L97, L222, L240, L441, L442, L622, Lm1, Lmh, pX8_readSigns, v_at h.2.2.2.1, e1]
  rw [e2]; simp
/-- a line or a word alone on the tape: its signs, and where it goes wrong (-1: nowhere) -/
def rowF (tp : List Int) (most : Nat) : Int := if (rds tp most 0).1 = [] then (rds tp most 0).2 else if pk tp (rds tp most 0).2 = -1 then -1 else skp tp (rds tp most 0).2
theorem tp_row {n : Nat} (hn : 300 ≤ n) {M : mm_M} {a s : Nat} {tp xs : List Int} {i : Nat} (hd : a + 2 ≤ s ∨ s + 2 ≤ a) (h : Tp M a tp i) (g : Sg M s xs) {most : Nat} (hm : most ≤ 20) : ∃ M' j, pX8_rowFault n M a s (iI most) = some (iI (rowF tp most), M') ∧ Tp M' a tp j ∧ Sg M' s (rds tp most 0).1 ∧ M'.1 = M.1 ∧ ∀ q, (q < a ∨ a + 2 ≤ q) → (q < s ∨ s + 2 ≤ q) → M'.2 q = M.2 q := by
  obtain ⟨M1, e1, t1, f1⟩ := tp_mv h (j := 0) (by omega)
  have e1 : mm_pi 8 2 M a (iI 0) = some M1 := e1
  obtain ⟨M2, e2, t2, g2, k1, k2⟩ := tp_read hn hd t1 (g.fr f1 (by omega)) hm
  unfold rowF
  by_cases c : (rds tp most 0).1 = []
  · refine ⟨M2, _, ?_, t2, g2, k1.trans f1.1, fun q h1 h2 => (k2 q h1 h2).trans (f1.2 q (by omega))⟩
    rw [if_pos c]
    simp (disch := (first | assumption | (refine sm_of ?_ ?_ <;> omega) | fail)) only [iI_add, iI_sub, iI_mul, iI_neg, iI_lt, iI_le, iI_eq, b1_s, b2_s, ↓reduceIte, L0, L1, L2, L3, L4, L5, L6, L7, L8, L9, L10, L12, L20, L22, L24, L26, L27, L28, L32, L40, L60, L73, L95, L97, L222, L240, L441, L442, L622, Lm1, Lmh, pX8_rowFault, v_at h.2.2.2.1, e1, e2, c, bI_0, ne_eq, not_true_eq_false, decide_false, gi_at t2.2.2.2.1 2 rfl]
  · obtain ⟨M3, e3, t3, f3⟩ := tp_peek hn t2
    have bp := pk_bd h.2.1 (rds tp most 0).2
    refine ⟨M3, _, ?_, t3, g2.fr f3 (by omega), f3.1.trans (k1.trans f1.1), fun q h1 h2 => (f3.2 q (by omega)).trans ((k2 q h1 h2).trans (f1.2 q (by omega)))⟩
    rw [if_neg c]
    simp (disch := (first | assumption | (refine sm_of ?_ ?_ <;> omega) | fail)) only [iI_add, iI_sub, iI_mul, iI_neg, iI_lt, iI_le, iI_eq, b1_s, b2_s, ↓reduceIte, L0, L1, L2, L3, L4, L5, L6, L7, L8, L9, L10, L12, L20, L22, L24, L26, L27, L28, L32, L40, L60, L73, L95, L97, L222, L240, L441, L442, L622, Lm1, Lmh, pX8_rowFault, v_at h.2.2.2.1, e1, e2, c, bI_0, ne_eq, not_false_eq_true, decide_true, Bool.true_eq_false, e3, gi_at t3.2.2.2.1 2 rfl]
    by_cases d : pk tp (rds tp most 0).2 = -1
    · simp [d]
    · simp [d]
theorem tp_skip {n : Nat} (hn : 300 ≤ n) {M : mm_M} {a : Nat} {tp : List Int} {i : Nat} (h : Tp M a tp i) {c : Int} (hc : 0 ≤ c ∧ c < 256) : ∃ M', pX8_skip n M a (iI c) = some (bI (decide (pk tp i = c)), M') ∧ Tp M' a tp (if pk tp i = c then skp tp i + 1 else skp tp i) ∧ fr M M' a 1 := by
  obtain ⟨M1, e1, t1, f1⟩ := tp_peek hn h
  have bp := pk_bd h.2.1 i
  by_cases d : pk tp i = c
  · have lt := tpk_lt (tp := tp) (i := i) (by omega)
    obtain ⟨M2, e2, t2, f2⟩ := tp_mv t1 (j := skp tp i + 1) (by omega)
    rw [show ((skp tp i + 1 : Nat) : Int) = (skp tp i : Int) + 1 by omega] at e2
    refine ⟨M2, ?_, by rw [if_pos d]; exact t2, f1.trans f2⟩
    simp (disch := (first | assumption | (refine sm_of ?_ ?_ <;> omega) | fail)) only [iI_add, iI_sub, iI_mul, iI_neg, iI_lt, iI_le, iI_eq, b1_s, b2_s, ↓reduceIte, L0, L1, L2, L3, L4, L5, L6, L7, L8, L9, L10, L12, L20, L22, L24, L26, L27, L28, L32, L40, L60, L73, L95, L97, L222, L240, L441, L442, L622, Lm1, Lmh, pX8_skip, v_at h.2.2.2.1, e1, d, gi_at t1.2.2.2.1 2 rfl, e2]
    simp [bI]
  · refine ⟨M1, ?_, by rw [if_neg d]; exact t1, f1⟩
    simp (disch := (first | assumption | (refine sm_of ?_ ?_ <;> omega) | fail)) only [iI_add, iI_sub, iI_mul, iI_neg, iI_lt, iI_le, iI_eq, b1_s, b2_s, ↓reduceIte, L0, L1, L2, L3, L4, L5, L6, L7, L8, L9, L10, L12, L20, L22, L24, L26, L27, L28, L32, L40, L60, L73, L95, L97, L222, L240, L441, L442, L622, Lm1, Lmh, pX8_skip, v_at h.2.2.2.1, e1, d]
    simp [bI]
def isDg (b : Int) : Bool := decide (48 ≤ b ∧ b ≤ 57)
theorem tp_pkdig {n : Nat} (hn : 300 ≤ n) {M : mm_M} {a : Nat} {tp : List Int} {i : Nat} (h : Tp M a tp i) : ∃ M', pX8_peekDigit n M a = some (bI (isDg (pk tp i)), M') ∧ Tp M' a tp (skp tp i) ∧ fr M M' a 1 := by
  obtain ⟨M1, e1, t1, f1⟩ := tp_peek hn h
  have bp := pk_bd h.2.1 i
  have e2 := tp_peek2 hn t1
  have L48 : (48 : Int32) = iI 48 := by decide
  have L57 : (57 : Int32) = iI 57 := by decide
  refine ⟨M1, ?_, t1, f1⟩
  unfold isDg
  simp (disch := (first | assumption | (refine sm_of ?_ ?_ <;> omega) | fail)) only [iI_add, iI_sub, iI_mul, iI_neg, iI_lt, iI_le, iI_eq, b1_s, b2_s, ↓reduceIte, L0, L1, L2, L3, L4, L5, L6, L7, L8, L9, L10, L12, L20, L22, L24, L26, L27, L28, L32, L40, L60, L73, L95, L97, L222, L240, L441, L442, L622, Lm1, Lmh, pX8_peekDigit, v_at h.2.2.2.1, e1, e2, L48, L57]
  by_cases c1 : pk tp i < 48
  · simp [c1, bI, show ¬ (48 ≤ pk tp i) by omega]
  · by_cases c2 : 57 < pk tp i
    · simp [c1, c2, bI, show ¬ (pk tp i ≤ 57) by omega]
    · simp [c1, c2, bI, show 48 ≤ pk tp i by omega, show pk tp i ≤ 57 by omega]
theorem tp_rddig {n : Nat} (hn : 300 ≤ n) {M : mm_M} {a : Nat} {tp : List Int} {i : Nat} (h : Tp M a tp i) (hd : isDg (pk tp i) = true) : ∃ M', pX8_readDigit n M a = some (iI (pk tp i - 48), M') ∧ Tp M' a tp (skp tp i + 1) ∧ fr M M' a 1 := by
  obtain ⟨M1, e1, t1, f1⟩ := tp_peek hn h
  have bp := pk_bd h.2.1 i
  unfold isDg at hd
  simp at hd
  have lt := tpk_lt (tp := tp) (i := i) (by omega)
  obtain ⟨M2, e2, t2, f2⟩ := tp_mv t1 (j := skp tp i + 1) (by omega)
  rw [show ((skp tp i + 1 : Nat) : Int) = (skp tp i : Int) + 1 by omega] at e2
  have L48 : (48 : Int32) = iI 48 := by decide
  refine ⟨M2, ?_, t2, f1.trans f2⟩
  simp (disch := (first | assumption | (refine sm_of ?_ ?_ <;> omega) | fail)) only [iI_add, iI_sub, iI_mul, iI_neg, iI_lt, iI_le, iI_eq, b1_s, b2_s, ↓reduceIte, L0, L1, L2, L3, L4, L5, L6, L7, L8, L9, L10, L12, L20, L22, L24, L26, L27, L28, L32, L40, L60, L73, L95, L97, L222, L240, L441, L442, L622, Lm1, Lmh, pX8_readDigit, v_at h.2.2.2.1, e1, gi_at t1.2.2.2.1 2 rfl, e2, L48]
def srt (b : Int) : Int := if b = 98 then 7 else if b = 99 then 4 else if b = 100 then 2 else if b = 105 then 1 else if b = 106 then 8 else if b = 112 then 5 else if b = 114 then 0 else if b = 115 then 3 else if b = 119 then 6 else -1
theorem srt_bd (b : Int) : -1 ≤ srt b ∧ srt b ≤ 8 := by unfold srt; repeat' split <;> omega
theorem tp_sort {n : Nat} {M : mm_M} {b : Int} (h : -1 ≤ b ∧ b < 256) : pX8_sortOf n M (iI b) = some (iI (srt b), M) := by
  have l1 : (98 : Int32) = iI 98 := by decide
  have l2 : (99 : Int32) = iI 99 := by decide
  have l3 : (100 : Int32) = iI 100 := by decide
  have l4 : (105 : Int32) = iI 105 := by decide
  have l5 : (106 : Int32) = iI 106 := by decide
  have l6 : (112 : Int32) = iI 112 := by decide
  have l7 : (114 : Int32) = iI 114 := by decide
  have l8 : (115 : Int32) = iI 115 := by decide
  have l9 : (119 : Int32) = iI 119 := by decide
  unfold srt
  simp (disch := (first | assumption | (refine sm_of ?_ ?_ <;> omega) | fail)) only [iI_add, iI_sub, iI_mul, iI_neg, iI_lt, iI_le, iI_eq, b1_s, b2_s, ↓reduceIte, L0, L1, L2, L3, L4, L5, L6, L7, L8, L9, L10, L12, L20, L22, L24, L26, L27, L28, L32, L40, L60, L73, L95, L97, L222, L240, L441, L442, L622, Lm1, Lmh, pX8_sortOf, l1, l2, l3, l4, l5, l6, l7, l8, l9]
  by_cases c98 : b = 98
  · rw [if_pos c98, if_pos c98]
  · rw [if_neg c98, if_neg c98]
    by_cases c99 : b = 99
    · rw [if_pos c99, if_pos c99]
    · rw [if_neg c99, if_neg c99]
      by_cases c100 : b = 100
      · rw [if_pos c100, if_pos c100]
      · rw [if_neg c100, if_neg c100]
        by_cases c105 : b = 105
        · rw [if_pos c105, if_pos c105]
        · rw [if_neg c105, if_neg c105]
          by_cases c106 : b = 106
          · rw [if_pos c106, if_pos c106]
          · rw [if_neg c106, if_neg c106]
            by_cases c112 : b = 112
            · rw [if_pos c112, if_pos c112]
            · rw [if_neg c112, if_neg c112]
              by_cases c114 : b = 114
              · rw [if_pos c114, if_pos c114]
              · rw [if_neg c114, if_neg c114]
                by_cases c115 : b = 115
                · rw [if_pos c115, if_pos c115]
                · rw [if_neg c115, if_neg c115]
                  by_cases c119 : b = 119
                  · rw [if_pos c119, if_pos c119]
                  · rw [if_neg c119, if_neg c119]
