/-! the class: the tape fed and read -/
/-- the tape between calls: where it was read to is open -/
def TpR (M : mm_M) (a : Nat) (tp : List Int) : Prop := tp.length ≤ 240 ∧ bd tp ∧ (∃ v, M.2 a = some (mm_ob 8 [.ref (a + 1), .int (iI tp.length), .int v])) ∧ ∃ f : Nat → Int32, M.2 (a + 1) = some (mm_ai 240 f) ∧ ∀ j, j < tp.length → f j = iI (tp.getD j 0)
theorem TpR.fr {M M' : mm_M} {a b k : Nat} {tp : List Int} (h : TpR M a tp) (hf : fr M M' b k) (hd : a + 2 ≤ b ∨ b + k ≤ a) : TpR M' a tp := by
  obtain ⟨h1, h2, ⟨v, h3⟩, f, h5, h6⟩ := h
  exact ⟨h1, h2, ⟨v, hf.at h3 (by omega)⟩, f, hf.at h5 (by omega), h6⟩
theorem Tp.r {M : mm_M} {a : Nat} {tp : List Int} {i : Nat} (h : Tp M a tp i) : TpR M a tp := ⟨h.1, h.2.1, ⟨_, h.2.2.2.1⟩, h.2.2.2.2⟩
theorem tr_at {M : mm_M} {a : Nat} {tp : List Int} (h : TpR M a tp) : ∃ M', mm_pi 8 2 M a (iI 0) = some M' ∧ Tp M' a tp 0 ∧ fr M M' a 1 := by
  obtain ⟨h1, h2, ⟨v, h3⟩, f, h5, h6⟩ := h
  obtain ⟨M1, e1, s1, f1⟩ := pi_ex h3 2 (iI 0)
  exact ⟨M1, e1, ⟨h1, h2, by omega, s1, f, f1.at h5 (by omega), h6⟩, f1⟩
theorem tr_cut {M : mm_M} {a : Nat} {tp : List Int} (h : TpR M a tp) {k : Nat} (hk : k ≤ tp.length) : ∃ M', mm_pi 8 1 M a (iI k) = some M' ∧ TpR M' a (tp.take k) ∧ fr M M' a 1 := by
  obtain ⟨h1, h2, ⟨v, h3⟩, f, h5, h6⟩ := h
  obtain ⟨M1, e1, s1, f1⟩ := pi_ex h3 1 (iI k)
  refine ⟨M1, e1, ⟨by simp; omega, fun x hx => h2 x (List.mem_of_mem_take hx), ⟨v, ?_⟩, f, f1.at h5 (by omega), fun j hj => ?_⟩, f1⟩
  · rw [s1]; simp [Nat.min_eq_left hk]
  · simp at hj
    rw [h6 j (by omega), List.getD_eq_getElem?_getD, List.getD_eq_getElem?_getD, List.getElem?_take, if_pos (by omega)]
theorem tr_v {β : Type} {M : mm_M} {a : Nat} {tp : List Int} (h : TpR M a tp) (x : Option β) : mm_v 8 M a x = x := by
  obtain ⟨-, -, ⟨v, h3⟩, -⟩ := h
  exact v_at h3 x
theorem tr_size {M : mm_M} {a : Nat} {tp : List Int} (h : TpR M a tp) : mm_gi 8 1 M a = some (iI tp.length) := by
  obtain ⟨-, -, ⟨v, h3⟩, -⟩ := h
  exact gi_at h3 1 rfl
/-- bytes put behind, as long as they fit -/
def appL : List Int → List Int → Bool × List Int
  | tp, [] => (true, tp)
  | tp, b :: bs => if b = 0 then appL tp bs else if tp.length < 240 then appL (tp ++ [b]) bs else (false, tp)
theorem appL_app (tp A B : List Int) : appL tp (A ++ B) = if (appL tp A).1 = true then appL (appL tp A).2 B else appL tp A := by
  induction A generalizing tp with
  | nil => simp [appL]
  | cons b A ih =>
    simp only [List.cons_append, appL]
    split
    · exact ih tp
    · split
      · exact ih _
      · simp
theorem appL_ok (tp L : List Int) : (tp.length + (L.filter nz).length ≤ 240 → appL tp L = (true, tp ++ L.filter nz)) ∧ (240 < tp.length + (L.filter nz).length → tp.length ≤ 240 → (appL tp L).1 = false) ∧ tp.length ≤ (appL tp L).2.length ∧ (appL tp L).2.take tp.length = tp := by
  induction L generalizing tp with
  | nil => simp [appL]
  | cons b L ih =>
    by_cases c : b = 0
    · have e : (b :: L).filter nz = L.filter nz := by simp [nz, c]
      have e2 : appL tp (b :: L) = appL tp L := by simp only [appL]; rw [if_pos c]
      rw [e, e2]; exact ih tp
    · have e : (b :: L).filter nz = b :: L.filter nz := by simp [nz, c]
      rw [e]
      by_cases d : tp.length < 240
      · have e2 : appL tp (b :: L) = appL (tp ++ [b]) L := by simp only [appL]; rw [if_neg c, if_pos d]
        rw [e2]
        obtain ⟨i1, i2, i3, i4⟩ := ih (tp ++ [b])
        simp at i1 i2 i3
        refine ⟨fun z => ?_, fun z z2 => ?_, by omega, ?_⟩
        · rw [i1 (by simp at z; omega)]
        · exact i2 (by simp at z; omega) (by omega)
        · have := congrArg (List.take tp.length) i4
          rw [List.take_take] at this
          simp at this
          exact this
      · have e2 : appL tp (b :: L) = (false, tp) := by simp only [appL]; rw [if_neg c, if_neg d]
        rw [e2]
        refine ⟨fun z => by simp at z; omega, fun _ _ => rfl, by simp, by simp⟩
theorem tr_app {n : Nat} (hn : 60 ≤ n) {M : mm_M} {a : Nat} {tp : List Int} (h : TpR M a tp) (x : Int32) : ∃ M', pX8_append n M a x = some (bI (appL tp (by4 x)).1, M') ∧ TpR M' a (appL tp (by4 x)).2 ∧ fr M M' a 2 := by
  have loop : ∀ (k i : Nat) (M : mm_M) (tp : List Int), i ≤ 4 → 4 < i + k → TpR M a tp → ∃ M', pX8_append_l3 n k M a x (iI (24 - 8 * (i : Int))) = some (bI (appL tp ((by4 x).drop i)).1, M') ∧ TpR M' a (appL tp ((by4 x).drop i)).2 ∧ fr M M' a 2 := by
    intro k
    induction k with
    | zero => intro i M tp a b; omega
    | succ k ih =>
      intro i M tp i1 i2 h
      show ∃ M', pX8_append_l3b n (pX8_append_l3 n k) M a x _ = _ ∧ _
      by_cases d : (24 : Int) - 8 * i < 0
      · have e : (by4 x).drop i = [] := List.drop_eq_nil_of_le (by show 4 ≤ i; omega)
        rw [e]
        refine ⟨M, ?_, h, fr.rfl⟩
        simp (disch := (first | assumption | (refine sm_of ?_ ?_ <;> omega) | fail)) only [iI_add, iI_sub, iI_mul, iI_neg, iI_lt, iI_le, iI_eq, b1_s, b2_s, ↓reduceIte, L0, L1, L2, L3, L4, L5, L6, L7, L8, L9, L10, L12, L20, L22, L24, L26, L27, L28, L32, L40, L60, L73, L95, L97, L222, L240, L441, L442, L622, Lm1, Lmh, L11, L13, L14, L15, L16, L17, L18, L19, L21, L23, L25, L30, L31, L33, L36, L39, L41, L44, L48, L53, L54, L55, L57, L58, L59, L91, L93, L98, L99, L100, L105, L106, L112, L114, L115, L119, L122, L160, L180, L200, L255, L1440, L24880, L63, Lm2, pX8_append_l3b, d]
        rfl
      · have bu := byt_u x (k := 24 - 8 * i) (by omega)
        rw [show (((24 - 8 * i : Nat)) : Int) = (24 : Int) - 8 * i by omega] at bu
        have bl := byt_lt x (24 - 8 * i)
        have ed : (by4 x).drop i = (byt x (24 - 8 * i) : Int) :: (by4 x).drop (i + 1) := by
          rcases (show i = 0 ∨ i = 1 ∨ i = 2 ∨ i = 3 by omega) with rfl | rfl | rfl | rfl <;> rfl
        rw [ed]
        have sh : iI ((24 : Int) - 8 * i) + iI (-8) = iI (24 - 8 * ((i + 1 : Nat) : Int)) := by rw [iI_add]; congr 1; omega
        have L8m : (-8 : Int32) = iI (-8) := by decide
        have z255 : (255 : Int32) = iI 255 := by decide
        by_cases c : byt x (24 - 8 * i) = 0
        · obtain ⟨M2, e2, t2, f2⟩ := ih (i + 1) M tp (by omega) (by omega) h
          have ea : appL tp ((byt x (24 - 8 * i) : Int) :: (by4 x).drop (i + 1)) = appL tp ((by4 x).drop (i + 1)) := by simp only [appL]; rw [if_pos (by omega)]
          rw [ea]
          refine ⟨M2, ?_, t2, f2⟩
          have dd : (iI ((24 : Int) - 8 * i) < iI 0) = False := by rw [iI_lt (sm_of (by omega) (by omega)) (sm_of (by omega) (by omega))]; exact eq_false d
          have cc : (iI (byt x (24 - 8 * i)) = iI 0) = True := by rw [c]; simp
          simp only [pX8_append_l3b, L0, dd, ↓reduceIte, z255, bu, cc, L8m, sh]
          exact e2
        · have dd : (iI ((24 : Int) - 8 * i) < iI 0) = False := by rw [iI_lt (sm_of (by omega) (by omega)) (sm_of (by omega) (by omega))]; exact eq_false d
          have cc : (iI (byt x (24 - 8 * i)) = iI 0) = False := by rw [iI_eq (sm_of (by omega) (by omega)) (sm_of (by omega) (by omega))]; exact eq_false (by omega)
          obtain ⟨h1, h2, ⟨v, h3⟩, f, h5, h6⟩ := h
          by_cases g : tp.length < 240
          · obtain ⟨M1, e1, s1, f1⟩ := is_ex h5 (i := tp.length) (by omega) (by omega) (sm_of (by omega) (by omega)) (iI (byt x (24 - 8 * i)))
            obtain ⟨M2, e2, s2, f2⟩ := pi_ex (f1.at h3 (by omega)) 1 (iI ((tp.length : Int) + 1))
            have f12 : fr M M2 a 2 := (f1.mono (by omega) (by omega)).trans (f2.mono (by omega) (by omega))
            have t2 : TpR M2 a (tp ++ [(byt x (24 - 8 * i) : Int)]) := by
              refine ⟨by simp; omega, bd_app h2 (fun y hy => by rw [List.mem_singleton.mp hy]; omega), ⟨v, by rw [s2]; simp⟩, _, f2.at s1 (by omega), fun j hj => ?_⟩
              simp at hj
              by_cases e : j = tp.length
              · subst e; simp [upd]
              · rw [List.getD_eq_getElem?_getD, List.getElem?_append_left (by omega), ← List.getD_eq_getElem?_getD, ← h6 j (by omega)]
                simp [upd, e]
            obtain ⟨M3, e3, t3, f3⟩ := ih (i + 1) M2 _ (by omega) (by omega) t2
            have ea : appL tp ((byt x (24 - 8 * i) : Int) :: (by4 x).drop (i + 1)) = appL (tp ++ [(byt x (24 - 8 * i) : Int)]) ((by4 x).drop (i + 1)) := by simp only [appL]; rw [if_neg (by omega), if_pos g]
            rw [ea]
            refine ⟨M3, ?_, t3, f12.trans f3⟩
            have lt : (iI (tp.length : Int) < iI ((240 : Nat) : Int)) = True := by rw [iI_lt (sm_of (by omega) (by omega)) (sm_of (by omega) (by omega))]; exact eq_true (by omega)
            simp only [pX8_append_l3b, L0, dd, ↓reduceIte, z255, bu, cc, gi_at h3 1 rfl, b1_s, gr_at h3 0 rfl, len_at h5, lt, e1, gi_at (f1.at h3 (by omega)) 1 rfl, L1, iI_add, e2]
            rw [L8m, sh]
            exact e3
          · have ea : appL tp ((byt x (24 - 8 * i) : Int) :: (by4 x).drop (i + 1)) = (false, tp) := by simp only [appL]; rw [if_neg (by omega), if_neg g]
            rw [ea]
            refine ⟨M, ?_, ⟨h1, h2, ⟨v, h3⟩, f, h5, h6⟩, fr.rfl⟩
            have lt : (iI (tp.length : Int) < iI ((240 : Nat) : Int)) = False := by rw [iI_lt (sm_of (by omega) (by omega)) (sm_of (by omega) (by omega))]; exact eq_false (by omega)
            simp only [pX8_append_l3b, L0, dd, ↓reduceIte, z255, bu, cc, gi_at h3 1 rfl, b1_s, gr_at h3 0 rfl, len_at h5, lt]
            rfl
  obtain ⟨M1, e1, t1, f1⟩ := loop n 0 M tp (by omega) (by omega) h
  refine ⟨M1, ?_, t1, f1⟩
  simp only [pX8_append, tr_v h]
  exact e1
theorem tr_row {n : Nat} (hn : 300 ≤ n) {M : mm_M} {a s : Nat} {tp xs : List Int} (hd : a + 2 ≤ s ∨ s + 2 ≤ a) (h : TpR M a tp) (g : Sg M s xs) {most : Nat} (hm : most ≤ 20) : ∃ M', pX8_rowFault n M a s (iI most) = some (iI (rowF tp most), M') ∧ TpR M' a tp ∧ Sg M' s (rds tp most 0).1 ∧ M'.1 = M.1 ∧ ∀ q, (q < a ∨ a + 2 ≤ q) → (q < s ∨ s + 2 ≤ q) → M'.2 q = M.2 q := by
  obtain ⟨M1, e1, t1, f1⟩ := tr_at h
  obtain ⟨M2, e2, t2, g2, k1, k2⟩ := tp_read hn hd t1 (g.fr f1 (by omega)) hm
  unfold rowF
  by_cases c : (rds tp most 0).1 = []
  · refine ⟨M2, ?_, t2.r, g2, k1.trans f1.1, fun q h1 h2 => (k2 q h1 h2).trans (f1.2 q (by omega))⟩
    rw [if_pos c]
    simp (disch := (first | assumption | (refine sm_of ?_ ?_ <;> omega) | fail)) only [iI_add, iI_sub, iI_mul, iI_neg, iI_lt, iI_le, iI_eq, b1_s, b2_s, ↓reduceIte, L0, L1, L2, L3, L4, L5, L6, L7, L8, L9, L10, L12, L20, L22, L24, L26, L27, L28, L32, L40, L60, L73, L95, L97, L222, L240, L441, L442, L622, Lm1, Lmh, L11, L13, L14, L15, L16, L17, L18, L19, L21, L23, L25, L30, L31, L33, L36, L39, L41, L44, L48, L53, L54, L55, L57, L58, L59, L91, L93, L98, L99, L100, L105, L106, L112, L114, L115, L119, L122, L160, L180, L200, L255, L1440, L24880, L63, Lm2, pX8_rowFault, tr_v h, e1, e2, c, bI_0, ne_eq, not_true_eq_false, decide_false, gi_at t2.2.2.2.1 2 rfl]
  · obtain ⟨M3, e3, t3, f3⟩ := tp_peek hn t2
    have bp := pk_bd h.2.1 (rds tp most 0).2
    refine ⟨M3, ?_, t3.r, g2.fr f3 (by omega), f3.1.trans (k1.trans f1.1), fun q h1 h2 => (f3.2 q (by omega)).trans ((k2 q h1 h2).trans (f1.2 q (by omega)))⟩
    rw [if_neg c]
    simp (disch := (first | assumption | (refine sm_of ?_ ?_ <;> omega) | fail)) only [iI_add, iI_sub, iI_mul, iI_neg, iI_lt, iI_le, iI_eq, b1_s, b2_s, ↓reduceIte, L0, L1, L2, L3, L4, L5, L6, L7, L8, L9, L10, L12, L20, L22, L24, L26, L27, L28, L32, L40, L60, L73, L95, L97, L222, L240, L441, L442, L622, Lm1, Lmh, L11, L13, L14, L15, L16, L17, L18, L19, L21, L23, L25, L30, L31, L33, L36, L39, L41, L44, L48, L53, L54, L55, L57, L58, L59, L91, L93, L98, L99, L100, L105, L106, L112, L114, L115, L119, L122, L160, L180, L200, L255, L1440, L24880, L63, Lm2, pX8_rowFault, tr_v h, e1, e2, c, bI_0, ne_eq, not_false_eq_true, decide_true, Bool.true_eq_false, e3, gi_at t3.2.2.2.1 2 rfl]
    by_cases d : pk tp (rds tp most 0).2 = -1
    · simp [d]
    · simp [d]
/-- reading a step: where it may write -/
def frS (M M' : mm_M) (a s : Nat) : Prop := M'.1 = M.1 ∧ ∀ q, (q < a ∨ a + 2 ≤ q) → (q < s ∨ s + 3 ≤ q) → M'.2 q = M.2 q
theorem frS.trans {M M1 M2 : mm_M} {a s : Nat} (h : frS M M1 a s) (g : frS M1 M2 a s) : frS M M2 a s := ⟨g.1.trans h.1, fun q a b => (g.2 q a b).trans (h.2 q a b)⟩
theorem fr.sa {M M' : mm_M} {a s : Nat} (h : fr M M' a 1) : frS M M' a s := ⟨h.1, fun q h1 _ => h.2 q (by omega)⟩
theorem fr.sb {M M' : mm_M} {a s b k : Nat} (h : fr M M' b k) (h1 : s ≤ b) (h2 : b + k ≤ s + 3) : frS M M' a s := ⟨h.1, fun q _ h3 => h.2 q (by omega)⟩
theorem c_tail {n : Nat} (hn : 300 ≤ n) {M : mm_M} {a s : Nat} {tp : List Int} (hd : a + 2 ≤ s ∨ s + 3 ≤ a) {p : Nat} (h : Tp M a tp p) {so x y : Int} (hs : 0 ≤ so ∧ so ≤ 8) (g : Sp M s (iI so) (iI x) (iI y) []) : ∃ M', pX8_readStep_b93 n M a s (iI so) = some (bI (tailF tp so x y p).1, M') ∧ Tp M' a tp (tailF tp so x y p).2.1 ∧ (∃ xs, Sp M' s (iI so) (iI x) (iI y) xs) ∧ ((tailF tp so x y p).1 = true → (tailF tp so x y p).2.2.1 = so ∧ (tailF tp so x y p).2.2.2.1 = x ∧ (tailF tp so x y p).2.2.2.2.1 = y ∧ Sp M' s (iI so) (iI x) (iI y) (tailF tp so x y p).2.2.2.2.2) ∧ frS M M' a s := by
  unfold tailF
  by_cases c : so = 0 ∨ so = 1 ∨ so = 4
  · rw [if_pos c]
    have red : pX8_readStep_b93 n M a s (iI so) = pX8_readStep_b107 n M a s (iI so) := by
      rcases c with rfl | rfl | rfl
      · simp (disch := (first | assumption | (refine sm_of ?_ ?_ <;> omega) | fail)) only [iI_add, iI_sub, iI_mul, iI_neg, iI_lt, iI_le, iI_eq, b1_s, b2_s, ↓reduceIte, L0, L1, L2, L3, L4, L5, L6, L7, L8, L9, L10, L12, L20, L22, L24, L26, L27, L28, L32, L40, L60, L73, L95, L97, L222, L240, L441, L442, L622, Lm1, Lmh, L11, L13, L14, L15, L16, L17, L18, L19, L21, L23, L25, L30, L31, L33, L36, L39, L41, L44, L48, L53, L54, L55, L57, L58, L59, L91, L93, L98, L99, L100, L105, L106, L112, L114, L115, L119, L122, L160, L180, L200, L255, L1440, L24880, L63, Lm2, pX8_readStep_b93]
      · simp (disch := (first | assumption | (refine sm_of ?_ ?_ <;> omega) | fail)) only [iI_add, iI_sub, iI_mul, iI_neg, iI_lt, iI_le, iI_eq, b1_s, b2_s, ↓reduceIte, L0, L1, L2, L3, L4, L5, L6, L7, L8, L9, L10, L12, L20, L22, L24, L26, L27, L28, L32, L40, L60, L73, L95, L97, L222, L240, L441, L442, L622, Lm1, Lmh, L11, L13, L14, L15, L16, L17, L18, L19, L21, L23, L25, L30, L31, L33, L36, L39, L41, L44, L48, L53, L54, L55, L57, L58, L59, L91, L93, L98, L99, L100, L105, L106, L112, L114, L115, L119, L122, L160, L180, L200, L255, L1440, L24880, L63, Lm2, pX8_readStep_b93, Int.reduceEq]
      · simp (disch := (first | assumption | (refine sm_of ?_ ?_ <;> omega) | fail)) only [iI_add, iI_sub, iI_mul, iI_neg, iI_lt, iI_le, iI_eq, b1_s, b2_s, ↓reduceIte, L0, L1, L2, L3, L4, L5, L6, L7, L8, L9, L10, L12, L20, L22, L24, L26, L27, L28, L32, L40, L60, L73, L95, L97, L222, L240, L441, L442, L622, Lm1, Lmh, L11, L13, L14, L15, L16, L17, L18, L19, L21, L23, L25, L30, L31, L33, L36, L39, L41, L44, L48, L53, L54, L55, L57, L58, L59, L91, L93, L98, L99, L100, L105, L106, L112, L114, L115, L119, L122, L160, L180, L200, L255, L1440, L24880, L63, Lm2, pX8_readStep_b93, Int.reduceEq]
    rw [red]
    obtain ⟨M1, e1, t1, f1⟩ := tp_skip hn h (c := 58) (by omega)
    have g1 := g.fr f1 (by omega)
    by_cases d : pk tp p = 58
    · rw [if_neg (by simp; exact d)]
      rw [if_pos d] at t1
      rw [decide_eq_true d] at e1
      obtain ⟨M2, e2, t2, g2, k1, k2⟩ := tp_read hn (s := s + 1) (by omega) t1 g1.2 (most := if so = 4 then 6 else 20) (by split <;> omega)
      have sp2 : Sp M2 s (iI so) (iI x) (iI y) (rds tp (if so = 4 then 6 else 20) (skp tp p + 1)).1 := ⟨(k2 s (by omega) (by omega)).trans g1.1, g2⟩
      have ff : frS M M2 a s := f1.sa.trans ⟨k1, fun q h1 h2 => k2 q h1 (by omega)⟩
      have ev : pX8_readStep_b107 n M a s (iI so) = some (bI (decide ((rds tp (if so = 4 then 6 else 20) (skp tp p + 1)).1 ≠ [])), M2) := by
        by_cases s4 : so = 4
        · rw [if_pos s4] at e2 ⊢
          have e2 : pX8_readSigns n M1 a (s + 1) (iI 6) = _ := e2
          simp (disch := (first | assumption | (refine sm_of ?_ ?_ <;> omega) | fail)) only [iI_add, iI_sub, iI_mul, iI_neg, iI_lt, iI_le, iI_eq, b1_s, b2_s, ↓reduceIte, L0, L1, L2, L3, L4, L5, L6, L7, L8, L9, L10, L12, L20, L22, L24, L26, L27, L28, L32, L40, L60, L73, L95, L97, L222, L240, L441, L442, L622, Lm1, Lmh, L11, L13, L14, L15, L16, L17, L18, L19, L21, L23, L25, L30, L31, L33, L36, L39, L41, L44, L48, L53, L54, L55, L57, L58, L59, L91, L93, L98, L99, L100, L105, L106, L112, L114, L115, L119, L122, L160, L180, L200, L255, L1440, L24880, L63, Lm2, pX8_readStep_b107, e1, bI_0, Bool.true_eq_false, gr_at g1.1 3 rfl, s4, pX8_readStep_b133, e2]
          cases (decide ((rds tp 6 (skp tp p + 1)).1 ≠ [])) <;> rfl
        · rw [if_neg s4] at e2 ⊢
          have e2 : pX8_readSigns n M1 a (s + 1) (iI 20) = _ := e2
          simp (disch := (first | assumption | (refine sm_of ?_ ?_ <;> omega) | fail)) only [iI_add, iI_sub, iI_mul, iI_neg, iI_lt, iI_le, iI_eq, b1_s, b2_s, ↓reduceIte, L0, L1, L2, L3, L4, L5, L6, L7, L8, L9, L10, L12, L20, L22, L24, L26, L27, L28, L32, L40, L60, L73, L95, L97, L222, L240, L441, L442, L622, Lm1, Lmh, L11, L13, L14, L15, L16, L17, L18, L19, L21, L23, L25, L30, L31, L33, L36, L39, L41, L44, L48, L53, L54, L55, L57, L58, L59, L91, L93, L98, L99, L100, L105, L106, L112, L114, L115, L119, L122, L160, L180, L200, L255, L1440, L24880, L63, Lm2, pX8_readStep_b107, e1, bI_0, Bool.true_eq_false, gr_at g1.1 3 rfl, s4, pX8_readStep_b133, e2]
          cases (decide ((rds tp 20 (skp tp p + 1)).1 ≠ [])) <;> rfl
      by_cases z : (rds tp (if so = 4 then 6 else 20) (skp tp p + 1)).1 = []
      · rw [if_pos z]
        rw [decide_eq_false (by simp; exact z)] at ev
        exact ⟨M2, ev, t2, ⟨_, sp2⟩, fun q => (by cases q), ff⟩
      · rw [if_neg z]
        rw [decide_eq_true z] at ev
        exact ⟨M2, ev, t2, ⟨_, sp2⟩, fun _ => ⟨rfl, rfl, rfl, sp2⟩, ff⟩
    · rw [if_pos d]
      rw [if_neg d] at t1
      rw [decide_eq_false d] at e1
      refine ⟨M1, ?_, t1, ⟨_, g1⟩, fun q => (by cases q), f1.sa⟩
      simp (disch := (first | assumption | (refine sm_of ?_ ?_ <;> omega) | fail)) only [iI_add, iI_sub, iI_mul, iI_neg, iI_lt, iI_le, iI_eq, b1_s, b2_s, ↓reduceIte, L0, L1, L2, L3, L4, L5, L6, L7, L8, L9, L10, L12, L20, L22, L24, L26, L27, L28, L32, L40, L60, L73, L95, L97, L222, L240, L441, L442, L622, Lm1, Lmh, L11, L13, L14, L15, L16, L17, L18, L19, L21, L23, L25, L30, L31, L33, L36, L39, L41, L44, L48, L53, L54, L55, L57, L58, L59, L91, L93, L98, L99, L100, L105, L106, L112, L114, L115, L119, L122, L160, L180, L200, L255, L1440, L24880, L63, Lm2, pX8_readStep_b107, e1, bI_0]
      rfl
  · rw [if_neg c]
    refine ⟨M, ?_, h, ⟨_, g⟩, fun _ => ⟨rfl, rfl, rfl, g⟩, fr.rfl.sa⟩
    simp (disch := (first | assumption | (refine sm_of ?_ ?_ <;> omega) | fail)) only [iI_add, iI_sub, iI_mul, iI_neg, iI_lt, iI_le, iI_eq, b1_s, b2_s, ↓reduceIte, L0, L1, L2, L3, L4, L5, L6, L7, L8, L9, L10, L12, L20, L22, L24, L26, L27, L28, L32, L40, L60, L73, L95, L97, L222, L240, L441, L442, L622, Lm1, Lmh, L11, L13, L14, L15, L16, L17, L18, L19, L21, L23, L25, L30, L31, L33, L36, L39, L41, L44, L48, L53, L54, L55, L57, L58, L59, L91, L93, L98, L99, L100, L105, L106, L112, L114, L115, L119, L122, L160, L180, L200, L255, L1440, L24880, L63, Lm2, pX8_readStep_b93, show ¬ so = 0 by omega, show ¬ so = 1 by omega, show ¬ so = 4 by omega]
    rfl
theorem sp_f1 {M : mm_M} {s : Nat} {so x y : Int32} {xs : List Int} (g : Sp M s so x y xs) (v : Int32) : ∃ M', mm_pi 7 1 M s v = some M' ∧ Sp M' s so v y xs ∧ fr M M' s 1 := by
  obtain ⟨M1, e1, s1, f1⟩ := pi_ex g.1 1 v
  exact ⟨M1, e1, ⟨s1, g.2.fr f1 (by omega)⟩, f1⟩
theorem sp_f2 {M : mm_M} {s : Nat} {so x y : Int32} {xs : List Int} (g : Sp M s so x y xs) (v : Int32) : ∃ M', mm_pi 7 2 M s v = some M' ∧ Sp M' s so x v xs ∧ fr M M' s 1 := by
  obtain ⟨M1, e1, s1, f1⟩ := pi_ex g.1 2 v
  exact ⟨M1, e1, ⟨s1, g.2.fr f1 (by omega)⟩, f1⟩
theorem c_step {n : Nat} (hn : 300 ≤ n) {M : mm_M} {a s : Nat} {tp : List Int} (hd : a + 2 ≤ s ∨ s + 3 ≤ a) {i : Nat} (h : Tp M a tp i) {so x y : Int32} {xs : List Int} (g : Sp M s so x y xs) : ∃ M', pX8_readStep n M a s = some (bI (stepF tp i).1, M') ∧ Tp M' a tp (stepF tp i).2.1 ∧ (∃ so x y xs, Sp M' s so x y xs) ∧ ((stepF tp i).1 = true → Sp M' s (iI (stepF tp i).2.2.1) (iI (stepF tp i).2.2.2.1) (iI (stepF tp i).2.2.2.2.1) (stepF tp i).2.2.2.2.2) ∧ frS M M' a s := by
  unfold stepF
  obtain ⟨M1, e1, t1, f1⟩ := tp_peek hn h
  have pb := pk_bd h.2.1 i
  have sb := srt_bd (pk tp i)
  have g1 := g.fr f1 (by omega)
  by_cases c : srt (pk tp i) = -1
  · rw [if_pos c]
    refine ⟨M1, ?_, t1, ⟨_, _, _, _, g1⟩, fun q => (by cases q), f1.sa⟩
    simp (disch := (first | assumption | (refine sm_of ?_ ?_ <;> omega) | fail)) only [iI_add, iI_sub, iI_mul, iI_neg, iI_lt, iI_le, iI_eq, b1_s, b2_s, ↓reduceIte, L0, L1, L2, L3, L4, L5, L6, L7, L8, L9, L10, L12, L20, L22, L24, L26, L27, L28, L32, L40, L60, L73, L95, L97, L222, L240, L441, L442, L622, Lm1, Lmh, L11, L13, L14, L15, L16, L17, L18, L19, L21, L23, L25, L30, L31, L33, L36, L39, L41, L44, L48, L53, L54, L55, L57, L58, L59, L91, L93, L98, L99, L100, L105, L106, L112, L114, L115, L119, L122, L160, L180, L200, L255, L1440, L24880, L63, Lm2, pX8_readStep, v_at h.2.2.2.1, e1, tp_sort pb, c]
    rfl
  · rw [if_neg c]
    have lt := tpk_lt (tp := tp) (i := i) (fun z => c (by rw [z]; decide))
    obtain ⟨M2, e2, t2, f2⟩ := tp_mv t1 (j := skp tp i + 1) (by omega)
    rw [show ((skp tp i + 1 : Nat) : Int) = (skp tp i : Int) + 1 by omega] at e2
    obtain ⟨M3, e3, g3, f3⟩ := sp_tell (n := n) (g1.fr f2 (by omega)) (s' := iI (srt (pk tp i))) (x' := iI (-1000000)) (y' := iI (-1000000))
    have t3 := t2.fr f3 (by omega)
    obtain ⟨M4, e4, t4, f4⟩ := tp_pkdig hn t3
    have g4 := g3.fr f4 (by omega)
    have f14 : frS M M4 a s := ((f1.sa.trans f2.sa).trans (f3.sb (by omega) (by omega))).trans f4.sa
    have cc : (iI (srt (pk tp i)) = iI (-1)) = False := by rw [iI_eq (sm_of (by omega) (by omega)) (sm_of (by omega) (by omega))]; exact eq_false c
    cases d : isDg (pk tp (skp tp i + 1))
    · rw [if_pos rfl]
      rw [d] at e4
      refine ⟨M4, ?_, t4, ⟨_, _, _, _, g4⟩, fun q => (by cases q), f14⟩
      simp only [pX8_readStep, v_at h.2.2.2.1, e1, b2_s, tp_sort pb, iI_neg, cc, ↓reduceIte, gi_at t1.2.2.2.1 2 rfl, b1_s, L1, iI_add, e2, Lmh, e3, e4, L0, bI_0]
      rfl
    · rw [if_neg (by decide)]
      rw [d] at e4
      obtain ⟨M5, e5, t5, f5⟩ := tp_rddig hn t4 (by rw [pk_skp]; exact d)
      rw [pk_skp] at e5
      rw [skp_skp] at t5
      obtain ⟨M6, e6, g6, f6⟩ := sp_f1 (g4.fr f5 (by omega)) (iI (pk tp (skp tp i + 1) - 48))
      have t6 := t5.fr f6 (by omega)
      have f16 : frS M M6 a s := (f14.trans f5.sa).trans (f6.sb (by omega) (by omega))
      have stp : pX8_readStep n M a s = (if iI (srt (pk tp i)) = iI 3 then (pX8_readStep_b67 n M6 a s (iI (srt (pk tp i)))) else (if iI (srt (pk tp i)) = iI 4 then (pX8_readStep_b67 n M6 a s (iI (srt (pk tp i)))) else (if iI (srt (pk tp i)) = iI 7 then (pX8_readStep_b67 n M6 a s (iI (srt (pk tp i)))) else (pX8_readStep_b93 n M6 a s (iI (srt (pk tp i))))))) := by
        simp only [pX8_readStep, v_at h.2.2.2.1, e1, b2_s, tp_sort pb, iI_neg, cc, ↓reduceIte, gi_at t1.2.2.2.1 2 rfl, b1_s, L1, iI_add, e2, Lmh, e3, e4, L0, bI_0, Bool.true_eq_false, e5, e6, L3, L4, L7]
      unfold secF
      generalize hso : srt (pk tp i) = so at *
      by_cases w : so = 3 ∨ so = 4 ∨ so = 7
      · rw [if_pos w]
        have red : pX8_readStep n M a s = pX8_readStep_b67 n M6 a s (iI so) := by
          rw [stp]
          rcases w with rfl | rfl | rfl
          · simp
          · simp (disch := (first | assumption | (refine sm_of ?_ ?_ <;> omega) | fail)) only [iI_add, iI_sub, iI_mul, iI_neg, iI_lt, iI_le, iI_eq, b1_s, b2_s, ↓reduceIte, L0, L1, L2, L3, L4, L5, L6, L7, L8, L9, L10, L12, L20, L22, L24, L26, L27, L28, L32, L40, L60, L73, L95, L97, L222, L240, L441, L442, L622, Lm1, Lmh, L11, L13, L14, L15, L16, L17, L18, L19, L21, L23, L25, L30, L31, L33, L36, L39, L41, L44, L48, L53, L54, L55, L57, L58, L59, L91, L93, L98, L99, L100, L105, L106, L112, L114, L115, L119, L122, L160, L180, L200, L255, L1440, L24880, L63, Lm2, Int.reduceEq]
          · simp (disch := (first | assumption | (refine sm_of ?_ ?_ <;> omega) | fail)) only [iI_add, iI_sub, iI_mul, iI_neg, iI_lt, iI_le, iI_eq, b1_s, b2_s, ↓reduceIte, L0, L1, L2, L3, L4, L5, L6, L7, L8, L9, L10, L12, L20, L22, L24, L26, L27, L28, L32, L40, L60, L73, L95, L97, L222, L240, L441, L442, L622, Lm1, Lmh, L11, L13, L14, L15, L16, L17, L18, L19, L21, L23, L25, L30, L31, L33, L36, L39, L41, L44, L48, L53, L54, L55, L57, L58, L59, L91, L93, L98, L99, L100, L105, L106, L112, L114, L115, L119, L122, L160, L180, L200, L255, L1440, L24880, L63, Lm2, Int.reduceEq]
        rw [red]
        obtain ⟨M7, e7, t7, f7⟩ := tp_skip hn t6 (c := 44) (by omega)
        have g7 := g6.fr f7 (by omega)
        by_cases u : pk tp (skp tp (skp tp i + 1) + 1) = 44
        · rw [if_neg (by simp; exact u)]
          rw [if_pos u] at t7
          rw [decide_eq_true u] at e7
          obtain ⟨M8, e8, t8, f8⟩ := tp_pkdig hn t7
          have g8 := g7.fr f8 (by omega)
          have f18 := (f16.trans f7.sa).trans (f8.sa (s := s))
          cases v : isDg (pk tp (skp tp (skp tp (skp tp i + 1) + 1) + 1))
          · rw [if_pos rfl]
            rw [v] at e8
            refine ⟨M8, ?_, t8, ⟨_, _, _, _, g8⟩, fun q => (by cases q), f18⟩
            simp only [pX8_readStep_b67, L44, e7, b2_s, L0, bI_0, Bool.true_eq_false, ↓reduceIte, e8]
            rfl
          · rw [if_neg (by decide)]
            rw [v] at e8
            obtain ⟨M9, e9, t9, f9⟩ := tp_rddig hn t8 (by rw [pk_skp]; exact v)
            rw [pk_skp] at e9
            rw [skp_skp] at t9
            obtain ⟨M10, e10, g10, f10⟩ := sp_f2 (g8.fr f9 (by omega)) (iI (pk tp (skp tp (skp tp (skp tp i + 1) + 1) + 1) - 48))
            obtain ⟨M11, e11, t11, sp11, ok11, f11⟩ := c_tail hn hd (t9.fr f10 (by omega)) (so := so) (by omega) g10
            refine ⟨M11, ?_, t11, ⟨_, _, _, sp11⟩, fun q => ?_, ((f18.trans f9.sa).trans (f10.sb (by omega) (by omega))).trans f11⟩
            · simp only [pX8_readStep_b67, L44, e7, b2_s, L0, bI_0, Bool.true_eq_false, ↓reduceIte, e8, e9, e10, b1_s]
              exact e11
            · obtain ⟨q1, q2, q3, q4⟩ := ok11 q
              rw [q1, q2, q3]; exact q4
        · rw [if_pos u]
          rw [if_neg u] at t7
          rw [decide_eq_false u] at e7
          refine ⟨M7, ?_, t7, ⟨_, _, _, _, g7⟩, fun q => (by cases q), f16.trans f7.sa⟩
          simp only [pX8_readStep_b67, L44, e7, b2_s, L0, bI_0, ↓reduceIte]
          rfl
      · rw [if_neg w]
        have red : pX8_readStep n M a s = pX8_readStep_b93 n M6 a s (iI so) := by
          rw [stp]
          simp (disch := (first | assumption | (refine sm_of ?_ ?_ <;> omega) | fail)) only [iI_add, iI_sub, iI_mul, iI_neg, iI_lt, iI_le, iI_eq, b1_s, b2_s, ↓reduceIte, L0, L1, L2, L3, L4, L5, L6, L7, L8, L9, L10, L12, L20, L22, L24, L26, L27, L28, L32, L40, L60, L73, L95, L97, L222, L240, L441, L442, L622, Lm1, Lmh, L11, L13, L14, L15, L16, L17, L18, L19, L21, L23, L25, L30, L31, L33, L36, L39, L41, L44, L48, L53, L54, L55, L57, L58, L59, L91, L93, L98, L99, L100, L105, L106, L112, L114, L115, L119, L122, L160, L180, L200, L255, L1440, L24880, L63, Lm2, show ¬ so = 3 by omega, show ¬ so = 4 by omega, show ¬ so = 7 by omega]
        rw [red]
        obtain ⟨M11, e11, t11, sp11, ok11, f11⟩ := c_tail hn hd t6 (so := so) (by omega) g6
        refine ⟨M11, e11, t11, ⟨_, _, _, sp11⟩, fun q => ?_, f16.trans f11⟩
        obtain ⟨q1, q2, q3, q4⟩ := ok11 q
        rw [q1, q2, q3]; exact q4
