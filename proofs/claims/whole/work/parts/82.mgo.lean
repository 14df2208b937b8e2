/-! scripts tried and done -/
def bnd (T : kT) (B : Int) : Prop := T.2.1 ≤ B + 10 ∧ ∀ c, c < 3 → (T.2.2.1 c).2.2.2.2.2.2.2 ≤ 10 * B
theorem bnd.mono {T : kT} {B B' : Int} (h : bnd T B) (g : B ≤ B') : bnd T B' := ⟨by have := h.1; omega, fun c hc => by have := h.2 c hc; omega⟩
theorem page_sc {ls : List kL} (hd : numD ls) {u : kU} (h9 : u.2.1 ≤ 9) : (pageK ls u).2.2.2.2.2.2.2 ≤ u.2.2.2.2.2.2.2 + 9 := by
  unfold pageK
  have sc := sc_ah hd u
  have hln : (scL ls u ls.length).length ≤ 9 := by rw [sc, List.length_take]; omega
  generalize scL ls u ls.length = hs at *
  by_cases c : hs = []
  · subst c; show u.2.2.2.2.2.2.2 ≤ _; omega
  · rw [tell_all ls hs _ c]
    show u.2.2.2.2.2.2.2 + (hs.length : Int) ≤ _
    omega
theorem bnd_aft {T : kT} (ho : okT T) {B : Int} (hB : 0 ≤ B) (h : bnd T B) {w : List Int} {sort x y : Int} (hs : 0 ≤ sort ∧ sort ≤ 8) : bnd (aft T sort x y w) (B + 1) := by
  obtain ⟨h1, h2⟩ := h
  have h2' : ∀ c, c < 3 → (T.2.2.1 c).2.2.2.2.2.2.2 ≤ 10 * (B + 1) := fun c hc => by have := h2 c hc; omega
  rcases (show sort = 0 ∨ sort = 1 ∨ sort = 2 ∨ sort = 3 ∨ sort = 4 ∨ sort = 5 ∨ sort = 6 ∨ sort = 7 ∨ sort = 8 by omega) with rfl | rfl | rfl | rfl | rfl | rfl | rfl | rfl | rfl
  · rw [aft_0]; exact ⟨by show T.2.1 ≤ _; omega, h2'⟩
  · rw [aft_1]; exact ⟨by show T.2.1 + 1 ≤ _; omega, h2'⟩
  · rw [aft_2]; exact ⟨by show T.2.1 ≤ _; omega, h2'⟩
  · rw [aft_3]; exact ⟨by show T.2.1 ≤ _; omega, h2'⟩
  · rw [aft_4]
    refine ⟨by show T.2.1 ≤ _; omega, fun c hc => ?_⟩
    show (if c = x.toNat then _ else T.2.2.1 c : kU).2.2.2.2.2.2.2 ≤ _
    split
    · show (0 : Int) ≤ _; omega
    · exact h2' c hc
  · rw [aft_5]
    refine ⟨by show T.2.1 ≤ _; omega, fun c hc => ?_⟩
    show (if c = x.toNat then _ else T.2.2.1 c : kU).2.2.2.2.2.2.2 ≤ _
    split
    · have := page_sc (ls := T.1) ho.2.1 (u := T.2.2.1 c) (ho.2.2.2.2.1 c hc).2.1
      have := h2 c hc
      omega
    · exact h2' c hc
  · rw [aft_6]
    refine ⟨by show T.2.1 ≤ _; omega, fun c hc => ?_⟩
    show (if c = x.toNat then _ else T.2.2.1 c : kU).2.2.2.2.2.2.2 ≤ _
    split
    · show (0 : Int) ≤ _; omega
    · exact h2' c hc
  · rw [aft_7]; exact ⟨by show T.2.1 + 1 ≤ _; omega, h2'⟩
  · rw [aft_8]; exact ⟨by show T.2.1 ≤ _; omega, h2'⟩
theorem bnd_act {T : kT} {B : Int} {sort x y : Int} {w : List Int} (h : bnd (aft T sort x y w) B) : bnd (actK T sort x y w) B := h
theorem doK_nn {T : kT} (ho : okT T) {w : List Int} {sort x y : Int} (hs : 0 ≤ sort ∧ sort ≤ 8) (hy : whyK T.1 T.2.2.1 sort x y w = -1) : 0 ≤ (doK T sort x y w).1 ∧ (doK T sort x y w).1 ≤ 200000000 := by
  have hg := ho.2.2.2.1
  unfold nb at hg
  have l10 := ho.1.1
  have ls := allS_le ho.1.all
  have hn : ∀ k : Nat, k < T.1.length → 0 ≤ (lnN T.1 k).1 ∧ (lnN T.1 k).1 ≤ 100000000 ∧ (lnN T.1 k).2.length ≤ 20 := fun k hk => by
    obtain ⟨a, b, c, d⟩ := ho.1.2 k hk
    exact ⟨d.1, d.2, b⟩
  rcases (show sort = 0 ∨ sort = 1 ∨ sort = 2 ∨ sort = 3 ∨ sort = 4 ∨ sort = 5 ∨ sort = 6 ∨ sort = 7 ∨ sort = 8 by omega) with rfl | rfl | rfl | rfl | rfl | rfl | rfl | rfl | rfl
  · obtain ⟨x0, x1, x2⟩ := why0 hy
    have := hn x.toNat (by omega)
    show 0 ≤ (lnN T.1 x.toNat).1 ∧ (lnN T.1 x.toNat).1 ≤ _
    omega
  · show 0 ≤ T.2.1 ∧ T.2.1 ≤ _
    omega
  · obtain ⟨x0, x1, x2⟩ := why2 hy
    have := hn x.toNat (by omega)
    show 0 ≤ ((lnN T.1 x.toNat).2.length : Int) ∧ ((lnN T.1 x.toNat).2.length : Int) ≤ _
    omega
  · obtain ⟨x0, x1, y0, y1, ne⟩ := why3 hy
    have := hn y.toNat (by omega)
    show 0 ≤ (lnN T.1 y.toNat).1 ∧ (lnN T.1 y.toNat).1 ≤ _
    omega
  · have := hitsL_le T.1 w
    show 0 ≤ (hitsL T.1 w : Int) ∧ (hitsL T.1 w : Int) ≤ _
    omega
  · have sc := sc_ah ho.2.1 (T.2.2.1 x.toNat)
    have a := ah_len ho.2.1 (T.2.2.1 x.toNat)
    have l := leftL_le T.1 (T.2.2.1 x.toNat)
    have : (scL T.1 (T.2.2.1 x.toNat) T.1.length).length ≤ 200 := by rw [sc, List.length_take]; omega
    show 0 ≤ ((scL T.1 (T.2.2.1 x.toNat) T.1.length).length : Int) ∧ ((scL T.1 (T.2.2.1 x.toNat) T.1.length).length : Int) ≤ _
    omega
  · have l := leftL_le T.1 ((T.2.2.1 x.toNat).1, (T.2.2.1 x.toNat).2.1, false, (T.2.2.1 x.toNat).2.2.2.1, (T.2.2.1 x.toNat).2.2.2.2.1, (T.2.2.1 x.toNat).2.2.2.2.2.1, [], 0)
    show 0 ≤ (leftL T.1 _ : Int) ∧ (leftL T.1 _ : Int) ≤ _
    omega
  · show 0 ≤ T.2.1 ∧ T.2.1 ≤ _
    omega
  · obtain ⟨x0, x1, x2⟩ := why8 hy
    show 0 ≤ (((ln T.1 x).2.length + (ln T.1 (x + 1)).2.length : Nat) : Int) ∧ (((ln T.1 x).2.length + (ln T.1 (x + 1)).2.length : Nat) : Int) ≤ _
    omega
/-- the steps that can be, one behind another, without the log -/
def runN (T : kT) : List kS → Nat × kT
  | [] => (0, T)
  | z :: zs => if whyK T.1 T.2.2.1 z.1 z.2.1 z.2.2.1 z.2.2.2 = -1 then ((runN (aft T z.1 z.2.1 z.2.2.1 z.2.2.2) zs).1 + 1, (runN (aft T z.1 z.2.1 z.2.2.1 z.2.2.2) zs).2) else (0, T)
def perN (T : kT) (ps : List kT) : List kS → Nat × kT × List kT
  | [] => (0, T, ps)
  | z :: zs => if whyK T.1 T.2.2.1 z.1 z.2.1 z.2.2.1 z.2.2.2 = -1 then ((perN (actK T z.1 z.2.1 z.2.2.1 z.2.2.2) ((T :: ps).take 40) zs).1 + 1, (perN (actK T z.1 z.2.1 z.2.2.1 z.2.2.2) ((T :: ps).take 40) zs).2) else (0, T, ps)
theorem runN_le (T : kT) (zs : List kS) : (runN T zs).1 ≤ zs.length := by
  induction zs generalizing T with
  | nil => simp [runN]
  | cons z zs ih => simp only [runN]; split <;> simp; exact ih _
theorem perN_le (T : kT) (ps : List kT) (zs : List kS) : (perN T ps zs).1 ≤ zs.length := by
  induction zs generalizing T ps with
  | nil => simp [perN]
  | cons z zs ih => simp only [perN]; split <;> simp; exact ih _ _
/-- a script in the reference's rows -/
def NwZ (m : mS) (s : Nat) (zs : List kS) : Prop := zs.length ≤ 12 ∧ m.1 5 s = zs.length ∧ ∀ i : Nat, i < zs.length → NwS (m.1 4) (24 * (12 * s + i)) (zs.getD i kS0)
theorem NwZ.cg {m m' : mS} {s : Nat} {zs : List kS} (h : NwZ m s zs) (h4 : m'.1 4 = m.1 4) (h5 : m'.1 5 = m.1 5) : NwZ m' s zs := ⟨h.1, by rw [h5]; exact h.2.1, by rw [h4]; exact h.2.2⟩
theorem drop_get {zs : List kS} {i : Nat} (h : i < zs.length) : zs.drop i = zs.getD i kS0 :: zs.drop (i + 1) := by
  rw [List.drop_eq_getElem_cons h, List.getD_eq_getElem?_getD, List.getElem?_eq_getElem h]; rfl
theorem getD_mem' {zs : List kS} {i : Nat} (h : i < zs.length) : zs.getD i kS0 ∈ zs := by
  rw [List.getD_eq_getElem?_getD, List.getElem?_eq_getElem h]; exact List.getElem_mem h
theorem m_go0 {n : Nat} (hn : 300 ≤ n) {M : mm_M} {am : Nat} {s : Nat} (hs : s ≤ 4) {zs : List kS} (hz : ∀ z ∈ zs, okZ z) : ∀ (k i : Nat) (m : mS) (T : kT) (B : Int), NwZ m s zs → NwT (m.1 7) T → okT T → 0 ≤ B → B + zs.length ≤ i + 5000000 → bnd T B → i ≤ zs.length → zs.length < i + k → ∃ m', pX10_goSteps_l2 n k (mk M am m) am (iI s) (iI 0) (iI i) = some (iI ((i + (runN T (zs.drop i)).1 : Nat) : Int), mk M am m') ∧ NwT (m'.1 7) (runN T (zs.drop i)).2 ∧ okT (runN T (zs.drop i)).2 ∧ sx7 m m' := by
  intro k
  induction k with
  | zero => intro i m T B _ _ _ _ _ _ h1 h2; omega
  | succ k ih =>
    intro i m T B hZ hT ho hB0 hB hb h1 h2
    show ∃ m', pX10_goSteps_l2b n (pX10_goSteps_l2 n k) (mk M am m) am _ _ _ = _ ∧ _
    have z1 := hZ.1
    have z5 := hZ.2.1
    by_cases d : (zs.length : Int) ≤ i
    · have e : zs.drop i = [] := List.drop_eq_nil_of_le (by omega)
      rw [e]
      refine ⟨m, ?_, hT, ho, ⟨rfl, fun _ _ _ _ _ => rfl, fun _ _ _ => rfl⟩⟩
      simp (disch := (first | assumption | (refine sm_of ?_ ?_ <;> omega) | omega)) only [iI_add, iI_sub, iI_mul, iI_neg, iI_lt, iI_le, iI_eq, b1_s, b2_s, ↓reduceIte, mk_v, mk_gl23, mk_pl23, mk_gr1, mk_gr5, mk_gr6, mk_gr8, mk_gr9, mk_gr11, mk_gr13, mk_gr14, mk_gr15, mk_gr17, mk_gr18, mk_gr21, mk_gr24, mk_gr28, mk_gr30, mk_gr31, mk_gi0, mk_gi2, mk_gi3, mk_gi4, mk_gi7, mk_gi10, mk_gi12, mk_gi16, mk_gi19, mk_gi20, mk_gi22, mk_gi25, mk_gi26, mk_gi27, mk_gi29, mk_gi32, mk_pi0, mk_pi2, mk_pi3, mk_pi4, mk_pi7, mk_pi10, mk_pi12, mk_pi16, mk_pi19, mk_pi20, mk_pi22, mk_pi25, mk_pi26, mk_pi27, mk_pi29, mk_pi32, mk_ia1, mk_ia2, mk_ia3, mk_ia4, mk_ia5, mk_ia6, mk_ia7, mk_ia8, mk_ia9, mk_ia10, mk_ia11, mk_ia12, mk_ia13, mk_ia14, mk_ia15, mk_ia16, mk_is1, mk_is2, mk_is3, mk_is4, mk_is5, mk_is6, mk_is7, mk_is8, mk_is9, mk_is10, mk_is11, mk_is12, mk_is13, mk_is14, mk_is15, mk_is16, L0, L1, L2, L3, L4, L5, L6, L7, L8, L9, L10, L12, L20, L22, L24, L26, L27, L28, L32, L40, L60, L73, L95, L97, L222, L240, L441, L442, L622, Lm1, Lmh, L11, L13, L14, L15, L16, L17, L18, L19, L21, L23, L25, L30, L31, L33, L36, L39, L41, L44, L48, L53, L54, L55, L57, L58, L59, L91, L93, L98, L99, L100, L105, L106, L112, L114, L115, L119, L122, L160, L180, L200, L255, L1440, L24880, L63, Lm2, pX10_goSteps_l2b, z5, d]
      rw [show i = zs.length by omega]; simp [runN]
    · have hi : i < zs.length := by omega
      rw [drop_get hi]
      obtain ⟨a1, a2, a3, a4, a5⟩ := hZ.2.2 i hi
      obtain ⟨b1, b2, b3, b4, b5, b6, b7, b8, b9⟩ := hz _ (getD_mem' hi)
      generalize zs.getD i kS0 = z at *
      have w := m_why (show 60 ≤ n by omega) (M := M) (am := am) hT ho (w := z.2.2.2) b8 b7 (j := 4) (by decide) (by decide) (o := 24 * (12 * s + i) + 4) (by omega) (by simp [mz]; omega) (by simp [mz]) a5 (sort := z.1) (x := z.2.1) (y := z.2.2.1) ⟨b1, b2⟩ (sm_of (by omega) (by omega)) (sm_of (by omega) (by omega))
      simp only [runN]
      by_cases c : whyK T.1 T.2.2.1 z.1 z.2.1 z.2.2.1 z.2.2.2 = -1
      · rw [if_pos c]
        rw [c] at w
        obtain ⟨m1, e1, t1, f1⟩ := m_do hn (M := M) (am := am) hT ho (w := z.2.2.2) b8 b7 (j := 4) (by decide) (by decide) (by decide) (o := 24 * (12 * s + i) + 4) (by omega) (by simp [mz]; omega) (by simp [mz]) a5 (sort := z.1) (x := z.2.1) (y := z.2.2.1) ⟨b1, b2⟩ b9 c
        have ok1 := (okT_aft ho (w := z.2.2.2) b8 b7 ⟨b1, b2⟩ b9 c (by have := hb.1; omega) (fun q hq => by have := hb.2 q hq; omega)).1
        obtain ⟨m2, e2, t2, o2, f2⟩ := ih (i + 1) m1 _ (B + 1) (hZ.cg (f1.2.1 4 (by decide) (by decide) (by decide) (by decide)) (f1.2.1 5 (by decide) (by decide) (by decide) (by decide))) t1 ok1 (by omega) (by omega) (bnd_aft ho hB0 hb ⟨b1, b2⟩) (by omega) (by omega)
        refine ⟨m2, ?_, t2, o2, f1.trans f2⟩
        simp (disch := (first | assumption | (refine sm_of ?_ ?_ <;> omega) | omega)) only [iI_add, iI_sub, iI_mul, iI_neg, iI_lt, iI_le, iI_eq, b1_s, b2_s, ↓reduceIte, mk_v, mk_gl23, mk_pl23, mk_gr1, mk_gr5, mk_gr6, mk_gr8, mk_gr9, mk_gr11, mk_gr13, mk_gr14, mk_gr15, mk_gr17, mk_gr18, mk_gr21, mk_gr24, mk_gr28, mk_gr30, mk_gr31, mk_gi0, mk_gi2, mk_gi3, mk_gi4, mk_gi7, mk_gi10, mk_gi12, mk_gi16, mk_gi19, mk_gi20, mk_gi22, mk_gi25, mk_gi26, mk_gi27, mk_gi29, mk_gi32, mk_pi0, mk_pi2, mk_pi3, mk_pi4, mk_pi7, mk_pi10, mk_pi12, mk_pi16, mk_pi19, mk_pi20, mk_pi22, mk_pi25, mk_pi26, mk_pi27, mk_pi29, mk_pi32, mk_ia1, mk_ia2, mk_ia3, mk_ia4, mk_ia5, mk_ia6, mk_ia7, mk_ia8, mk_ia9, mk_ia10, mk_ia11, mk_ia12, mk_ia13, mk_ia14, mk_ia15, mk_ia16, mk_is1, mk_is2, mk_is3, mk_is4, mk_is5, mk_is6, mk_is7, mk_is8, mk_is9, mk_is10, mk_is11, mk_is12, mk_is13, mk_is14, mk_is15, mk_is16, L0, L1, L2, L3, L4, L5, L6, L7, L8, L9, L10, L12, L20, L22, L24, L26, L27, L28, L32, L40, L60, L73, L95, L97, L222, L240, L441, L442, L622, Lm1, Lmh, L11, L13, L14, L15, L16, L17, L18, L19, L21, L23, L25, L30, L31, L33, L36, L39, L41, L44, L48, L53, L54, L55, L57, L58, L59, L91, L93, L98, L99, L100, L105, L106, L112, L114, L115, L119, L122, L160, L180, L200, L255, L1440, L24880, L63, Lm2, pX10_goSteps_l2b, z5, d, a1, a2, show (24 * (12 * (s : Int) + i) + 1 + 1) = 24 * (12 * (s : Int) + i) + 2 by omega, a3, a4, w, e1]
        rw [show ((i : Int) + 1) = ((i + 1 : Nat) : Int) by omega, e2]
        congr 3; omega
      · rw [if_neg c]
        refine ⟨m, ?_, hT, ho, ⟨rfl, fun _ _ _ _ _ => rfl, fun _ _ _ => rfl⟩⟩
        have wb : -1 ≤ whyK T.1 T.2.2.1 z.1 z.2.1 z.2.2.1 z.2.2.2 ∧ whyK T.1 T.2.2.1 z.1 z.2.1 z.2.2.1 z.2.2.2 ≤ 3 := by unfold whyK; (repeat' split) <;> omega
        simp (disch := (first | assumption | (refine sm_of ?_ ?_ <;> omega) | omega)) only [iI_add, iI_sub, iI_mul, iI_neg, iI_lt, iI_le, iI_eq, b1_s, b2_s, ↓reduceIte, mk_v, mk_gl23, mk_pl23, mk_gr1, mk_gr5, mk_gr6, mk_gr8, mk_gr9, mk_gr11, mk_gr13, mk_gr14, mk_gr15, mk_gr17, mk_gr18, mk_gr21, mk_gr24, mk_gr28, mk_gr30, mk_gr31, mk_gi0, mk_gi2, mk_gi3, mk_gi4, mk_gi7, mk_gi10, mk_gi12, mk_gi16, mk_gi19, mk_gi20, mk_gi22, mk_gi25, mk_gi26, mk_gi27, mk_gi29, mk_gi32, mk_pi0, mk_pi2, mk_pi3, mk_pi4, mk_pi7, mk_pi10, mk_pi12, mk_pi16, mk_pi19, mk_pi20, mk_pi22, mk_pi25, mk_pi26, mk_pi27, mk_pi29, mk_pi32, mk_ia1, mk_ia2, mk_ia3, mk_ia4, mk_ia5, mk_ia6, mk_ia7, mk_ia8, mk_ia9, mk_ia10, mk_ia11, mk_ia12, mk_ia13, mk_ia14, mk_ia15, mk_ia16, mk_is1, mk_is2, mk_is3, mk_is4, mk_is5, mk_is6, mk_is7, mk_is8, mk_is9, mk_is10, mk_is11, mk_is12, mk_is13, mk_is14, mk_is15, mk_is16, L0, L1, L2, L3, L4, L5, L6, L7, L8, L9, L10, L12, L20, L22, L24, L26, L27, L28, L32, L40, L60, L73, L95, L97, L222, L240, L441, L442, L622, Lm1, Lmh, L11, L13, L14, L15, L16, L17, L18, L19, L21, L23, L25, L30, L31, L33, L36, L39, L41, L44, L48, L53, L54, L55, L57, L58, L59, L91, L93, L98, L99, L100, L105, L106, L112, L114, L115, L119, L122, L160, L180, L200, L255, L1440, L24880, L63, Lm2, pX10_goSteps_l2b, z5, d, a1, a2, show (24 * (12 * (s : Int) + i) + 1 + 1) = 24 * (12 * (s : Int) + i) + 2 by omega, a3, a4, w, c]
        simp
theorem perN_ok {T : kT} {ps : List kT} {zs : List kS} (hz : ∀ z ∈ zs, okZ z) {B : Int} (ho : okT T) (hp : ∀ P ∈ ps, okT P ∧ P.1.length ≠ 0) (hne : T.1.length ≠ 0) (hB0 : 0 ≤ B) (hB : B + zs.length ≤ 5000000) (hb : bnd T B) : okT (perN T ps zs).2.1 ∧ (perN T ps zs).2.1.1.length ≠ 0 ∧ (∀ P ∈ (perN T ps zs).2.2, okT P ∧ P.1.length ≠ 0) := by
  induction zs generalizing T ps B with
  | nil => exact ⟨ho, hne, hp⟩
  | cons z zs ih =>
    simp only [perN]
    by_cases c : whyK T.1 T.2.2.1 z.1 z.2.1 z.2.2.1 z.2.2.2 = -1
    · rw [if_pos c]
      rw [List.length_cons] at hB
      obtain ⟨b1, b2, b3, b4, b5, b6, b7, b8, b9⟩ := hz z (by simp)
      obtain ⟨o1, o2⟩ := okT_aft ho (w := z.2.2.2) b8 b7 ⟨b1, b2⟩ b9 c (by have := hb.1; omega) (fun q hq => by have := hb.2 q hq; omega)
      exact ih (B := B + 1) (fun y hy => hz y (by simp [hy])) (okT_act o1) (fun P hP => by
        rcases List.mem_cons.mp (List.mem_of_mem_take hP) with h | h
        · rw [h]; exact ⟨ho, hne⟩
        · exact hp P h) o2 (by omega) (by omega) (bnd_aft ho hB0 hb ⟨b1, b2⟩)
    · rw [if_neg c]; exact ⟨ho, hne, hp⟩
theorem m_go1 {n : Nat} (hn : 25000 ≤ n) {M : mm_M} {am : Nat} {s : Nat} (hs : s ≤ 4) {zs : List kS} (hz : ∀ z ∈ zs, okZ z) : ∀ (k i : Nat) (m : mS) (T : kT) (ps : List kT) (B : Int), NwZ m s zs → NwT (m.1 7) T → okT T → Kp m ps → 0 ≤ B → B + zs.length ≤ i + 5000000 → bnd T B → i ≤ zs.length → zs.length < i + k → ∃ m', pX10_goSteps_l2 n k (mk M am m) am (iI s) (iI 1) (iI i) = some (iI ((i + (perN T ps (zs.drop i)).1 : Nat) : Int), mk M am m') ∧ NwT (m'.1 7) (perN T ps (zs.drop i)).2.1 ∧ Kp m' (perN T ps (zs.drop i)).2.2 ∧ sxa m m' := by
  intro k
  induction k with
  | zero => intro i m T ps B _ _ _ _ _ _ _ h1 h2; omega
  | succ k ih =>
    intro i m T ps B hZ hT ho hK hB0 hB hb h1 h2
    show ∃ m', pX10_goSteps_l2b n (pX10_goSteps_l2 n k) (mk M am m) am _ _ _ = _ ∧ _
    have z1 := hZ.1
    have z5 := hZ.2.1
    by_cases d : (zs.length : Int) ≤ i
    · have e : zs.drop i = [] := List.drop_eq_nil_of_le (by omega)
      rw [e]
      refine ⟨m, ?_, hT, hK, sxa.rfl⟩
      simp (disch := (first | assumption | (refine sm_of ?_ ?_ <;> omega) | omega)) only [iI_add, iI_sub, iI_mul, iI_neg, iI_lt, iI_le, iI_eq, b1_s, b2_s, ↓reduceIte, mk_v, mk_gl23, mk_pl23, mk_gr1, mk_gr5, mk_gr6, mk_gr8, mk_gr9, mk_gr11, mk_gr13, mk_gr14, mk_gr15, mk_gr17, mk_gr18, mk_gr21, mk_gr24, mk_gr28, mk_gr30, mk_gr31, mk_gi0, mk_gi2, mk_gi3, mk_gi4, mk_gi7, mk_gi10, mk_gi12, mk_gi16, mk_gi19, mk_gi20, mk_gi22, mk_gi25, mk_gi26, mk_gi27, mk_gi29, mk_gi32, mk_pi0, mk_pi2, mk_pi3, mk_pi4, mk_pi7, mk_pi10, mk_pi12, mk_pi16, mk_pi19, mk_pi20, mk_pi22, mk_pi25, mk_pi26, mk_pi27, mk_pi29, mk_pi32, mk_ia1, mk_ia2, mk_ia3, mk_ia4, mk_ia5, mk_ia6, mk_ia7, mk_ia8, mk_ia9, mk_ia10, mk_ia11, mk_ia12, mk_ia13, mk_ia14, mk_ia15, mk_ia16, mk_is1, mk_is2, mk_is3, mk_is4, mk_is5, mk_is6, mk_is7, mk_is8, mk_is9, mk_is10, mk_is11, mk_is12, mk_is13, mk_is14, mk_is15, mk_is16, L0, L1, L2, L3, L4, L5, L6, L7, L8, L9, L10, L12, L20, L22, L24, L26, L27, L28, L32, L40, L60, L73, L95, L97, L222, L240, L441, L442, L622, Lm1, Lmh, L11, L13, L14, L15, L16, L17, L18, L19, L21, L23, L25, L30, L31, L33, L36, L39, L41, L44, L48, L53, L54, L55, L57, L58, L59, L91, L93, L98, L99, L100, L105, L106, L112, L114, L115, L119, L122, L160, L180, L200, L255, L1440, L24880, L63, Lm2, pX10_goSteps_l2b, z5, d]
      rw [show i = zs.length by omega]; simp [perN]
    · have hi : i < zs.length := by omega
      rw [drop_get hi]
      obtain ⟨a1, a2, a3, a4, a5⟩ := hZ.2.2 i hi
      obtain ⟨b1, b2, b3, b4, b5, b6, b7, b8, b9⟩ := hz _ (getD_mem' hi)
      generalize zs.getD i kS0 = z at *
      have w := m_why (show 60 ≤ n by omega) (M := M) (am := am) hT ho (w := z.2.2.2) b8 b7 (j := 4) (by decide) (by decide) (o := 24 * (12 * s + i) + 4) (by omega) (by simp [mz]; omega) (by simp [mz]) a5 (sort := z.1) (x := z.2.1) (y := z.2.2.1) ⟨b1, b2⟩ (sm_of (by omega) (by omega)) (sm_of (by omega) (by omega))
      simp only [perN]
      by_cases c : whyK T.1 T.2.2.1 z.1 z.2.1 z.2.2.1 z.2.2.2 = -1
      · rw [if_pos c]
        rw [c] at w
        have ok1 := (okT_aft ho (w := z.2.2.2) b8 b7 ⟨b1, b2⟩ b9 c (by have := hb.1; omega) (fun q hq => by have := hb.2 q hq; omega)).1
        obtain ⟨m1, e1, t1, k1, f1⟩ := m_act hn (M := M) (am := am) hT ho hK (w := z.2.2.2) b8 b7 (j := 4) (by decide) (by decide) (by decide) (by decide) (by decide) (by decide) (o := 24 * (12 * s + i) + 4) (by omega) (by simp [mz]; omega) (by simp [mz]) a5 (sort := z.1) (x := z.2.1) (y := z.2.2.1) ⟨b1, b2⟩ b9 c ok1
        obtain ⟨m2, e2, t2, k2, f2⟩ := ih (i + 1) m1 _ _ (B + 1) (hZ.cg (f1.2.1 4 (by decide) (by decide) (by decide) (by decide) (by decide)) (f1.2.1 5 (by decide) (by decide) (by decide) (by decide) (by decide))) t1 (okT_act ok1) k1 (by omega) (by omega) (bnd_act (bnd_aft ho hB0 hb ⟨b1, b2⟩)) (by omega) (by omega)
        refine ⟨m2, ?_, t2, k2, f1.trans f2⟩
        simp (disch := (first | assumption | (refine sm_of ?_ ?_ <;> omega) | omega)) only [iI_add, iI_sub, iI_mul, iI_neg, iI_lt, iI_le, iI_eq, b1_s, b2_s, ↓reduceIte, mk_v, mk_gl23, mk_pl23, mk_gr1, mk_gr5, mk_gr6, mk_gr8, mk_gr9, mk_gr11, mk_gr13, mk_gr14, mk_gr15, mk_gr17, mk_gr18, mk_gr21, mk_gr24, mk_gr28, mk_gr30, mk_gr31, mk_gi0, mk_gi2, mk_gi3, mk_gi4, mk_gi7, mk_gi10, mk_gi12, mk_gi16, mk_gi19, mk_gi20, mk_gi22, mk_gi25, mk_gi26, mk_gi27, mk_gi29, mk_gi32, mk_pi0, mk_pi2, mk_pi3, mk_pi4, mk_pi7, mk_pi10, mk_pi12, mk_pi16, mk_pi19, mk_pi20, mk_pi22, mk_pi25, mk_pi26, mk_pi27, mk_pi29, mk_pi32, mk_ia1, mk_ia2, mk_ia3, mk_ia4, mk_ia5, mk_ia6, mk_ia7, mk_ia8, mk_ia9, mk_ia10, mk_ia11, mk_ia12, mk_ia13, mk_ia14, mk_ia15, mk_ia16, mk_is1, mk_is2, mk_is3, mk_is4, mk_is5, mk_is6, mk_is7, mk_is8, mk_is9, mk_is10, mk_is11, mk_is12, mk_is13, mk_is14, mk_is15, mk_is16, L0, L1, L2, L3, L4, L5, L6, L7, L8, L9, L10, L12, L20, L22, L24, L26, L27, L28, L32, L40, L60, L73, L95, L97, L222, L240, L441, L442, L622, Lm1, Lmh, L11, L13, L14, L15, L16, L17, L18, L19, L21, L23, L25, L30, L31, L33, L36, L39, L41, L44, L48, L53, L54, L55, L57, L58, L59, L91, L93, L98, L99, L100, L105, L106, L112, L114, L115, L119, L122, L160, L180, L200, L255, L1440, L24880, L63, Lm2, pX10_goSteps_l2b, z5, d, a1, a2, show (24 * (12 * (s : Int) + i) + 1 + 1) = 24 * (12 * (s : Int) + i) + 2 by omega, a3, a4, w, Int.reduceEq, e1]
        rw [show ((i : Int) + 1) = ((i + 1 : Nat) : Int) by omega, e2]
        congr 3; omega
      · rw [if_neg c]
        refine ⟨m, ?_, hT, hK, sxa.rfl⟩
        have wb : -1 ≤ whyK T.1 T.2.2.1 z.1 z.2.1 z.2.2.1 z.2.2.2 ∧ whyK T.1 T.2.2.1 z.1 z.2.1 z.2.2.1 z.2.2.2 ≤ 3 := by unfold whyK; (repeat' split) <;> omega
        simp (disch := (first | assumption | (refine sm_of ?_ ?_ <;> omega) | omega)) only [iI_add, iI_sub, iI_mul, iI_neg, iI_lt, iI_le, iI_eq, b1_s, b2_s, ↓reduceIte, mk_v, mk_gl23, mk_pl23, mk_gr1, mk_gr5, mk_gr6, mk_gr8, mk_gr9, mk_gr11, mk_gr13, mk_gr14, mk_gr15, mk_gr17, mk_gr18, mk_gr21, mk_gr24, mk_gr28, mk_gr30, mk_gr31, mk_gi0, mk_gi2, mk_gi3, mk_gi4, mk_gi7, mk_gi10, mk_gi12, mk_gi16, mk_gi19, mk_gi20, mk_gi22, mk_gi25, mk_gi26, mk_gi27, mk_gi29, mk_gi32, mk_pi0, mk_pi2, mk_pi3, mk_pi4, mk_pi7, mk_pi10, mk_pi12, mk_pi16, mk_pi19, mk_pi20, mk_pi22, mk_pi25, mk_pi26, mk_pi27, mk_pi29, mk_pi32, mk_ia1, mk_ia2, mk_ia3, mk_ia4, mk_ia5, mk_ia6, mk_ia7, mk_ia8, mk_ia9, mk_ia10, mk_ia11, mk_ia12, mk_ia13, mk_ia14, mk_ia15, mk_ia16, mk_is1, mk_is2, mk_is3, mk_is4, mk_is5, mk_is6, mk_is7, mk_is8, mk_is9, mk_is10, mk_is11, mk_is12, mk_is13, mk_is14, mk_is15, mk_is16, L0, L1, L2, L3, L4, L5, L6, L7, L8, L9, L10, L12, L20, L22, L24, L26, L27, L28, L32, L40, L60, L73, L95, L97, L222, L240, L441, L442, L622, Lm1, Lmh, L11, L13, L14, L15, L16, L17, L18, L19, L21, L23, L25, L30, L31, L33, L36, L39, L41, L44, L48, L53, L54, L55, L57, L58, L59, L91, L93, L98, L99, L100, L105, L106, L112, L114, L115, L119, L122, L160, L180, L200, L255, L1440, L24880, L63, Lm2, pX10_goSteps_l2b, z5, d, a1, a2, show (24 * (12 * (s : Int) + i) + 1 + 1) = 24 * (12 * (s : Int) + i) + 2 by omega, a3, a4, w, c]
        simp
