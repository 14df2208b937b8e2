/-! the reference: how few signs tell a place -/
theorem fd_spec (L : List kH) (x y : Int) : ∀ (q k : Nat), L.length < k + q → (fdN L x y q k = -1 ∧ ∀ j, k ≤ j → j < L.length → ¬ (((L.getD j (0, 0)).1 : Int) = x ∧ ((L.getD j (0, 0)).2 : Int) = y)) ∨ ∃ j : Nat, k ≤ j ∧ j < L.length ∧ fdN L x y q k = j ∧ ((L.getD j (0, 0)).1 : Int) = x ∧ ((L.getD j (0, 0)).2 : Int) = y := by
  intro q
  induction q with
  | zero => intro k h; left; exact ⟨rfl, fun j a b => by omega⟩
  | succ q ih =>
    intro k h
    simp only [fdN]
    by_cases c : k < L.length
    · rw [if_pos c]
      by_cases d : ((L.getD k (0, 0)).1 : Int) = x ∧ ((L.getD k (0, 0)).2 : Int) = y
      · rw [if_pos d]; right; exact ⟨k, Nat.le_refl _, c, rfl, d.1, d.2⟩
      · rw [if_neg d]
        rcases ih (k + 1) (by omega) with ⟨r1, r2⟩ | ⟨j, r1, r2, r3⟩
        · left
          refine ⟨r1, fun j a b => ?_⟩
          by_cases e : j = k
          · rw [e]; exact d
          · exact r2 j (by omega) b
        · right; exact ⟨j, by omega, r2, r3⟩
    · rw [if_neg c]; left; exact ⟨rfl, fun j a b => by omega⟩
theorem filter_one {P : kH → Bool} {L : List kH} {i : Nat} (hi : i < L.length) (hp : P (L.getD i (0, 0)) = true) : (L.filter P).length = 1 ↔ ∀ j, j < L.length → j ≠ i → P (L.getD j (0, 0)) = false := by
  have e2 : L.drop i = L.getD i (0, 0) :: L.drop (i + 1) := by
    rw [List.drop_eq_getElem_cons hi, List.getD_eq_getElem?_getD, List.getElem?_eq_getElem hi]; rfl
  have e3 : L.filter P = (L.take i).filter P ++ L.getD i (0, 0) :: (L.drop (i + 1)).filter P := by
    conv => lhs; rw [← List.take_append_drop i L]
    rw [List.filter_append, e2, List.filter_cons, if_pos hp]
  have gt : ∀ j, j < i → L.getD j (0, 0) ∈ L.take i := fun j hj => by
    rw [List.mem_iff_getElem]
    refine ⟨j, by simp; omega, ?_⟩
    rw [List.getElem_take, List.getD_eq_getElem?_getD, List.getElem?_eq_getElem (by omega)]; rfl
  have gd : ∀ j, i < j → j < L.length → L.getD j (0, 0) ∈ L.drop (i + 1) := fun j hj hl => by
    rw [List.mem_iff_getElem]
    refine ⟨j - (i + 1), by simp; omega, ?_⟩
    rw [List.getElem_drop, List.getD_eq_getElem?_getD, List.getElem?_eq_getElem hl]
    simp
    congr 1; omega
  rw [e3, List.length_append, List.length_cons]
  constructor
  · intro h j hj hne
    have z1 : (L.take i).filter P = [] := List.eq_nil_of_length_eq_zero (by omega)
    have z2 : (L.drop (i + 1)).filter P = [] := List.eq_nil_of_length_eq_zero (by omega)
    by_cases c : j < i
    · have := (List.filter_eq_nil_iff.mp z1) _ (gt j c); simpa using this
    · have := (List.filter_eq_nil_iff.mp z2) _ (gd j (by omega) hj); simpa using this
  · intro h
    have z1 : (L.take i).filter P = [] := by
      rw [List.filter_eq_nil_iff]
      intro y hy
      obtain ⟨j, hj, rfl⟩ := List.mem_iff_getElem.mp hy
      have hj' : j < i := by simp at hj; omega
      have := h j (by omega) (by omega)
      rw [List.getD_eq_getElem?_getD, List.getElem?_eq_getElem (by omega)] at this
      simp at this ⊢
      exact this
    have z2 : (L.drop (i + 1)).filter P = [] := by
      rw [List.filter_eq_nil_iff]
      intro y hy
      obtain ⟨j, hj, rfl⟩ := List.mem_iff_getElem.mp hy
      have hj' : i + 1 + j < L.length := by simp at hj; omega
      have := h (i + 1 + j) hj' (by omega)
      rw [List.getD_eq_getElem?_getD, List.getElem?_eq_getElem hj'] at this
      simp at this ⊢
      exact this
    rw [z1, z2]; rfl
theorem cnt_one {ls : List kL} (hd : numD ls) {i q : Nat} (hq : 1 ≤ q) (hi : i < (aL ls).length) (hl : q ≤ (sfx ls ((aL ls).getD i (0, 0))).length) : hitsL ls ((sfx ls ((aL ls).getD i (0, 0))).take q) = 1 ↔ (shK ls (aL ls) ((i : Int) - 1) < q ∧ shK ls (aL ls) i < q) := by
  rw [← fb_len hd, fb_filter hd]
  have self : hasN ls q i i := ⟨hl, hl, rfl⟩
  rw [filter_one hi ((has_N hl).mpr self)]
  constructor
  · intro h
    constructor
    · refine Classical.byContradiction (fun z => ?_)
      by_cases c : i = 0
      · unfold shK at z; rw [if_neg (by omega)] at z; omega
      · have z' : (q : Int) ≤ shK ls (aL ls) ((i - 1 : Nat) : Int) := by rw [show ((i - 1 : Nat) : Int) = (i : Int) - 1 by omega]; omega
        have hN := (shK_iff hq (by omega)).mp z'
        rw [show i - 1 + 1 = i by omega] at hN
        have := h (i - 1) (by omega) (by omega)
        rw [(has_N hl).mpr hN.sym] at this; cases this
    · refine Classical.byContradiction (fun z => ?_)
      by_cases c : i + 1 < (aL ls).length
      · have hN := (shK_iff hq c).mp (by omega)
        have := h (i + 1) c (by omega)
        rw [(has_N hl).mpr hN] at this; cases this
      · unfold shK at z; rw [if_neg (by omega)] at z; omega
  · intro h j hj hne
    rw [Bool.eq_false_iff]
    intro z
    have hN := (has_N hl).mp z
    by_cases c : j < i
    · have h3 := hasN_cvx hd hN.sym (show j ≤ i - 1 by omega) (by omega) hi
      have h4 : hasN ls q (i - 1) (i - 1 + 1) := by rw [show i - 1 + 1 = i by omega]; exact h3.sym.trans hN.sym
      have := (shK_iff hq (by omega)).mpr h4
      rw [show ((i - 1 : Nat) : Int) = (i : Int) - 1 by omega] at this
      omega
    · have h3 := hasN_cvx hd hN (show i ≤ i + 1 by omega) (by omega) hj
      have := (shK_iff hq (by omega)).mpr h3
      omega
def fewK (ls : List kL) (x y : Int) : Int := if fdN (aL ls) x y 201 0 = -1 then -1 else if sgK ls (aL ls) (fdN (aL ls) x y 201 0) ≤ max 0 (max (shK ls (aL ls) (fdN (aL ls) x y 201 0 - 1)) (shK ls (aL ls) (fdN (aL ls) x y 201 0))) then -1 else max 0 (max (shK ls (aL ls) (fdN (aL ls) x y 201 0 - 1)) (shK ls (aL ls) (fdN (aL ls) x y 201 0))) + 1
theorem m_few {n : Nat} (hn : 300 ≤ n) {M : mm_M} {am : Nat} {m : mS} {T : kT} (hT : NwT (m.1 7) T) (hok : okT T) {x y : Int} (hx : sm x) (hy : sm y) : pX10_few n (mk M am m) am (iI x) (iI y) = some (iI (fewK T.1 x y), mk M am m) := by
  have hN := hT.1
  have ho := hok.1
  have hd := hok.2.1
  have l200 := aL_200 ho hd
  have ip := m_isPlace (n := n) (M := M) (am := am) hN ho hx hy
  unfold fewK
  rcases fd_spec (aL T.1) x y 201 0 (by omega) with ⟨f1, f2⟩ | ⟨i, f0, f1, f2, f3, f4⟩
  · rw [f1, if_pos rfl]
    have e : (isLn T.1 x && decide (0 ≤ y ∧ y < (ln T.1 x).2.length)) = false := by
      rw [Bool.eq_false_iff]
      intro z
      rw [Bool.and_eq_true] at z
      obtain ⟨z1, z2⟩ := isLn_spec z.1
      have z3 := of_decide_eq_true z.2
      have mem : ((x.toNat, y.toNat) : kH) ∈ aL T.1 := (aL_mem hd).mpr ⟨by show x.toNat < _; omega, by show y.toNat < (lnN T.1 x.toNat).2.length; have : ln T.1 x = lnN T.1 x.toNat := rfl; rw [← this]; omega⟩
      obtain ⟨j, hj, e⟩ := List.mem_iff_getElem.mp mem
      have := f2 j (by omega) hj
      rw [List.getD_eq_getElem?_getD, List.getElem?_eq_getElem hj] at this
      apply this
      rw [show ((some (aL T.1)[j]).getD (0, 0)) = (aL T.1)[j] from rfl, e]
      exact ⟨by show ((x.toNat : Nat) : Int) = x; omega, by show ((y.toNat : Nat) : Int) = y; omega⟩
    rw [e] at ip
    simp (disch := (first | assumption | (refine sm_of ?_ ?_ <;> omega) | omega)) only [iI_add, iI_sub, iI_mul, iI_neg, iI_lt, iI_le, iI_eq, b1_s, b2_s, ↓reduceIte, mk_v, mk_gl23, mk_pl23, mk_gr1, mk_gr5, mk_gr6, mk_gr8, mk_gr9, mk_gr11, mk_gr13, mk_gr14, mk_gr15, mk_gr17, mk_gr18, mk_gr21, mk_gr24, mk_gr28, mk_gr30, mk_gr31, mk_gi0, mk_gi2, mk_gi3, mk_gi4, mk_gi7, mk_gi10, mk_gi12, mk_gi16, mk_gi19, mk_gi20, mk_gi22, mk_gi25, mk_gi26, mk_gi27, mk_gi29, mk_gi32, mk_pi0, mk_pi2, mk_pi3, mk_pi4, mk_pi7, mk_pi10, mk_pi12, mk_pi16, mk_pi19, mk_pi20, mk_pi22, mk_pi25, mk_pi26, mk_pi27, mk_pi29, mk_pi32, mk_ia1, mk_ia2, mk_ia3, mk_ia4, mk_ia5, mk_ia6, mk_ia7, mk_ia8, mk_ia9, mk_ia10, mk_ia11, mk_ia12, mk_ia13, mk_ia14, mk_ia15, mk_ia16, mk_is1, mk_is2, mk_is3, mk_is4, mk_is5, mk_is6, mk_is7, mk_is8, mk_is9, mk_is10, mk_is11, mk_is12, mk_is13, mk_is14, mk_is15, mk_is16, L0, L1, L2, L3, L4, L5, L6, L7, L8, L9, L10, L12, L20, L22, L24, L26, L27, L28, L32, L40, L60, L73, L95, L97, L222, L240, L441, L442, L622, Lm1, Lmh, L11, L13, L14, L15, L16, L17, L18, L19, L21, L23, L25, L30, L31, L33, L36, L39, L41, L44, L48, L53, L54, L55, L57, L58, L59, L91, L93, L98, L99, L100, L105, L106, L112, L114, L115, L119, L122, L160, L180, L200, L255, L1440, L24880, L63, Lm2, pX10_few, ip, bI_f]
  · rw [f2, if_neg (by omega)]
    obtain ⟨o1, o2⟩ := (aL_ok hd).get f1
    have hk1 := sgK_len T.1 (aL T.1) i
    have hall := ho.all
    have sb1 := shK_bd T.1 (aL T.1) ((i : Int) - 1) hall
    have sb2 := shK_bd T.1 (aL T.1) i hall
    have sgb := sgK_bd ho (aL_ok hd) f1
    have l20 := (ho.2 _ o1).2.1
    have oks := (ho.2 _ o1).2.2.1
    have l10 := ho.1
    have one := fun (q : Nat) (a : 1 ≤ q) (b : q ≤ (sfx T.1 ((aL T.1).getD i (0, 0))).length) => cnt_one hd a f1 b
    have e : (isLn T.1 x && decide (0 ≤ y ∧ y < (ln T.1 x).2.length)) = true := by
      rw [Bool.and_eq_true]
      refine ⟨by unfold isLn; exact decide_eq_true (by omega), decide_eq_true ?_⟩
      have : ln T.1 x = lnN T.1 ((aL T.1).getD i (0, 0)).1 := by rw [← f3]; rfl
      rw [this]; omega
    rw [e] at ip
    have hs : sfx T.1 ((aL T.1).getD i (0, 0)) = (lnN T.1 ((aL T.1).getD i (0, 0)).1).2.drop ((aL T.1).getD i (0, 0)).2 := rfl
    have sl : (sfx T.1 ((aL T.1).getD i (0, 0))).length = (lnN T.1 ((aL T.1).getD i (0, 0)).1).2.length - ((aL T.1).getD i (0, 0)).2 := by rw [hs, List.length_drop]
    generalize shK T.1 (aL T.1) ((i : Int) - 1) = s1 at *
    generalize shK T.1 (aL T.1) i = s2 at *
    generalize sgK T.1 (aL T.1) i = sg at *
    generalize hX : sfx T.1 ((aL T.1).getD i (0, 0)) = X at *
    generalize (aL T.1).getD i (0, 0) = hh at *
    subst f3
    subst f4
    have lg := m_long (n := n) (M := M) (am := am) hN ho o1
    have loop : ∀ (k q : Nat), 1 ≤ q → (q : Int) ≤ max 0 (max s1 s2) + 1 → q ≤ 21 → 21 < q + k → pX10_few_l13 n k (mk M am m) am (iI hh.1) (iI hh.2) (iI q) = some (iI (if sg ≤ max 0 (max s1 s2) then -1 else max 0 (max s1 s2) + 1), mk M am m) := by
      intro k
      induction k with
      | zero => intro q a b c d; omega
      | succ k ih =>
        intro q a b c d
        show pX10_few_l13b n (pX10_few_l13 n k) (mk M am m) am _ _ _ = _
        by_cases g : ((lnN T.1 hh.1).2.length : Int) < (hh.2 : Int) + q
        · rw [if_pos (by omega)]
          simp (disch := (first | assumption | (refine sm_of ?_ ?_ <;> omega) | omega)) only [iI_add, iI_sub, iI_mul, iI_neg, iI_lt, iI_le, iI_eq, b1_s, b2_s, ↓reduceIte, mk_v, mk_gl23, mk_pl23, mk_gr1, mk_gr5, mk_gr6, mk_gr8, mk_gr9, mk_gr11, mk_gr13, mk_gr14, mk_gr15, mk_gr17, mk_gr18, mk_gr21, mk_gr24, mk_gr28, mk_gr30, mk_gr31, mk_gi0, mk_gi2, mk_gi3, mk_gi4, mk_gi7, mk_gi10, mk_gi12, mk_gi16, mk_gi19, mk_gi20, mk_gi22, mk_gi25, mk_gi26, mk_gi27, mk_gi29, mk_gi32, mk_pi0, mk_pi2, mk_pi3, mk_pi4, mk_pi7, mk_pi10, mk_pi12, mk_pi16, mk_pi19, mk_pi20, mk_pi22, mk_pi25, mk_pi26, mk_pi27, mk_pi29, mk_pi32, mk_ia1, mk_ia2, mk_ia3, mk_ia4, mk_ia5, mk_ia6, mk_ia7, mk_ia8, mk_ia9, mk_ia10, mk_ia11, mk_ia12, mk_ia13, mk_ia14, mk_ia15, mk_ia16, mk_is1, mk_is2, mk_is3, mk_is4, mk_is5, mk_is6, mk_is7, mk_is8, mk_is9, mk_is10, mk_is11, mk_is12, mk_is13, mk_is14, mk_is15, mk_is16, L0, L1, L2, L3, L4, L5, L6, L7, L8, L9, L10, L12, L20, L22, L24, L26, L27, L28, L32, L40, L60, L73, L95, L97, L222, L240, L441, L442, L622, Lm1, Lmh, L11, L13, L14, L15, L16, L17, L18, L19, L21, L23, L25, L30, L31, L33, L36, L39, L41, L44, L48, L53, L54, L55, L57, L58, L59, L91, L93, L98, L99, L100, L105, L106, L112, L114, L115, L119, L122, L160, L180, L200, L255, L1440, L24880, L63, Lm2, pX10_few_l13b, lg, g]
        · have wl : (X.take q).length = q := by rw [List.length_take]; omega
          have row : rowA (m.1 7) (2 + 22 * hh.1 + 2 + hh.2) (X.take q) := by
            intro z hz
            rw [wl] at hz
            have := (hN.2 hh.1 o1).2.2 (hh.2 + z) (by omega)
            rw [show (2 + 22 * (hh.1 : Int) + 2 + hh.2 + z) = 2 + 22 * (hh.1 : Int) + 2 + ((hh.2 + z : Nat) : Int) by omega, this, hs]
            congr 1
            rw [List.getD_eq_getElem?_getD, List.getD_eq_getElem?_getD, List.getElem?_take, if_pos hz, List.getElem?_drop]
          have ct := m_count hn (M := M) (am := am) hN ho (w := X.take q) (by rw [hs]; exact (oks.drop _).take _) (by omega) (j := 7) (by decide) (by decide) (o := 2 + 22 * hh.1 + 2 + hh.2) (by omega) (by rw [wl]; simp [mz]; omega) (by simp [mz]) row
          rw [wl] at ct
          have on := one q a (by omega)
          have hb : hitsL T.1 (X.take q) ≤ 200 := by
            have := hitsL_le T.1 (X.take q)
            have := allS_le hall
            omega
          by_cases u : hitsL T.1 (X.take q) = 1
          · obtain ⟨u1, u2⟩ := on.mp u
            rw [if_neg (by omega)]
            simp (disch := (first | assumption | (refine sm_of ?_ ?_ <;> omega) | omega)) only [iI_add, iI_sub, iI_mul, iI_neg, iI_lt, iI_le, iI_eq, b1_s, b2_s, ↓reduceIte, mk_v, mk_gl23, mk_pl23, mk_gr1, mk_gr5, mk_gr6, mk_gr8, mk_gr9, mk_gr11, mk_gr13, mk_gr14, mk_gr15, mk_gr17, mk_gr18, mk_gr21, mk_gr24, mk_gr28, mk_gr30, mk_gr31, mk_gi0, mk_gi2, mk_gi3, mk_gi4, mk_gi7, mk_gi10, mk_gi12, mk_gi16, mk_gi19, mk_gi20, mk_gi22, mk_gi25, mk_gi26, mk_gi27, mk_gi29, mk_gi32, mk_pi0, mk_pi2, mk_pi3, mk_pi4, mk_pi7, mk_pi10, mk_pi12, mk_pi16, mk_pi19, mk_pi20, mk_pi22, mk_pi25, mk_pi26, mk_pi27, mk_pi29, mk_pi32, mk_ia1, mk_ia2, mk_ia3, mk_ia4, mk_ia5, mk_ia6, mk_ia7, mk_ia8, mk_ia9, mk_ia10, mk_ia11, mk_ia12, mk_ia13, mk_ia14, mk_ia15, mk_ia16, mk_is1, mk_is2, mk_is3, mk_is4, mk_is5, mk_is6, mk_is7, mk_is8, mk_is9, mk_is10, mk_is11, mk_is12, mk_is13, mk_is14, mk_is15, mk_is16, L0, L1, L2, L3, L4, L5, L6, L7, L8, L9, L10, L12, L20, L22, L24, L26, L27, L28, L32, L40, L60, L73, L95, L97, L222, L240, L441, L442, L622, Lm1, Lmh, L11, L13, L14, L15, L16, L17, L18, L19, L21, L23, L25, L30, L31, L33, L36, L39, L41, L44, L48, L53, L54, L55, L57, L58, L59, L91, L93, L98, L99, L100, L105, L106, L112, L114, L115, L119, L122, L160, L180, L200, L255, L1440, L24880, L63, Lm2, pX10_few_l13b, lg, g, pX10_lineAt, ct, show (hitsL T.1 (X.take q) : Int) = 1 by omega]
            congr 3; omega
          · have nu : ¬ (s1 < q ∧ s2 < q) := fun z => u (on.mpr z)
            simp (disch := (first | assumption | (refine sm_of ?_ ?_ <;> omega) | omega)) only [iI_add, iI_sub, iI_mul, iI_neg, iI_lt, iI_le, iI_eq, b1_s, b2_s, ↓reduceIte, mk_v, mk_gl23, mk_pl23, mk_gr1, mk_gr5, mk_gr6, mk_gr8, mk_gr9, mk_gr11, mk_gr13, mk_gr14, mk_gr15, mk_gr17, mk_gr18, mk_gr21, mk_gr24, mk_gr28, mk_gr30, mk_gr31, mk_gi0, mk_gi2, mk_gi3, mk_gi4, mk_gi7, mk_gi10, mk_gi12, mk_gi16, mk_gi19, mk_gi20, mk_gi22, mk_gi25, mk_gi26, mk_gi27, mk_gi29, mk_gi32, mk_pi0, mk_pi2, mk_pi3, mk_pi4, mk_pi7, mk_pi10, mk_pi12, mk_pi16, mk_pi19, mk_pi20, mk_pi22, mk_pi25, mk_pi26, mk_pi27, mk_pi29, mk_pi32, mk_ia1, mk_ia2, mk_ia3, mk_ia4, mk_ia5, mk_ia6, mk_ia7, mk_ia8, mk_ia9, mk_ia10, mk_ia11, mk_ia12, mk_ia13, mk_ia14, mk_ia15, mk_ia16, mk_is1, mk_is2, mk_is3, mk_is4, mk_is5, mk_is6, mk_is7, mk_is8, mk_is9, mk_is10, mk_is11, mk_is12, mk_is13, mk_is14, mk_is15, mk_is16, L0, L1, L2, L3, L4, L5, L6, L7, L8, L9, L10, L12, L20, L22, L24, L26, L27, L28, L32, L40, L60, L73, L95, L97, L222, L240, L441, L442, L622, Lm1, Lmh, L11, L13, L14, L15, L16, L17, L18, L19, L21, L23, L25, L30, L31, L33, L36, L39, L41, L44, L48, L53, L54, L55, L57, L58, L59, L91, L93, L98, L99, L100, L105, L106, L112, L114, L115, L119, L122, L160, L180, L200, L255, L1440, L24880, L63, Lm2, pX10_few_l13b, lg, g, pX10_lineAt, ct, show ¬ (hitsL T.1 (X.take q) : Int) = 1 by omega]
            rw [show ((q : Int) + 1) = ((q + 1 : Nat) : Int) by omega]
            exact ih (q + 1) (by omega) (by omega) (by omega) (by omega)
    simp (disch := (first | assumption | (refine sm_of ?_ ?_ <;> omega) | omega)) only [iI_add, iI_sub, iI_mul, iI_neg, iI_lt, iI_le, iI_eq, b1_s, b2_s, ↓reduceIte, mk_v, mk_gl23, mk_pl23, mk_gr1, mk_gr5, mk_gr6, mk_gr8, mk_gr9, mk_gr11, mk_gr13, mk_gr14, mk_gr15, mk_gr17, mk_gr18, mk_gr21, mk_gr24, mk_gr28, mk_gr30, mk_gr31, mk_gi0, mk_gi2, mk_gi3, mk_gi4, mk_gi7, mk_gi10, mk_gi12, mk_gi16, mk_gi19, mk_gi20, mk_gi22, mk_gi25, mk_gi26, mk_gi27, mk_gi29, mk_gi32, mk_pi0, mk_pi2, mk_pi3, mk_pi4, mk_pi7, mk_pi10, mk_pi12, mk_pi16, mk_pi19, mk_pi20, mk_pi22, mk_pi25, mk_pi26, mk_pi27, mk_pi29, mk_pi32, mk_ia1, mk_ia2, mk_ia3, mk_ia4, mk_ia5, mk_ia6, mk_ia7, mk_ia8, mk_ia9, mk_ia10, mk_ia11, mk_ia12, mk_ia13, mk_ia14, mk_ia15, mk_ia16, mk_is1, mk_is2, mk_is3, mk_is4, mk_is5, mk_is6, mk_is7, mk_is8, mk_is9, mk_is10, mk_is11, mk_is12, mk_is13, mk_is14, mk_is15, mk_is16, L0, L1, L2, L3, L4, L5, L6, L7, L8, L9, L10, L12, L20, L22, L24, L26, L27, L28, L32, L40, L60, L73, L95, L97, L222, L240, L441, L442, L622, Lm1, Lmh, L11, L13, L14, L15, L16, L17, L18, L19, L21, L23, L25, L30, L31, L33, L36, L39, L41, L44, L48, L53, L54, L55, L57, L58, L59, L91, L93, L98, L99, L100, L105, L106, L112, L114, L115, L119, L122, L160, L180, L200, L255, L1440, L24880, L63, Lm2, pX10_few, ip, bI_t, Int.reduceEq]
    exact loop n 1 (by omega) (by omega) (by omega) (by omega)
