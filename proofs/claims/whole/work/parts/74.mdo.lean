/-! the reference: an act carried out -/
theorem NwU_cg {nw nw' : Int → Int} {o : Int} {u : kU} (h : NwU nw o u) (hk : okU u) (e : ∀ q : Int, o ≤ q → q < o + 73 → nw' q = nw q) : NwU nw' o u := by
  refine ⟨fun z => by rw [e o (by omega) (by omega)]; exact h.1 z, fun z => ?_⟩
  obtain ⟨u1, u2, u3, u4, u5, u6, u7, u8⟩ := h.2 z
  obtain ⟨w1, w2, w3⟩ := hk.2.2.1 z
  have k9 := hk.2.2.2.2.1
  refine ⟨by rw [e _ (by omega) (by omega)]; exact u1, rowA_cg u2 (fun i hi => e _ (by omega) (by omega)), by rw [e _ (by omega) (by omega)]; exact u3, by rw [e _ (by omega) (by omega)]; exact u4, by rw [e _ (by omega) (by omega)]; exact u5, by rw [e _ (by omega) (by omega)]; exact u6, fun i hi => ?_, fun hm => ?_⟩
  · rw [e _ (by omega) (by omega), e _ (by omega) (by omega)]; exact u7 i hi
  · obtain ⟨v1, v2, v3, v4, v5, v6⟩ := u8 hm
    obtain ⟨k1, k2, k3, k4⟩ := hk.2.2.2.1 hm
    refine ⟨by rw [e _ (by omega) (by omega)]; exact v1, by rw [e _ (by omega) (by omega)]; exact v2, by rw [e _ (by omega) (by omega)]; exact v3, rowA_cg v4 (fun i hi => e _ (by omega) (by simp at hi; omega)), by rw [e _ (by omega) (by omega)]; exact v5, rowA_cg v6 (fun i hi => e _ (by omega) (by simp at hi; omega))⟩
theorem NwT_cg {nw nw' : Int → Int} {T : kT} (h : NwT nw T) (ho : okT T) (e : ∀ q : Int, 0 ≤ q → q < 622 → nw' q = nw q) : NwT nw' T := by
  obtain ⟨h1, h2, h3, h4, h5⟩ := h
  have l := ho.2.2.2.2.2.1
  refine ⟨?_, by rw [e _ (by omega) (by omega)]; exact h2, fun c hc => NwU_cg (h3 c hc) (ho.2.2.2.2.1 c hc) (fun q a b => e q (by omega) (by omega)), by rw [e _ (by omega) (by omega)]; exact h4, fun i hi => ?_⟩
  · have l1 := ho.1.1
    refine ⟨by rw [e _ (by omega) (by omega)]; exact h1.1, fun k hk => ?_⟩
    obtain ⟨a1, a2, a3⟩ := h1.2 k hk
    have l2 := (ho.1.2 k hk).2.1
    exact ⟨by rw [e _ (by omega) (by omega)]; exact a1, by rw [e _ (by omega) (by omega)]; exact a2, rowA_cg a3 (fun i hi => e _ (by omega) (by omega))⟩
  · rw [e _ (by omega) (by omega), e _ (by omega) (by omega), e _ (by omega) (by omega)]; exact h5 i hi
/-- the lines change, nothing else -/
theorem NwT_ls {nw nw' : Int → Int} {T : kT} (h : NwT nw T) (ho : okT T) {ls : List kL} {g : Int} (hN : NwL nw' ls) (hg : nw' 1 = g) (e : ∀ q : Int, 222 ≤ q → nw' q = nw q) : NwT nw' (ls, g, T.2.2.1, T.2.2.2) := by
  obtain ⟨h1, h2, h3, h4, h5⟩ := h
  have l := ho.2.2.2.2.2.1
  refine ⟨hN, hg, fun c hc => NwU_cg (h3 c hc) (ho.2.2.2.2.1 c hc) (fun q a b => e q (by omega)), by rw [e _ (by omega)]; exact h4, fun i hi => ?_⟩
  have hi : i < T.2.2.2.length := hi
  show nw' (442 + 3 * ((T.2.2.2.length : Int) - 1 - i)) = _ ∧ nw' (442 + 3 * ((T.2.2.2.length : Int) - 1 - i) + 1) = _ ∧ nw' (442 + 3 * ((T.2.2.2.length : Int) - 1 - i) + 2) = _
  rw [e _ (by omega), e _ (by omega), e _ (by omega)]; exact h5 i hi
/-- a cursor changes, nothing else -/
theorem NwT_cu {nw nw' : Int → Int} {T : kT} (h : NwT nw T) (ho : okT T) {c : Nat} (hc : c < 3) {C : Nat → kU} {u : kU} (hU : NwU nw' (222 + 73 * c) u) (hu : C c = u) (hC : ∀ d, d ≠ c → C d = T.2.2.1 d) (e : ∀ q : Int, (q < 222 + 73 * c ∨ 222 + 73 * c + 73 ≤ q) → nw' q = nw q) : NwT nw' (T.1, T.2.1, C, T.2.2.2) := by
  obtain ⟨h1, h2, h3, h4, h5⟩ := h
  have l := ho.2.2.2.2.2.1
  refine ⟨NwL_cg h1 ho.1 (fun q hq => e q (by omega)), by rw [e _ (by omega)]; exact h2, fun d hd => ?_, by rw [e _ (by omega)]; exact h4, fun i hi => ?_⟩
  · show NwU nw' (222 + 73 * d) (C d)
    by_cases q : d = c
    · rw [q, hu]; exact hU
    · rw [hC d q]
      exact NwU_cg (h3 d hd) (ho.2.2.2.2.1 d hd) (fun q a b => e q (by omega))
  · have hi : i < T.2.2.2.length := hi
    show nw' (442 + 3 * ((T.2.2.2.length : Int) - 1 - i)) = _ ∧ nw' (442 + 3 * ((T.2.2.2.length : Int) - 1 - i) + 1) = _ ∧ nw' (442 + 3 * ((T.2.2.2.length : Int) - 1 - i) + 2) = _
    rw [e _ (by omega), e _ (by omega), e _ (by omega)]; exact h5 i hi
theorem aft_0 (T : kT) (x y : Int) (w : List Int) : aft T 0 x y w = (T.1.set x.toNat ((ln T.1 x).1, w), T.2.1, T.2.2.1, T.2.2.2) := by simp [aft, doK]
theorem aft_1 (T : kT) (x y : Int) (w : List Int) : aft T 1 x y w = (insL T.1 x.toNat (T.2.1, w), T.2.1 + 1, T.2.2.1, T.2.2.2) := by simp [aft, doK]
theorem aft_2 (T : kT) (x y : Int) (w : List Int) : aft T 2 x y w = (delL T.1 x.toNat, T.2.1, T.2.2.1, T.2.2.2) := by simp [aft, doK]
theorem aft_3 (T : kT) (x y : Int) (w : List Int) : aft T 3 x y w = ((T.1.set x.toNat (ln T.1 y)).set y.toNat (ln T.1 x), T.2.1, T.2.2.1, T.2.2.2) := by simp [aft, doK]
theorem aft_4 (T : kT) (x y : Int) (w : List Int) : aft T 4 x y w = (T.1, T.2.1, (fun j => if j = x.toNat then (w, y, false, (T.2.2.1 j).2.2.2.1, (T.2.2.1 j).2.2.2.2.1, (T.2.2.1 j).2.2.2.2.2.1, [], 0) else T.2.2.1 j), T.2.2.2) := by simp [aft, doK]
theorem aft_5 (T : kT) (x y : Int) (w : List Int) : aft T 5 x y w = (T.1, T.2.1, (fun j => if j = x.toNat then pageK T.1 (T.2.2.1 j) else T.2.2.1 j), T.2.2.2) := by simp [aft, doK]
theorem aft_6 (T : kT) (x y : Int) (w : List Int) : aft T 6 x y w = (T.1, T.2.1, (fun j => if j = x.toNat then ((T.2.2.1 j).1, (T.2.2.1 j).2.1, false, (T.2.2.1 j).2.2.2.1, (T.2.2.1 j).2.2.2.2.1, (T.2.2.1 j).2.2.2.2.2.1, [], 0) else T.2.2.1 j), T.2.2.2) := by simp [aft, doK]
theorem aft_7 (T : kT) (x y : Int) (w : List Int) : aft T 7 x y w = (insL (T.1.set x.toNat ((ln T.1 x).1, (ln T.1 x).2.take y.toNat)) (x.toNat + 1) (T.2.1, (ln T.1 x).2.drop y.toNat), T.2.1 + 1, T.2.2.1, T.2.2.2) := by simp [aft, doK]
theorem aft_8 (T : kT) (x y : Int) (w : List Int) : aft T 8 x y w = (delL (T.1.set x.toNat ((ln T.1 x).1, (ln T.1 x).2 ++ (ln T.1 (x + 1)).2)) (x.toNat + 1), T.2.1, T.2.2.1, T.2.2.2) := by simp [aft, doK]
/-- what an act that is not refused rests on -/
theorem why0 {ls : List kL} {C : Nat → kU} {x y : Int} {w : List Int} (h : whyK ls C 0 x y w = -1) : 0 ≤ x ∧ x < ls.length ∧ w ≠ [] := by
  unfold whyK at h
  rw [if_pos rfl] at h
  cases e : isLn ls x
  · rw [e, if_pos rfl] at h; omega
  · obtain ⟨a, b⟩ := isLn_spec e
    rw [e, if_neg (by decide)] at h
    refine ⟨a, b, fun q => ?_⟩
    rw [if_pos q] at h; omega
theorem why1 {ls : List kL} {C : Nat → kU} {x y : Int} {w : List Int} (h : whyK ls C 1 x y w = -1) : 0 ≤ x ∧ x ≤ ls.length ∧ ls.length ≠ 10 := by
  unfold whyK at h
  rw [if_neg (by decide), if_pos rfl] at h
  by_cases c1 : ls.length = 0 ∨ x < 0 ∨ (ls.length : Int) < x
  · rw [if_pos c1] at h; omega
  · rw [if_neg c1] at h
    by_cases c2 : w = []
    · rw [if_pos c2] at h; omega
    · rw [if_neg c2] at h
      by_cases c3 : ls.length = 10
      · rw [if_pos c3] at h; omega
      · omega
theorem why1w {ls : List kL} {C : Nat → kU} {x y : Int} {w : List Int} (h : whyK ls C 1 x y w = -1) : w ≠ [] ∧ ls.length ≠ 0 := by
  unfold whyK at h
  rw [if_neg (by decide), if_pos rfl] at h
  by_cases c1 : ls.length = 0 ∨ x < 0 ∨ (ls.length : Int) < x
  · rw [if_pos c1] at h; omega
  · rw [if_neg c1] at h
    by_cases c2 : w = []
    · rw [if_pos c2] at h; omega
    · exact ⟨c2, by omega⟩
theorem why2 {ls : List kL} {C : Nat → kU} {x y : Int} {w : List Int} (h : whyK ls C 2 x y w = -1) : 0 ≤ x ∧ x < ls.length ∧ ls.length ≠ 1 := by
  unfold whyK at h
  rw [if_neg (by decide), if_neg (by decide), if_pos rfl] at h
  cases e : isLn ls x
  · rw [e, if_pos rfl] at h; omega
  · obtain ⟨a, b⟩ := isLn_spec e
    rw [e, if_neg (by decide)] at h
    refine ⟨a, b, fun q => ?_⟩
    rw [if_pos q] at h; omega
theorem why3 {ls : List kL} {C : Nat → kU} {x y : Int} {w : List Int} (h : whyK ls C 3 x y w = -1) : 0 ≤ x ∧ x < ls.length ∧ 0 ≤ y ∧ y < ls.length ∧ x ≠ y := by
  unfold whyK at h
  rw [if_neg (by decide), if_neg (by decide), if_neg (by decide), if_pos rfl] at h
  cases e : isLn ls x
  · rw [e, if_pos (Or.inl rfl)] at h; omega
  · cases g : isLn ls y
    · rw [g, if_pos (Or.inr rfl)] at h; omega
    · obtain ⟨a, b⟩ := isLn_spec e
      obtain ⟨a', b'⟩ := isLn_spec g
      rw [e, g, if_neg (by decide)] at h
      refine ⟨a, b, a', b', fun q => ?_⟩
      rw [if_pos q] at h; omega
theorem why4 {ls : List kL} {C : Nat → kU} {x y : Int} {w : List Int} (h : whyK ls C 4 x y w = -1) : 0 ≤ x ∧ x < 3 ∧ 1 ≤ y ∧ y ≤ 9 ∧ w ≠ [] ∧ ls.length ≠ 0 := by
  unfold whyK at h
  rw [if_neg (by decide), if_neg (by decide), if_neg (by decide), if_neg (by decide), if_neg (by decide), if_neg (by decide), if_pos rfl] at h
  by_cases c1 : x < 0 ∨ 3 ≤ x ∨ ls.length = 0
  · rw [if_pos c1] at h; omega
  · rw [if_neg c1] at h
    by_cases c2 : y < 1 ∨ 9 < y ∨ w = []
    · rw [if_pos c2] at h; omega
    · refine ⟨by omega, by omega, by omega, by omega, fun q => c2 (Or.inr (Or.inr q)), by omega⟩
theorem why5 {ls : List kL} {C : Nat → kU} {x y : Int} {w : List Int} (h : whyK ls C 5 x y w = -1) : isCu C x = true := by
  unfold whyK at h
  rw [if_neg (by decide), if_neg (by decide), if_neg (by decide), if_neg (by decide), if_neg (by decide), if_neg (by decide), if_neg (by decide)] at h
  cases e : isCu C x
  · rw [e, if_pos rfl] at h; omega
  · rfl
theorem why6 {ls : List kL} {C : Nat → kU} {x y : Int} {w : List Int} (h : whyK ls C 6 x y w = -1) : isCu C x = true := by
  unfold whyK at h
  rw [if_neg (by decide), if_neg (by decide), if_neg (by decide), if_neg (by decide), if_neg (by decide), if_neg (by decide), if_neg (by decide)] at h
  cases e : isCu C x
  · rw [e, if_pos rfl] at h; omega
  · rfl
theorem why7 {ls : List kL} {C : Nat → kU} {x y : Int} {w : List Int} (h : whyK ls C 7 x y w = -1) : 0 ≤ x ∧ x < ls.length ∧ 1 ≤ y ∧ y < (ln ls x).2.length ∧ ls.length ≠ 10 := by
  unfold whyK at h
  rw [if_neg (by decide), if_neg (by decide), if_neg (by decide), if_neg (by decide), if_pos rfl] at h
  cases e : isLn ls x
  · rw [e, if_pos rfl] at h; omega
  · obtain ⟨a, b⟩ := isLn_spec e
    rw [e, if_neg (by decide)] at h
    by_cases c : y < 1 ∨ ((ln ls x).2.length : Int) ≤ y
    · rw [if_pos c] at h; omega
    · rw [if_neg c] at h
      refine ⟨a, b, by omega, by omega, fun q => ?_⟩
      rw [if_pos q] at h; omega
theorem why8 {ls : List kL} {C : Nat → kU} {x y : Int} {w : List Int} (h : whyK ls C 8 x y w = -1) : 0 ≤ x ∧ x + 1 < ls.length ∧ (ln ls x).2.length + (ln ls (x + 1)).2.length ≤ 20 := by
  unfold whyK at h
  rw [if_neg (by decide), if_neg (by decide), if_neg (by decide), if_neg (by decide), if_neg (by decide), if_pos rfl] at h
  by_cases c : x < 0 ∨ (ls.length : Int) - 1 ≤ x
  · rw [if_pos c] at h; omega
  · rw [if_neg c] at h
    by_cases d : (20 : Int) < (ln ls x).2.length + (ln ls (x + 1)).2.length
    · rw [if_pos d] at h; omega
    · omega
theorem ln_k (ls : List kL) (k : Nat) : ln ls (k : Int) = lnN ls k := rfl
theorem m_do {n : Nat} (hn : 300 ≤ n) {M : mm_M} {am : Nat} {m : mS} {T : kT} (hT : NwT (m.1 7) T) (ho : okT T) {w : List Int} (hw : okS w) (hwl : w.length ≤ 20) {j : Nat} (hj0 : 0 < j) (hj : j < 17) (hj7 : j ≠ 7) {o : Int} (ho0 : 0 ≤ o) (ho1 : o + w.length ≤ mz j) (hz : mz j ≤ 100000) (hr : rowA (m.1 j) o w) {sort x y : Int} (hs : 0 ≤ sort ∧ sort ≤ 8) (h4 : sort = 4 → w.length ≤ 6) (hy : whyK T.1 T.2.2.1 sort x y w = -1) : ∃ m', pX10_doNow n (mk M am m) am (iI sort) (iI x) (iI y) (am + j) (iI o) (iI w.length) = some (iI (doK T sort x y w).1, mk M am m') ∧ NwT (m'.1 7) (aft T sort x y w) ∧ sx7 m m' := by
  have hN := hT.1
  have h0 := ho.1
  have hl := h0.1
  have hd := ho.2.1
  have hn6 : 60 ≤ n := by omega
  rcases (show sort = 0 ∨ sort = 1 ∨ sort = 2 ∨ sort = 3 ∨ sort = 4 ∨ sort = 5 ∨ sort = 6 ∨ sort = 7 ∨ sort = 8 by omega) with rfl | rfl | rfl | rfl | rfl | rfl | rfl | rfl | rfl
  · obtain ⟨x0, x1, x2⟩ := why0 hy
    obtain ⟨k, rfl⟩ := Int.eq_ofNat_of_zero_le x0
    obtain ⟨nw, e1, r1, r2, r3⟩ := m_laysS hn6 (M := M) (am := am) (m := m) hwl hj0 hj ho0 ho1 hz (k := k) (by omega) (fun f _ => by rw [setA_n _ _ hj7]; exact hr)
    have hN' : NwL nw (T.1.set k ((lnN T.1 k).1, w)) := by
      refine ⟨by rw [r3 0 (by omega), hN.1]; simp, fun i hi => ?_⟩
      rw [List.length_set] at hi
      rw [lnN_set (by omega)]
      obtain ⟨a1, a2, a3⟩ := hN.2 i hi
      by_cases c : i = k
      · subst c
        rw [if_pos rfl]
        exact ⟨by rw [r3 _ (by omega)]; exact a1, r1, r2⟩
      · rw [if_neg c]
        have l2 := (h0.2 i hi).2.1
        exact ⟨by rw [r3 _ (by omega)]; exact a1, by rw [r3 _ (by omega)]; exact a2, rowA_cg a3 (fun z hz => r3 _ (by omega))⟩
    refine ⟨setA m 7 nw, ?_, ?_, sx7_set m nw⟩
    · have q := m_num (n := n) (M := M) (am := am) (m := setA m 7 nw) (by rw [setA_e]; exact hN') (k := k) (ls := T.1.set k ((lnN T.1 k).1, w))
      have hok : okL (T.1.set k ((lnN T.1 k).1, w)) := by
        refine ⟨by simp; exact hl, fun i hi => ?_⟩
        rw [List.length_set] at hi
        rw [lnN_set (by omega)]
        by_cases c : i = k
        · rw [if_pos c]
          exact ⟨List.length_pos_iff.mpr x2, hwl, hw, (h0.2 k (by omega)).2.2.2⟩
        · rw [if_neg c]; exact h0.2 i hi
      have q := q hok (by rw [List.length_set]; omega)
      rw [lnN_set (by omega), if_pos rfl] at q
      simp (disch := (first | assumption | (refine sm_of ?_ ?_ <;> omega) | omega)) only [iI_add, iI_sub, iI_mul, iI_neg, iI_lt, iI_le, iI_eq, b1_s, b2_s, ↓reduceIte, mk_v, mk_gl23, mk_pl23, mk_gr1, mk_gr5, mk_gr6, mk_gr8, mk_gr9, mk_gr11, mk_gr13, mk_gr14, mk_gr15, mk_gr17, mk_gr18, mk_gr21, mk_gr24, mk_gr28, mk_gr30, mk_gr31, mk_gi0, mk_gi2, mk_gi3, mk_gi4, mk_gi7, mk_gi10, mk_gi12, mk_gi16, mk_gi19, mk_gi20, mk_gi22, mk_gi25, mk_gi26, mk_gi27, mk_gi29, mk_gi32, mk_pi0, mk_pi2, mk_pi3, mk_pi4, mk_pi7, mk_pi10, mk_pi12, mk_pi16, mk_pi19, mk_pi20, mk_pi22, mk_pi25, mk_pi26, mk_pi27, mk_pi29, mk_pi32, mk_ia1, mk_ia2, mk_ia3, mk_ia4, mk_ia5, mk_ia6, mk_ia7, mk_ia8, mk_ia9, mk_ia10, mk_ia11, mk_ia12, mk_ia13, mk_ia14, mk_ia15, mk_ia16, mk_is1, mk_is2, mk_is3, mk_is4, mk_is5, mk_is6, mk_is7, mk_is8, mk_is9, mk_is10, mk_is11, mk_is12, mk_is13, mk_is14, mk_is15, mk_is16, L0, L1, L2, L3, L4, L5, L6, L7, L8, L9, L10, L12, L20, L22, L24, L26, L27, L28, L32, L40, L60, L73, L95, L97, L222, L240, L441, L442, L622, Lm1, Lmh, L11, L13, L14, L15, L16, L17, L18, L19, L21, L23, L25, L30, L31, L33, L36, L39, L41, L44, L48, L53, L54, L55, L57, L58, L59, L91, L93, L98, L99, L100, L105, L106, L112, L114, L115, L119, L122, L160, L180, L200, L255, L1440, L24880, L63, Lm2, pX10_doNow, e1, q]
      simp [doK, ln_k]
    · rw [aft_0, setA_e, Int.toNat_natCast, ln_k]
      exact NwT_ls hT ho hN' (by rw [r3 1 (by omega)]; exact hT.2.1) (fun q hq => r3 q (by omega))
  · obtain ⟨x0, x1, x2⟩ : 0 ≤ x ∧ x ≤ T.1.length ∧ T.1.length < 10 := by have := why1 hy; omega
    obtain ⟨k, rfl⟩ := Int.eq_ofNat_of_zero_le x0
    obtain ⟨nw, e1, r1, r2, r3⟩ := m_puts hn6 (M := M) (am := am) (m := m) hN h0 hT.2.1 ho.2.2.2.1 (k := k) (by omega) x2 hwl hj0 hj hj7 ho0 ho1 hz hr
    refine ⟨setA m 7 nw, ?_, ?_, sx7_set m nw⟩
    · simp (disch := (first | assumption | (refine sm_of ?_ ?_ <;> omega) | omega)) only [iI_add, iI_sub, iI_mul, iI_neg, iI_lt, iI_le, iI_eq, b1_s, b2_s, ↓reduceIte, mk_v, mk_gl23, mk_pl23, mk_gr1, mk_gr5, mk_gr6, mk_gr8, mk_gr9, mk_gr11, mk_gr13, mk_gr14, mk_gr15, mk_gr17, mk_gr18, mk_gr21, mk_gr24, mk_gr28, mk_gr30, mk_gr31, mk_gi0, mk_gi2, mk_gi3, mk_gi4, mk_gi7, mk_gi10, mk_gi12, mk_gi16, mk_gi19, mk_gi20, mk_gi22, mk_gi25, mk_gi26, mk_gi27, mk_gi29, mk_gi32, mk_pi0, mk_pi2, mk_pi3, mk_pi4, mk_pi7, mk_pi10, mk_pi12, mk_pi16, mk_pi19, mk_pi20, mk_pi22, mk_pi25, mk_pi26, mk_pi27, mk_pi29, mk_pi32, mk_ia1, mk_ia2, mk_ia3, mk_ia4, mk_ia5, mk_ia6, mk_ia7, mk_ia8, mk_ia9, mk_ia10, mk_ia11, mk_ia12, mk_ia13, mk_ia14, mk_ia15, mk_ia16, mk_is1, mk_is2, mk_is3, mk_is4, mk_is5, mk_is6, mk_is7, mk_is8, mk_is9, mk_is10, mk_is11, mk_is12, mk_is13, mk_is14, mk_is15, mk_is16, L0, L1, L2, L3, L4, L5, L6, L7, L8, L9, L10, L12, L20, L22, L24, L26, L27, L28, L32, L40, L60, L73, L95, L97, L222, L240, L441, L442, L622, Lm1, Lmh, L11, L13, L14, L15, L16, L17, L18, L19, L21, L23, L25, L30, L31, L33, L36, L39, L41, L44, L48, L53, L54, L55, L57, L58, L59, L91, L93, L98, L99, L100, L105, L106, L112, L114, L115, L119, L122, L160, L180, L200, L255, L1440, L24880, L63, Lm2, pX10_doNow, e1, Int.reduceEq]
      simp [doK]
    · rw [aft_1, setA_e, Int.toNat_natCast]
      exact NwT_ls hT ho r1 r2 r3
  · obtain ⟨x0, x1, x2⟩ := why2 hy
    obtain ⟨k, rfl⟩ := Int.eq_ofNat_of_zero_le x0
    obtain ⟨nw, e1, r1, r2, r3⟩ := m_takes hn6 (M := M) (am := am) (m := m) hN h0 (k := k) (by omega)
    refine ⟨setA m 7 nw, ?_, ?_, sx7_set m nw⟩
    · simp (disch := (first | assumption | (refine sm_of ?_ ?_ <;> omega) | omega)) only [iI_add, iI_sub, iI_mul, iI_neg, iI_lt, iI_le, iI_eq, b1_s, b2_s, ↓reduceIte, mk_v, mk_gl23, mk_pl23, mk_gr1, mk_gr5, mk_gr6, mk_gr8, mk_gr9, mk_gr11, mk_gr13, mk_gr14, mk_gr15, mk_gr17, mk_gr18, mk_gr21, mk_gr24, mk_gr28, mk_gr30, mk_gr31, mk_gi0, mk_gi2, mk_gi3, mk_gi4, mk_gi7, mk_gi10, mk_gi12, mk_gi16, mk_gi19, mk_gi20, mk_gi22, mk_gi25, mk_gi26, mk_gi27, mk_gi29, mk_gi32, mk_pi0, mk_pi2, mk_pi3, mk_pi4, mk_pi7, mk_pi10, mk_pi12, mk_pi16, mk_pi19, mk_pi20, mk_pi22, mk_pi25, mk_pi26, mk_pi27, mk_pi29, mk_pi32, mk_ia1, mk_ia2, mk_ia3, mk_ia4, mk_ia5, mk_ia6, mk_ia7, mk_ia8, mk_ia9, mk_ia10, mk_ia11, mk_ia12, mk_ia13, mk_ia14, mk_ia15, mk_ia16, mk_is1, mk_is2, mk_is3, mk_is4, mk_is5, mk_is6, mk_is7, mk_is8, mk_is9, mk_is10, mk_is11, mk_is12, mk_is13, mk_is14, mk_is15, mk_is16, L0, L1, L2, L3, L4, L5, L6, L7, L8, L9, L10, L12, L20, L22, L24, L26, L27, L28, L32, L40, L60, L73, L95, L97, L222, L240, L441, L442, L622, Lm1, Lmh, L11, L13, L14, L15, L16, L17, L18, L19, L21, L23, L25, L30, L31, L33, L36, L39, L41, L44, L48, L53, L54, L55, L57, L58, L59, L91, L93, L98, L99, L100, L105, L106, L112, L114, L115, L119, L122, L160, L180, L200, L255, L1440, L24880, L63, Lm2, pX10_doNow, e1, Int.reduceEq]
      simp [doK, ln_k]
    · rw [aft_2, setA_e, Int.toNat_natCast]
      exact NwT_ls hT ho r1 (r2.trans hT.2.1) r3
  · obtain ⟨x0, x1, y0, y1, ne⟩ := why3 hy
    obtain ⟨k, rfl⟩ := Int.eq_ofNat_of_zero_le x0
    obtain ⟨l, rfl⟩ := Int.eq_ofNat_of_zero_le y0
    obtain ⟨nw, e1, r1, r2, r3⟩ := m_swaps hn6 (M := M) (am := am) (m := m) hN h0 (k := k) (o := l) (by omega) (by omega) (by omega)
    refine ⟨setA m 7 nw, ?_, ?_, sx7_set m nw⟩
    · simp (disch := (first | assumption | (refine sm_of ?_ ?_ <;> omega) | omega)) only [iI_add, iI_sub, iI_mul, iI_neg, iI_lt, iI_le, iI_eq, b1_s, b2_s, ↓reduceIte, mk_v, mk_gl23, mk_pl23, mk_gr1, mk_gr5, mk_gr6, mk_gr8, mk_gr9, mk_gr11, mk_gr13, mk_gr14, mk_gr15, mk_gr17, mk_gr18, mk_gr21, mk_gr24, mk_gr28, mk_gr30, mk_gr31, mk_gi0, mk_gi2, mk_gi3, mk_gi4, mk_gi7, mk_gi10, mk_gi12, mk_gi16, mk_gi19, mk_gi20, mk_gi22, mk_gi25, mk_gi26, mk_gi27, mk_gi29, mk_gi32, mk_pi0, mk_pi2, mk_pi3, mk_pi4, mk_pi7, mk_pi10, mk_pi12, mk_pi16, mk_pi19, mk_pi20, mk_pi22, mk_pi25, mk_pi26, mk_pi27, mk_pi29, mk_pi32, mk_ia1, mk_ia2, mk_ia3, mk_ia4, mk_ia5, mk_ia6, mk_ia7, mk_ia8, mk_ia9, mk_ia10, mk_ia11, mk_ia12, mk_ia13, mk_ia14, mk_ia15, mk_ia16, mk_is1, mk_is2, mk_is3, mk_is4, mk_is5, mk_is6, mk_is7, mk_is8, mk_is9, mk_is10, mk_is11, mk_is12, mk_is13, mk_is14, mk_is15, mk_is16, L0, L1, L2, L3, L4, L5, L6, L7, L8, L9, L10, L12, L20, L22, L24, L26, L27, L28, L32, L40, L60, L73, L95, L97, L222, L240, L441, L442, L622, Lm1, Lmh, L11, L13, L14, L15, L16, L17, L18, L19, L21, L23, L25, L30, L31, L33, L36, L39, L41, L44, L48, L53, L54, L55, L57, L58, L59, L91, L93, L98, L99, L100, L105, L106, L112, L114, L115, L119, L122, L160, L180, L200, L255, L1440, L24880, L63, Lm2, pX10_doNow, e1, Int.reduceEq]
      simp [doK, ln_k]
    · rw [aft_3, setA_e, Int.toNat_natCast, Int.toNat_natCast, ln_k, ln_k]
      exact NwT_ls hT ho r1 (r2.trans hT.2.1) r3
  · obtain ⟨x0, x1, y0, y1, w0, s0⟩ := why4 hy
    obtain ⟨k, rfl⟩ := Int.eq_ofNat_of_zero_le x0
    have w1 : 1 ≤ w.length := List.length_pos_iff.mpr w0
    obtain ⟨m1, e1, r1, r2, r3⟩ := m_laysN hn (M := M) (am := am) (m := m) hN h0 hd (c := k) (by omega) ⟨y0, y1⟩ hw ⟨w1, h4 rfl⟩ hj0 hj hj7 ho0 ho1 hz hr (T.2.2.1 k).2.2.2.1 (T.2.2.1 k).2.2.2.2.1 (T.2.2.1 k).2.2.2.2.2.1
    refine ⟨m1, ?_, ?_, r3⟩
    · simp (disch := (first | assumption | (refine sm_of ?_ ?_ <;> omega) | omega)) only [iI_add, iI_sub, iI_mul, iI_neg, iI_lt, iI_le, iI_eq, b1_s, b2_s, ↓reduceIte, mk_v, mk_gl23, mk_pl23, mk_gr1, mk_gr5, mk_gr6, mk_gr8, mk_gr9, mk_gr11, mk_gr13, mk_gr14, mk_gr15, mk_gr17, mk_gr18, mk_gr21, mk_gr24, mk_gr28, mk_gr30, mk_gr31, mk_gi0, mk_gi2, mk_gi3, mk_gi4, mk_gi7, mk_gi10, mk_gi12, mk_gi16, mk_gi19, mk_gi20, mk_gi22, mk_gi25, mk_gi26, mk_gi27, mk_gi29, mk_gi32, mk_pi0, mk_pi2, mk_pi3, mk_pi4, mk_pi7, mk_pi10, mk_pi12, mk_pi16, mk_pi19, mk_pi20, mk_pi22, mk_pi25, mk_pi26, mk_pi27, mk_pi29, mk_pi32, mk_ia1, mk_ia2, mk_ia3, mk_ia4, mk_ia5, mk_ia6, mk_ia7, mk_ia8, mk_ia9, mk_ia10, mk_ia11, mk_ia12, mk_ia13, mk_ia14, mk_ia15, mk_ia16, mk_is1, mk_is2, mk_is3, mk_is4, mk_is5, mk_is6, mk_is7, mk_is8, mk_is9, mk_is10, mk_is11, mk_is12, mk_is13, mk_is14, mk_is15, mk_is16, L0, L1, L2, L3, L4, L5, L6, L7, L8, L9, L10, L12, L20, L22, L24, L26, L27, L28, L32, L40, L60, L73, L95, L97, L222, L240, L441, L442, L622, Lm1, Lmh, L11, L13, L14, L15, L16, L17, L18, L19, L21, L23, L25, L30, L31, L33, L36, L39, L41, L44, L48, L53, L54, L55, L57, L58, L59, L91, L93, L98, L99, L100, L105, L106, L112, L114, L115, L119, L122, L160, L180, L200, L255, L1440, L24880, L63, Lm2, pX10_doNow, e1, Int.reduceEq]
      simp [doK]
    · rw [aft_4, Int.toNat_natCast]
      exact NwT_cu hT ho (c := k) (by omega) r1 (by rw [if_pos rfl]) (fun d hd => if_neg hd) r2
  · obtain ⟨x0, x1, x2⟩ := isCu_spec (why5 hy)
    obtain ⟨k, rfl⟩ := Int.eq_ofNat_of_zero_le x0
    rw [Int.toNat_natCast] at x2
    obtain ⟨m1, e1, r1, r2, r3⟩ := m_pages hn (M := M) (am := am) (m := m) hN h0 hd (c := k) (by omega) (hT.2.2.1 k (by omega)) (ho.2.2.2.2.1 k (by omega)) (by omega)
    refine ⟨m1, ?_, ?_, r3⟩
    · simp (disch := (first | assumption | (refine sm_of ?_ ?_ <;> omega) | omega)) only [iI_add, iI_sub, iI_mul, iI_neg, iI_lt, iI_le, iI_eq, b1_s, b2_s, ↓reduceIte, mk_v, mk_gl23, mk_pl23, mk_gr1, mk_gr5, mk_gr6, mk_gr8, mk_gr9, mk_gr11, mk_gr13, mk_gr14, mk_gr15, mk_gr17, mk_gr18, mk_gr21, mk_gr24, mk_gr28, mk_gr30, mk_gr31, mk_gi0, mk_gi2, mk_gi3, mk_gi4, mk_gi7, mk_gi10, mk_gi12, mk_gi16, mk_gi19, mk_gi20, mk_gi22, mk_gi25, mk_gi26, mk_gi27, mk_gi29, mk_gi32, mk_pi0, mk_pi2, mk_pi3, mk_pi4, mk_pi7, mk_pi10, mk_pi12, mk_pi16, mk_pi19, mk_pi20, mk_pi22, mk_pi25, mk_pi26, mk_pi27, mk_pi29, mk_pi32, mk_ia1, mk_ia2, mk_ia3, mk_ia4, mk_ia5, mk_ia6, mk_ia7, mk_ia8, mk_ia9, mk_ia10, mk_ia11, mk_ia12, mk_ia13, mk_ia14, mk_ia15, mk_ia16, mk_is1, mk_is2, mk_is3, mk_is4, mk_is5, mk_is6, mk_is7, mk_is8, mk_is9, mk_is10, mk_is11, mk_is12, mk_is13, mk_is14, mk_is15, mk_is16, L0, L1, L2, L3, L4, L5, L6, L7, L8, L9, L10, L12, L20, L22, L24, L26, L27, L28, L32, L40, L60, L73, L95, L97, L222, L240, L441, L442, L622, Lm1, Lmh, L11, L13, L14, L15, L16, L17, L18, L19, L21, L23, L25, L30, L31, L33, L36, L39, L41, L44, L48, L53, L54, L55, L57, L58, L59, L91, L93, L98, L99, L100, L105, L106, L112, L114, L115, L119, L122, L160, L180, L200, L255, L1440, L24880, L63, Lm2, pX10_doNow, e1, Int.reduceEq]
      simp [doK]
    · rw [aft_5, Int.toNat_natCast]
      exact NwT_cu hT ho (c := k) (by omega) r1 (by rw [if_pos rfl]) (fun d hd => if_neg hd) r2
  · obtain ⟨x0, x1, x2⟩ := isCu_spec (why6 hy)
    obtain ⟨k, rfl⟩ := Int.eq_ofNat_of_zero_le x0
    rw [Int.toNat_natCast] at x2
    obtain ⟨m1, e1, r1, r2, r3⟩ := m_rewinds hn (M := M) (am := am) (m := m) hN h0 hd (c := k) (by omega) (hT.2.2.1 k (by omega)) (ho.2.2.2.2.1 k (by omega)) (by omega)
    refine ⟨m1, ?_, ?_, r3⟩
    · simp (disch := (first | assumption | (refine sm_of ?_ ?_ <;> omega) | omega)) only [iI_add, iI_sub, iI_mul, iI_neg, iI_lt, iI_le, iI_eq, b1_s, b2_s, ↓reduceIte, mk_v, mk_gl23, mk_pl23, mk_gr1, mk_gr5, mk_gr6, mk_gr8, mk_gr9, mk_gr11, mk_gr13, mk_gr14, mk_gr15, mk_gr17, mk_gr18, mk_gr21, mk_gr24, mk_gr28, mk_gr30, mk_gr31, mk_gi0, mk_gi2, mk_gi3, mk_gi4, mk_gi7, mk_gi10, mk_gi12, mk_gi16, mk_gi19, mk_gi20, mk_gi22, mk_gi25, mk_gi26, mk_gi27, mk_gi29, mk_gi32, mk_pi0, mk_pi2, mk_pi3, mk_pi4, mk_pi7, mk_pi10, mk_pi12, mk_pi16, mk_pi19, mk_pi20, mk_pi22, mk_pi25, mk_pi26, mk_pi27, mk_pi29, mk_pi32, mk_ia1, mk_ia2, mk_ia3, mk_ia4, mk_ia5, mk_ia6, mk_ia7, mk_ia8, mk_ia9, mk_ia10, mk_ia11, mk_ia12, mk_ia13, mk_ia14, mk_ia15, mk_ia16, mk_is1, mk_is2, mk_is3, mk_is4, mk_is5, mk_is6, mk_is7, mk_is8, mk_is9, mk_is10, mk_is11, mk_is12, mk_is13, mk_is14, mk_is15, mk_is16, L0, L1, L2, L3, L4, L5, L6, L7, L8, L9, L10, L12, L20, L22, L24, L26, L27, L28, L32, L40, L60, L73, L95, L97, L222, L240, L441, L442, L622, Lm1, Lmh, L11, L13, L14, L15, L16, L17, L18, L19, L21, L23, L25, L30, L31, L33, L36, L39, L41, L44, L48, L53, L54, L55, L57, L58, L59, L91, L93, L98, L99, L100, L105, L106, L112, L114, L115, L119, L122, L160, L180, L200, L255, L1440, L24880, L63, Lm2, pX10_doNow, e1, Int.reduceEq]
      simp [doK]
    · rw [aft_6, Int.toNat_natCast]
      exact NwT_cu hT ho (c := k) (by omega) r1 (by rw [if_pos rfl]) (fun d hd => if_neg hd) r2
  · obtain ⟨x0, x1, y0, y1, s0⟩ := why7 hy
    obtain ⟨k, rfl⟩ := Int.eq_ofNat_of_zero_le x0
    obtain ⟨p, rfl⟩ := Int.eq_ofNat_of_zero_le (show 0 ≤ y by omega)
    rw [ln_k] at y1
    obtain ⟨nw, e1, r1, r2, r3⟩ := m_splits hn6 (M := M) (am := am) (m := m) hN h0 hT.2.1 ho.2.2.2.1 (k := k) (p := p) (by omega) (by omega) (by omega)
    refine ⟨setA m 7 nw, ?_, ?_, sx7_set m nw⟩
    · simp (disch := (first | assumption | (refine sm_of ?_ ?_ <;> omega) | omega)) only [iI_add, iI_sub, iI_mul, iI_neg, iI_lt, iI_le, iI_eq, b1_s, b2_s, ↓reduceIte, mk_v, mk_gl23, mk_pl23, mk_gr1, mk_gr5, mk_gr6, mk_gr8, mk_gr9, mk_gr11, mk_gr13, mk_gr14, mk_gr15, mk_gr17, mk_gr18, mk_gr21, mk_gr24, mk_gr28, mk_gr30, mk_gr31, mk_gi0, mk_gi2, mk_gi3, mk_gi4, mk_gi7, mk_gi10, mk_gi12, mk_gi16, mk_gi19, mk_gi20, mk_gi22, mk_gi25, mk_gi26, mk_gi27, mk_gi29, mk_gi32, mk_pi0, mk_pi2, mk_pi3, mk_pi4, mk_pi7, mk_pi10, mk_pi12, mk_pi16, mk_pi19, mk_pi20, mk_pi22, mk_pi25, mk_pi26, mk_pi27, mk_pi29, mk_pi32, mk_ia1, mk_ia2, mk_ia3, mk_ia4, mk_ia5, mk_ia6, mk_ia7, mk_ia8, mk_ia9, mk_ia10, mk_ia11, mk_ia12, mk_ia13, mk_ia14, mk_ia15, mk_ia16, mk_is1, mk_is2, mk_is3, mk_is4, mk_is5, mk_is6, mk_is7, mk_is8, mk_is9, mk_is10, mk_is11, mk_is12, mk_is13, mk_is14, mk_is15, mk_is16, L0, L1, L2, L3, L4, L5, L6, L7, L8, L9, L10, L12, L20, L22, L24, L26, L27, L28, L32, L40, L60, L73, L95, L97, L222, L240, L441, L442, L622, Lm1, Lmh, L11, L13, L14, L15, L16, L17, L18, L19, L21, L23, L25, L30, L31, L33, L36, L39, L41, L44, L48, L53, L54, L55, L57, L58, L59, L91, L93, L98, L99, L100, L105, L106, L112, L114, L115, L119, L122, L160, L180, L200, L255, L1440, L24880, L63, Lm2, pX10_doNow, e1, Int.reduceEq]
      simp [doK]
    · rw [aft_7, setA_e, Int.toNat_natCast, Int.toNat_natCast, ln_k]
      exact NwT_ls hT ho r1 r2 r3
  · obtain ⟨x0, x1, x2⟩ := why8 hy
    obtain ⟨k, rfl⟩ := Int.eq_ofNat_of_zero_le x0
    have e3 : ln T.1 ((k : Int) + 1) = lnN T.1 (k + 1) := rfl
    rw [ln_k, e3] at x2
    obtain ⟨nw, e1, r1, r2, r3⟩ := m_joins hn6 (M := M) (am := am) (m := m) hN h0 (k := k) (by omega) x2
    refine ⟨setA m 7 nw, ?_, ?_, sx7_set m nw⟩
    · simp (disch := (first | assumption | (refine sm_of ?_ ?_ <;> omega) | omega)) only [iI_add, iI_sub, iI_mul, iI_neg, iI_lt, iI_le, iI_eq, b1_s, b2_s, ↓reduceIte, mk_v, mk_gl23, mk_pl23, mk_gr1, mk_gr5, mk_gr6, mk_gr8, mk_gr9, mk_gr11, mk_gr13, mk_gr14, mk_gr15, mk_gr17, mk_gr18, mk_gr21, mk_gr24, mk_gr28, mk_gr30, mk_gr31, mk_gi0, mk_gi2, mk_gi3, mk_gi4, mk_gi7, mk_gi10, mk_gi12, mk_gi16, mk_gi19, mk_gi20, mk_gi22, mk_gi25, mk_gi26, mk_gi27, mk_gi29, mk_gi32, mk_pi0, mk_pi2, mk_pi3, mk_pi4, mk_pi7, mk_pi10, mk_pi12, mk_pi16, mk_pi19, mk_pi20, mk_pi22, mk_pi25, mk_pi26, mk_pi27, mk_pi29, mk_pi32, mk_ia1, mk_ia2, mk_ia3, mk_ia4, mk_ia5, mk_ia6, mk_ia7, mk_ia8, mk_ia9, mk_ia10, mk_ia11, mk_ia12, mk_ia13, mk_ia14, mk_ia15, mk_ia16, mk_is1, mk_is2, mk_is3, mk_is4, mk_is5, mk_is6, mk_is7, mk_is8, mk_is9, mk_is10, mk_is11, mk_is12, mk_is13, mk_is14, mk_is15, mk_is16, L0, L1, L2, L3, L4, L5, L6, L7, L8, L9, L10, L12, L20, L22, L24, L26, L27, L28, L32, L40, L60, L73, L95, L97, L222, L240, L441, L442, L622, Lm1, Lmh, L11, L13, L14, L15, L16, L17, L18, L19, L21, L23, L25, L30, L31, L33, L36, L39, L41, L44, L48, L53, L54, L55, L57, L58, L59, L91, L93, L98, L99, L100, L105, L106, L112, L114, L115, L119, L122, L160, L180, L200, L255, L1440, L24880, L63, Lm2, pX10_doNow, e1, Int.reduceEq]
      simp [doK, ln_k, e3]
    · rw [aft_8, setA_e, Int.toNat_natCast, ln_k, e3]
      exact NwT_ls hT ho r1 (r2.trans hT.2.1) r3
