/-! the reference: the most frequent word, how few signs tell a place -/
theorem filter_first {P : kH → Bool} {L : List kH} {f : Nat} (hf : f < L.length) (hp : P (L.getD f (0, 0)) = true) (hn : ∀ j, j < f → P (L.getD j (0, 0)) = false) : 0 < (L.filter P).length ∧ (L.filter P).getD 0 (0, 0) = L.getD f (0, 0) := by
  have e1 : (L.take f).filter P = [] := by
    rw [List.filter_eq_nil_iff]
    intro y hy
    obtain ⟨i, hi, rfl⟩ := List.mem_iff_getElem.mp hy
    have hi' : i < f ∧ i < L.length := by simp at hi; omega
    have := hn i hi'.1
    rw [List.getD_eq_getElem?_getD, List.getElem?_eq_getElem hi'.2] at this
    simp at this ⊢
    exact this
  have e2 : L.drop f = L.getD f (0, 0) :: L.drop (f + 1) := by
    rw [List.drop_eq_getElem_cons hf, List.getD_eq_getElem?_getD, List.getElem?_eq_getElem hf]; rfl
  have e3 : L.filter P = L.getD f (0, 0) :: (L.drop (f + 1)).filter P := by
    conv => lhs; rw [← List.take_append_drop f L]
    rw [List.filter_append, e1, e2, List.nil_append, List.filter_cons, if_pos hp]
  rw [e3]; simp
theorem aL_mem {ls : List kL} (hd : numD ls) {h : kH} : h ∈ aL ls ↔ h.1 < ls.length ∧ h.2 < (lnN ls h.1).2.length := by
  unfold aL
  rw [fb_mem hd]
  constructor
  · intro q; exact ⟨q.1, q.2.1⟩
  · intro q; exact ⟨q.1, q.2, by simp [hasAt]⟩
theorem aL_ok {ls : List kL} (hd : numD ls) : okH ls (aL ls) := fun h hh => (aL_mem hd).mp hh
theorem aL_200 {ls : List kL} (ho : okL ls) (hd : numD ls) : (aL ls).length ≤ 200 := by
  have a := fb_len hd []
  have b := hitsL_le ls []
  have c := allS_le ho.all
  have := ho.1
  show (fbL ls [] ls.length).length ≤ 200
  omega
/-- a place has the n first signs of another one -/
theorem has_N {ls : List kL} {n i j : Nat} (hi : n ≤ (sfx ls ((aL ls).getD i (0, 0))).length) : hasAt (lnN ls ((aL ls).getD j (0, 0)).1).2 ((sfx ls ((aL ls).getD i (0, 0))).take n) ((aL ls).getD j (0, 0)).2 = true ↔ hasN ls n i j := by
  rw [has_iff]
  have e : ((sfx ls ((aL ls).getD i (0, 0))).take n).length = n := by rw [List.length_take]; omega
  rw [e]
  show n ≤ (sfx ls ((aL ls).getD j (0, 0))).length ∧ (sfx ls ((aL ls).getD j (0, 0))).take n = (sfx ls ((aL ls).getD i (0, 0))).take n ↔ _
  unfold hasN
  constructor
  · intro h; exact ⟨hi, h.1, h.2.symm⟩
  · intro h; exact ⟨h.2.1, h.2.2.symm⟩
theorem sgK_len (ls : List kL) (L : List kH) (i : Nat) : sgK ls L i = ((sfx ls (L.getD i (0, 0))).length : Int) := rfl
/-- the group that opens at f: its first one is the first hit of its word -/
theorem grp_head {ls : List kL} (ho : okL ls) (hd : numD ls) {n f b : Nat} (hn : 1 ≤ n) (hf : f < (aL ls).length) (hb : hts ls (aL ls) n f = b) (hb0 : b ≠ 0) : f + b ≤ (aL ls).length ∧ n ≤ (sfx ls ((aL ls).getD (f + b - 1) (0, 0))).length ∧ 0 < (fbL ls ((sfx ls ((aL ls).getD (f + b - 1) (0, 0))).take n) ls.length).length ∧ (fbL ls ((sfx ls ((aL ls).getD (f + b - 1) (0, 0))).take n) ls.length).getD 0 (0, 0) = (aL ls).getD f (0, 0) := by
  have l200 := aL_200 ho hd
  unfold hts at hb
  have op : opK ls (aL ls) f n = true := by
    cases e : opK ls (aL ls) f n
    · rw [e] at hb; simp at hb; omega
    · rfl
  rw [if_pos op] at hb
  obtain ⟨w1, w2, w3⟩ := wh_spec ls (aL ls) f n 200 1 (by omega)
  have wb := whN_bd ls (aL ls) f n (by omega) 200 1 (by omega)
  rw [hb] at w1 w2 w3 wb
  unfold opK at op
  rw [Bool.and_eq_true] at op
  have o1 := of_decide_eq_true op.1
  have o2 := of_decide_eq_true op.2
  rw [sgK_len] at o1
  have chain : ∀ k, k < b → hasN ls n f (f + k) := by
    intro k
    induction k with
    | zero => intro _; exact ⟨by omega, by rw [Nat.add_zero]; omega, rfl⟩
    | succ k ih =>
      intro hk
      obtain ⟨a1, a2⟩ := w1 (k + 1) (by omega) hk
      rw [show ((f : Int) + ((k + 1 : Nat) : Int) - 1) = ((f + k : Nat) : Int) by omega] at a2
      exact (ih (by omega)).trans ((shK_iff hn (by omega)).mp a2)
  have cb := chain (b - 1) (by omega)
  rw [show f + (b - 1) = f + b - 1 by omega] at cb
  have ff := filter_first (P := fun h => hasAt (lnN ls h.1).2 ((sfx ls ((aL ls).getD (f + b - 1) (0, 0))).take n) h.2) (L := aL ls) hf ((has_N cb.2.1).mpr cb.sym) (fun j hj => by
    show hasAt (lnN ls ((aL ls).getD j (0, 0)).1).2 ((sfx ls ((aL ls).getD (f + b - 1) (0, 0))).take n) ((aL ls).getD j (0, 0)).2 = false
    rw [Bool.eq_false_iff]
    intro z
    have h1 := ((has_N cb.2.1).mp z).sym
    have h2 := h1.trans cb.sym
    have h3 := hasN_cvx hd h2 (show j ≤ f - 1 by omega) (by omega) hf
    have h4 := h3.sym.trans h2
    have h5 : hasN ls n (f - 1) (f - 1 + 1) := by rw [show f - 1 + 1 = f by omega]; exact h4
    have := (shK_iff hn (by omega)).mpr h5
    rw [show ((f - 1 : Nat) : Int) = (f : Int) - 1 by omega] at this
    omega)
  refine ⟨by omega, cb.2.1, ?_, ?_⟩
  · rw [fb_filter hd]; exact ff.1
  · rw [fb_filter hd]; exact ff.2
def frK (ls : List kL) (n y : Int) : Int := if n < 1 ∨ 6 < n then -1 else if (mfN ls (aL ls) n (aL ls).length).1 = -1 then -1 else if y = 0 then (whN ls (aL ls) (mfN ls (aL ls) n (aL ls).length).1 n 200 1 : Int) else if y = 1 then ((gH (aL ls) (mfN ls (aL ls) n (aL ls).length).1).1 : Int) else if y = 2 then ((gH (aL ls) (mfN ls (aL ls) n (aL ls).length).1).2 : Int) else -1
def sxo (m m' : mS) : Prop := (∀ j, j ≠ 0 → j ≠ 10 → j ≠ 11 → m'.1 j = m.1 j) ∧ ∀ x, x ≠ 19 → x ≠ 20 → x ≠ 25 → x ≠ 26 → x ≠ 27 → m'.1 0 x = m.1 0 x
theorem sxo.trans {m m1 m2 : mS} (h : sxo m m1) (g : sxo m1 m2) : sxo m m2 := ⟨fun j a b c => (g.1 j a b c).trans (h.1 j a b c), fun x a b c d e => (g.2 x a b c d e).trans (h.2 x a b c d e)⟩
theorem sx.o {m m' : mS} (h : sx m m') : sxo m m' := ⟨h.2.1, fun x a b _ _ _ => h.2.2 x a b⟩
theorem m_often {n : Nat} (hn : 300 ≤ n) {M : mm_M} {am : Nat} {m : mS} {T : kT} {wd : List Int} (h : Mq m T wd) {y : Nat} (hy : 1 ≤ y ∧ y ≤ 6) : ∃ m', pX10_laysOften n (mk M am m) am (iI y) = some (mk M am m') ∧ m'.1 0 25 = (amx (hts T.1 (aL T.1) y) (aL T.1).length).1 ∧ ((amx (hts T.1 (aL T.1) y) (aL T.1).length).1 ≠ 0 → m'.1 0 26 = ((aL T.1).getD (amx (hts T.1 (aL T.1) y) (aL T.1).length).2 (0, 0)).1 ∧ m'.1 0 27 = ((aL T.1).getD (amx (hts T.1 (aL T.1) y) (aL T.1).length).2 (0, 0)).2) ∧ sxo m m' := by
  obtain ⟨m1, e1, hH, hok, f1, w20⟩ := m_la hn (M := M) (am := am) h
  obtain ⟨h1, h2, -⟩ := f1.q h
  have ho := h2.1
  have hd := h2.2.1
  have l200 := aL_200 ho hd
  have hall := ho.all
  obtain ⟨ar1, ar2⟩ := amx_run T.1 (aL T.1) y (by omega) l200
  have gh := fun (f b : Nat) (a1 : f < (aL T.1).length) (a2 : hts T.1 (aL T.1) y f = b) (a3 : b ≠ 0) => grp_head ho hd hy.1 a1 a2 a3
  have hx := amx_at (hts T.1 (aL T.1) y) (aL T.1).length
  have rb : ∀ i, i < (aL T.1).length → rnv T.1 (aL T.1) y i ≤ 200 := fun i hi => by have := (rn_spec T.1 (aL T.1) y (by omega) i hi).1; omega
  have ab : ∀ i, i ≤ (aL T.1).length → (amx (rnv T.1 (aL T.1) y) i).1 ≤ 200 ∧ (amx (rnv T.1 (aL T.1) y) i).2 < (aL T.1).length + 1 := by
    intro i hi
    rcases amx_at (rnv T.1 (aL T.1) y) i with z | ⟨z1, z2, z3⟩
    · refine ⟨by omega, ?_⟩
      by_cases e : (amx (rnv T.1 (aL T.1) y) i).2 < (aL T.1).length + 1
      · exact e
      · exfalso
        have : ∀ k, k ≤ (aL T.1).length → (amx (rnv T.1 (aL T.1) y) k).2 ≤ k := by
          intro k
          induction k with
          | zero => intro _; simp [amx]
          | succ k ih => intro hk; simp only [amx]; split; (show k ≤ k + 1; omega); (have := ih (by omega); omega)
        have := this i hi
        omega
    · exact ⟨by rw [← z2]; exact rb _ (by omega), by omega⟩
  -- the loop
  have sh : ∀ (m' : mS), NwL (m'.1 7) T.1 → Hl m' (aL T.1) → m'.1 0 20 = ((0 : Nat) : Int) → ∀ k : Nat, k + 1 < (aL T.1).length → pX10_sharedAt n (mk M am m') am (iI k) = some (iI (shK T.1 (aL T.1) k), mk M am m') := fun m' a b c k hk => m_shared hn (M := M) (am := am) a ho b hok c hk
  have rs : ∀ (m' : mS), NwL (m'.1 7) T.1 → Hl m' (aL T.1) → ∀ k : Nat, k < (aL T.1).length → pX10_restOf n (mk M am m') am (iI k) = some (iI (sgK T.1 (aL T.1) k), mk M am m') := fun m' a b k hk => m_rest a ho b hok hk
  have loop : ∀ (k i : Nat) (m' : mS), NwL (m'.1 7) T.1 → Hl m' (aL T.1) → m'.1 0 20 = ((0 : Nat) : Int) → m'.1 0 25 = (amx (rnv T.1 (aL T.1) y) i).1 → ((amx (rnv T.1 (aL T.1) y) i).1 ≠ 0 → m'.1 0 26 = ((aL T.1).getD (amx (rnv T.1 (aL T.1) y) i).2 (0, 0)).1 ∧ m'.1 0 27 = ((aL T.1).getD (amx (rnv T.1 (aL T.1) y) i).2 (0, 0)).2) → i ≤ (aL T.1).length → (aL T.1).length < i + k → ∃ m2, pX10_laysOften_l13 n k (mk M am m') am (iI y) (iI (if i = 0 then 0 else rnv T.1 (aL T.1) y (i - 1) : Nat)) (iI i) = pX10_laysOften_b96 n (mk M am m2) am (iI y) ∧ m2.1 0 25 = (amx (rnv T.1 (aL T.1) y) (aL T.1).length).1 ∧ ((amx (rnv T.1 (aL T.1) y) (aL T.1).length).1 ≠ 0 → m2.1 0 26 = ((aL T.1).getD (amx (rnv T.1 (aL T.1) y) (aL T.1).length).2 (0, 0)).1 ∧ m2.1 0 27 = ((aL T.1).getD (amx (rnv T.1 (aL T.1) y) (aL T.1).length).2 (0, 0)).2) ∧ (∀ j, j ≠ 0 → m2.1 j = m'.1 j) ∧ ∀ x, x ≠ 25 → x ≠ 26 → x ≠ 27 → m2.1 0 x = m'.1 0 x := by
    intro k
    induction k with
    | zero => intro i m' _ _ _ _ _ a b; omega
    | succ k ih =>
      intro i m' hN hH h20 h25 h26 i1 i2
      show ∃ m2, pX10_laysOften_l13b n (pX10_laysOften_l13 n k) (mk M am m') am _ _ _ = _ ∧ _
      have h19 := hH.2.1
      by_cases d : ((aL T.1).length : Int) ≤ i
      · have ei : i = (aL T.1).length := by omega
        refine ⟨m', ?_, by rw [← ei]; exact h25, by rw [← ei]; exact h26, fun _ _ => rfl, fun _ _ _ _ => rfl⟩
        simp (disch := (first | assumption | (refine sm_of ?_ ?_ <;> omega) | omega)) only [iI_add, iI_sub, iI_mul, iI_neg, iI_lt, iI_le, iI_eq, b1_s, b2_s, ↓reduceIte, mk_v, mk_gl23, mk_pl23, mk_gr1, mk_gr5, mk_gr6, mk_gr8, mk_gr9, mk_gr11, mk_gr13, mk_gr14, mk_gr15, mk_gr17, mk_gr18, mk_gr21, mk_gr24, mk_gr28, mk_gr30, mk_gr31, mk_gi0, mk_gi2, mk_gi3, mk_gi4, mk_gi7, mk_gi10, mk_gi12, mk_gi16, mk_gi19, mk_gi20, mk_gi22, mk_gi25, mk_gi26, mk_gi27, mk_gi29, mk_gi32, mk_pi0, mk_pi2, mk_pi3, mk_pi4, mk_pi7, mk_pi10, mk_pi12, mk_pi16, mk_pi19, mk_pi20, mk_pi22, mk_pi25, mk_pi26, mk_pi27, mk_pi29, mk_pi32, mk_ia1, mk_ia2, mk_ia3, mk_ia4, mk_ia5, mk_ia6, mk_ia7, mk_ia8, mk_ia9, mk_ia10, mk_ia11, mk_ia12, mk_ia13, mk_ia14, mk_ia15, mk_ia16, mk_is1, mk_is2, mk_is3, mk_is4, mk_is5, mk_is6, mk_is7, mk_is8, mk_is9, mk_is10, mk_is11, mk_is12, mk_is13, mk_is14, mk_is15, mk_is16, L0, L1, L2, L3, L4, L5, L6, L7, L8, L9, L10, L12, L20, L22, L24, L26, L27, L28, L32, L40, L60, L73, L95, L97, L222, L240, L441, L442, L622, Lm1, Lmh, L11, L13, L14, L15, L16, L17, L18, L19, L21, L23, L25, L30, L31, L33, L36, L39, L41, L44, L48, L53, L54, L55, L57, L58, L59, L91, L93, L98, L99, L100, L105, L106, L112, L114, L115, L119, L122, L160, L180, L200, L255, L1440, L24880, L63, Lm2, pX10_laysOften_l13b, h19, d]
      · have hi : i < (aL T.1).length := by omega
        have r1 := rs m' hN hH i hi
        have s1 := sh m' hN hH h20
        obtain ⟨a1, a2⟩ := hH.2.2 i hi
        have sb := sgK_bd ho hok hi
        have rbi := rb i hi
        have abi := (ab i (by omega)).1
        have ri := rb (i - 1) (by omega)
        -- the run at i
        have b56 : ∃ m2, pX10_laysOften_b56 n (pX10_laysOften_l13 n k) (mk M am m') am (iI y) (iI i) (iI (rnv T.1 (aL T.1) y i)) = pX10_laysOften_b96 n (mk M am m2) am (iI y) ∧ m2.1 0 25 = (amx (rnv T.1 (aL T.1) y) (aL T.1).length).1 ∧ ((amx (rnv T.1 (aL T.1) y) (aL T.1).length).1 ≠ 0 → m2.1 0 26 = ((aL T.1).getD (amx (rnv T.1 (aL T.1) y) (aL T.1).length).2 (0, 0)).1 ∧ m2.1 0 27 = ((aL T.1).getD (amx (rnv T.1 (aL T.1) y) (aL T.1).length).2 (0, 0)).2) ∧ (∀ j, j ≠ 0 → m2.1 j = m'.1 j) ∧ ∀ x, x ≠ 25 → x ≠ 26 → x ≠ 27 → m2.1 0 x = m'.1 0 x := by
          by_cases g : (amx (rnv T.1 (aL T.1) y) i).1 < rnv T.1 (aL T.1) y i
          · have ea : amx (rnv T.1 (aL T.1) y) (i + 1) = (rnv T.1 (aL T.1) y i, i) := by simp only [amx]; rw [if_pos g]
            obtain ⟨m2, e2, c1, c2, c3, c4⟩ := ih (i + 1) (setA m' 0 (upI (upI (upI (m'.1 0) 25 (rnv T.1 (aL T.1) y i)) 26 ((aL T.1).getD i (0, 0)).1) 27 ((aL T.1).getD i (0, 0)).2)) (by rw [setA_n _ _ (by decide)]; exact hN) ⟨hH.1, by rw [setA_e, upI_n _ _ (by decide), upI_n _ _ (by decide), upI_n _ _ (by decide)]; exact hH.2.1, fun q hq => by rw [setA_n _ _ (by decide), setA_n _ _ (by decide)]; exact hH.2.2 q hq⟩ (by rw [setA_e, upI_n _ _ (by decide), upI_n _ _ (by decide), upI_n _ _ (by decide)]; exact h20) (by rw [ea, setA_e, upI_n _ _ (by decide), upI_n _ _ (by decide), upI_e]) (fun _ => by rw [ea, setA_e, upI_n _ _ (by decide), upI_e, upI_e]; exact ⟨rfl, rfl⟩) (by omega) (by omega)
            refine ⟨m2, ?_, c1, c2, fun j j0 => by rw [c3 j j0, setA_n _ _ j0], fun x x1 x2 x3 => by rw [c4 x x1 x2 x3, setA_e, upI_n _ _ x3, upI_n _ _ x2, upI_n _ _ x1]⟩
            rw [if_neg (by omega), show i + 1 - 1 = i by omega] at e2
            simp (disch := (first | assumption | (refine sm_of ?_ ?_ <;> omega) | omega)) only [iI_add, iI_sub, iI_mul, iI_neg, iI_lt, iI_le, iI_eq, b1_s, b2_s, ↓reduceIte, mk_v, mk_gl23, mk_pl23, mk_gr1, mk_gr5, mk_gr6, mk_gr8, mk_gr9, mk_gr11, mk_gr13, mk_gr14, mk_gr15, mk_gr17, mk_gr18, mk_gr21, mk_gr24, mk_gr28, mk_gr30, mk_gr31, mk_gi0, mk_gi2, mk_gi3, mk_gi4, mk_gi7, mk_gi10, mk_gi12, mk_gi16, mk_gi19, mk_gi20, mk_gi22, mk_gi25, mk_gi26, mk_gi27, mk_gi29, mk_gi32, mk_pi0, mk_pi2, mk_pi3, mk_pi4, mk_pi7, mk_pi10, mk_pi12, mk_pi16, mk_pi19, mk_pi20, mk_pi22, mk_pi25, mk_pi26, mk_pi27, mk_pi29, mk_pi32, mk_ia1, mk_ia2, mk_ia3, mk_ia4, mk_ia5, mk_ia6, mk_ia7, mk_ia8, mk_ia9, mk_ia10, mk_ia11, mk_ia12, mk_ia13, mk_ia14, mk_ia15, mk_ia16, mk_is1, mk_is2, mk_is3, mk_is4, mk_is5, mk_is6, mk_is7, mk_is8, mk_is9, mk_is10, mk_is11, mk_is12, mk_is13, mk_is14, mk_is15, mk_is16, L0, L1, L2, L3, L4, L5, L6, L7, L8, L9, L10, L12, L20, L22, L24, L26, L27, L28, L32, L40, L60, L73, L95, L97, L222, L240, L441, L442, L622, Lm1, Lmh, L11, L13, L14, L15, L16, L17, L18, L19, L21, L23, L25, L30, L31, L33, L36, L39, L41, L44, L48, L53, L54, L55, L57, L58, L59, L91, L93, L98, L99, L100, L105, L106, L112, L114, L115, L119, L122, L160, L180, L200, L255, L1440, L24880, L63, Lm2, pX10_laysOften_b56, h25, show ¬ (rnv T.1 (aL T.1) y i : Int) ≤ (amx (rnv T.1 (aL T.1) y) i).1 by omega, setA_n, a1, a2, setA_e, setA_setA]
            rw [show ((i : Int) + 1) = ((i + 1 : Nat) : Int) by omega, e2]
          · have ea : amx (rnv T.1 (aL T.1) y) (i + 1) = amx (rnv T.1 (aL T.1) y) i := by simp only [amx]; rw [if_neg g]
            obtain ⟨m2, e2, c1, c2, c3, c4⟩ := ih (i + 1) m' hN hH h20 (by rw [ea]; exact h25) (by rw [ea]; exact h26) (by omega) (by omega)
            refine ⟨m2, ?_, c1, c2, c3, c4⟩
            rw [if_neg (by omega), show i + 1 - 1 = i by omega] at e2
            simp (disch := (first | assumption | (refine sm_of ?_ ?_ <;> omega) | omega)) only [iI_add, iI_sub, iI_mul, iI_neg, iI_lt, iI_le, iI_eq, b1_s, b2_s, ↓reduceIte, mk_v, mk_gl23, mk_pl23, mk_gr1, mk_gr5, mk_gr6, mk_gr8, mk_gr9, mk_gr11, mk_gr13, mk_gr14, mk_gr15, mk_gr17, mk_gr18, mk_gr21, mk_gr24, mk_gr28, mk_gr30, mk_gr31, mk_gi0, mk_gi2, mk_gi3, mk_gi4, mk_gi7, mk_gi10, mk_gi12, mk_gi16, mk_gi19, mk_gi20, mk_gi22, mk_gi25, mk_gi26, mk_gi27, mk_gi29, mk_gi32, mk_pi0, mk_pi2, mk_pi3, mk_pi4, mk_pi7, mk_pi10, mk_pi12, mk_pi16, mk_pi19, mk_pi20, mk_pi22, mk_pi25, mk_pi26, mk_pi27, mk_pi29, mk_pi32, mk_ia1, mk_ia2, mk_ia3, mk_ia4, mk_ia5, mk_ia6, mk_ia7, mk_ia8, mk_ia9, mk_ia10, mk_ia11, mk_ia12, mk_ia13, mk_ia14, mk_ia15, mk_ia16, mk_is1, mk_is2, mk_is3, mk_is4, mk_is5, mk_is6, mk_is7, mk_is8, mk_is9, mk_is10, mk_is11, mk_is12, mk_is13, mk_is14, mk_is15, mk_is16, L0, L1, L2, L3, L4, L5, L6, L7, L8, L9, L10, L12, L20, L22, L24, L26, L27, L28, L32, L40, L60, L73, L95, L97, L222, L240, L441, L442, L622, Lm1, Lmh, L11, L13, L14, L15, L16, L17, L18, L19, L21, L23, L25, L30, L31, L33, L36, L39, L41, L44, L48, L53, L54, L55, L57, L58, L59, L91, L93, L98, L99, L100, L105, L106, L112, L114, L115, L119, L122, L160, L180, L200, L255, L1440, L24880, L63, Lm2, pX10_laysOften_b56, h25, show (rnv T.1 (aL T.1) y i : Int) ≤ (amx (rnv T.1 (aL T.1) y) i).1 by omega]
            rw [show ((i : Int) + 1) = ((i + 1 : Nat) : Int) by omega, e2]
        obtain ⟨m2, e2, rest⟩ := b56
        refine ⟨m2, ?_, rest⟩
        by_cases z0 : i = 0
        · subst z0
          have er : rnv T.1 (aL T.1) y 0 = if sgK T.1 (aL T.1) 0 < y then 0 else 1 := rfl
          have r1 : pX10_restOf n (mk M am m') am (iI 0) = some (iI (sgK T.1 (aL T.1) 0), mk M am m') := r1
          have sb : 1 ≤ sgK T.1 (aL T.1) 0 ∧ sgK T.1 (aL T.1) 0 ≤ 20 := sb
          have d : ¬ ((aL T.1).length : Int) ≤ 0 := d
          by_cases g : (y : Int) ≤ sgK T.1 (aL T.1) 0
          · rw [if_neg (by omega)] at er
            rw [er] at e2
            show pX10_laysOften_l13b n (pX10_laysOften_l13 n k) (mk M am m') am (iI y) _ (iI 0) = _
            simp (disch := (first | assumption | (refine sm_of ?_ ?_ <;> omega) | omega)) only [iI_add, iI_sub, iI_mul, iI_neg, iI_lt, iI_le, iI_eq, b1_s, b2_s, ↓reduceIte, mk_v, mk_gl23, mk_pl23, mk_gr1, mk_gr5, mk_gr6, mk_gr8, mk_gr9, mk_gr11, mk_gr13, mk_gr14, mk_gr15, mk_gr17, mk_gr18, mk_gr21, mk_gr24, mk_gr28, mk_gr30, mk_gr31, mk_gi0, mk_gi2, mk_gi3, mk_gi4, mk_gi7, mk_gi10, mk_gi12, mk_gi16, mk_gi19, mk_gi20, mk_gi22, mk_gi25, mk_gi26, mk_gi27, mk_gi29, mk_gi32, mk_pi0, mk_pi2, mk_pi3, mk_pi4, mk_pi7, mk_pi10, mk_pi12, mk_pi16, mk_pi19, mk_pi20, mk_pi22, mk_pi25, mk_pi26, mk_pi27, mk_pi29, mk_pi32, mk_ia1, mk_ia2, mk_ia3, mk_ia4, mk_ia5, mk_ia6, mk_ia7, mk_ia8, mk_ia9, mk_ia10, mk_ia11, mk_ia12, mk_ia13, mk_ia14, mk_ia15, mk_ia16, mk_is1, mk_is2, mk_is3, mk_is4, mk_is5, mk_is6, mk_is7, mk_is8, mk_is9, mk_is10, mk_is11, mk_is12, mk_is13, mk_is14, mk_is15, mk_is16, L0, L1, L2, L3, L4, L5, L6, L7, L8, L9, L10, L12, L20, L22, L24, L26, L27, L28, L32, L40, L60, L73, L95, L97, L222, L240, L441, L442, L622, Lm1, Lmh, L11, L13, L14, L15, L16, L17, L18, L19, L21, L23, L25, L30, L31, L33, L36, L39, L41, L44, L48, L53, L54, L55, L57, L58, L59, L91, L93, L98, L99, L100, L105, L106, L112, L114, L115, L119, L122, L160, L180, L200, L255, L1440, L24880, L63, Lm2, pX10_laysOften_l13b, h19, d, r1, g, Int.le_refl]
            exact e2
          · rw [if_pos (by omega)] at er
            rw [er] at e2
            show pX10_laysOften_l13b n (pX10_laysOften_l13 n k) (mk M am m') am (iI y) _ (iI 0) = _
            simp (disch := (first | assumption | (refine sm_of ?_ ?_ <;> omega) | omega)) only [iI_add, iI_sub, iI_mul, iI_neg, iI_lt, iI_le, iI_eq, b1_s, b2_s, ↓reduceIte, mk_v, mk_gl23, mk_pl23, mk_gr1, mk_gr5, mk_gr6, mk_gr8, mk_gr9, mk_gr11, mk_gr13, mk_gr14, mk_gr15, mk_gr17, mk_gr18, mk_gr21, mk_gr24, mk_gr28, mk_gr30, mk_gr31, mk_gi0, mk_gi2, mk_gi3, mk_gi4, mk_gi7, mk_gi10, mk_gi12, mk_gi16, mk_gi19, mk_gi20, mk_gi22, mk_gi25, mk_gi26, mk_gi27, mk_gi29, mk_gi32, mk_pi0, mk_pi2, mk_pi3, mk_pi4, mk_pi7, mk_pi10, mk_pi12, mk_pi16, mk_pi19, mk_pi20, mk_pi22, mk_pi25, mk_pi26, mk_pi27, mk_pi29, mk_pi32, mk_ia1, mk_ia2, mk_ia3, mk_ia4, mk_ia5, mk_ia6, mk_ia7, mk_ia8, mk_ia9, mk_ia10, mk_ia11, mk_ia12, mk_ia13, mk_ia14, mk_ia15, mk_ia16, mk_is1, mk_is2, mk_is3, mk_is4, mk_is5, mk_is6, mk_is7, mk_is8, mk_is9, mk_is10, mk_is11, mk_is12, mk_is13, mk_is14, mk_is15, mk_is16, L0, L1, L2, L3, L4, L5, L6, L7, L8, L9, L10, L12, L20, L22, L24, L26, L27, L28, L32, L40, L60, L73, L95, L97, L222, L240, L441, L442, L622, Lm1, Lmh, L11, L13, L14, L15, L16, L17, L18, L19, L21, L23, L25, L30, L31, L33, L36, L39, L41, L44, L48, L53, L54, L55, L57, L58, L59, L91, L93, L98, L99, L100, L105, L106, L112, L114, L115, L119, L122, L160, L180, L200, L255, L1440, L24880, L63, Lm2, pX10_laysOften_l13b, h19, d, r1, g]
            exact e2
        · obtain ⟨j, rfl⟩ : ∃ j, i = j + 1 := ⟨i - 1, by omega⟩
          have er : rnv T.1 (aL T.1) y (j + 1) = if sgK T.1 (aL T.1) ((j + 1 : Nat) : Int) < y then 0 else if shK T.1 (aL T.1) j < y then 1 else rnv T.1 (aL T.1) y j + 1 := rfl
          have s2 := s1 j (by omega)
          have shb := shK_bd T.1 (aL T.1) j hall
          rw [if_neg (by omega), show j + 1 - 1 = j by omega]
          rw [show j + 1 - 1 = j by omega] at ri
          by_cases g : (y : Int) ≤ sgK T.1 (aL T.1) ((j + 1 : Nat) : Int)
          · rw [if_neg (by omega)] at er
            by_cases g2 : shK T.1 (aL T.1) j < y
            · rw [if_pos g2] at er
              rw [er] at e2
              simp (disch := (first | assumption | (refine sm_of ?_ ?_ <;> omega) | omega)) only [iI_add, iI_sub, iI_mul, iI_neg, iI_lt, iI_le, iI_eq, b1_s, b2_s, ↓reduceIte, mk_v, mk_gl23, mk_pl23, mk_gr1, mk_gr5, mk_gr6, mk_gr8, mk_gr9, mk_gr11, mk_gr13, mk_gr14, mk_gr15, mk_gr17, mk_gr18, mk_gr21, mk_gr24, mk_gr28, mk_gr30, mk_gr31, mk_gi0, mk_gi2, mk_gi3, mk_gi4, mk_gi7, mk_gi10, mk_gi12, mk_gi16, mk_gi19, mk_gi20, mk_gi22, mk_gi25, mk_gi26, mk_gi27, mk_gi29, mk_gi32, mk_pi0, mk_pi2, mk_pi3, mk_pi4, mk_pi7, mk_pi10, mk_pi12, mk_pi16, mk_pi19, mk_pi20, mk_pi22, mk_pi25, mk_pi26, mk_pi27, mk_pi29, mk_pi32, mk_ia1, mk_ia2, mk_ia3, mk_ia4, mk_ia5, mk_ia6, mk_ia7, mk_ia8, mk_ia9, mk_ia10, mk_ia11, mk_ia12, mk_ia13, mk_ia14, mk_ia15, mk_ia16, mk_is1, mk_is2, mk_is3, mk_is4, mk_is5, mk_is6, mk_is7, mk_is8, mk_is9, mk_is10, mk_is11, mk_is12, mk_is13, mk_is14, mk_is15, mk_is16, L0, L1, L2, L3, L4, L5, L6, L7, L8, L9, L10, L12, L20, L22, L24, L26, L27, L28, L32, L40, L60, L73, L95, L97, L222, L240, L441, L442, L622, Lm1, Lmh, L11, L13, L14, L15, L16, L17, L18, L19, L21, L23, L25, L30, L31, L33, L36, L39, L41, L44, L48, L53, L54, L55, L57, L58, L59, L91, L93, L98, L99, L100, L105, L106, L112, L114, L115, L119, L122, L160, L180, L200, L255, L1440, L24880, L63, Lm2, pX10_laysOften_l13b, h19, d, r1, g, show ¬ ((j + 1 : Nat) : Int) ≤ 0 by omega, show (((j + 1 : Nat) : Int) - 1) = (j : Int) by omega, s2, g2]
              exact e2
            · rw [if_neg g2] at er
              rw [er] at e2
              simp (disch := (first | assumption | (refine sm_of ?_ ?_ <;> omega) | omega)) only [iI_add, iI_sub, iI_mul, iI_neg, iI_lt, iI_le, iI_eq, b1_s, b2_s, ↓reduceIte, mk_v, mk_gl23, mk_pl23, mk_gr1, mk_gr5, mk_gr6, mk_gr8, mk_gr9, mk_gr11, mk_gr13, mk_gr14, mk_gr15, mk_gr17, mk_gr18, mk_gr21, mk_gr24, mk_gr28, mk_gr30, mk_gr31, mk_gi0, mk_gi2, mk_gi3, mk_gi4, mk_gi7, mk_gi10, mk_gi12, mk_gi16, mk_gi19, mk_gi20, mk_gi22, mk_gi25, mk_gi26, mk_gi27, mk_gi29, mk_gi32, mk_pi0, mk_pi2, mk_pi3, mk_pi4, mk_pi7, mk_pi10, mk_pi12, mk_pi16, mk_pi19, mk_pi20, mk_pi22, mk_pi25, mk_pi26, mk_pi27, mk_pi29, mk_pi32, mk_ia1, mk_ia2, mk_ia3, mk_ia4, mk_ia5, mk_ia6, mk_ia7, mk_ia8, mk_ia9, mk_ia10, mk_ia11, mk_ia12, mk_ia13, mk_ia14, mk_ia15, mk_ia16, mk_is1, mk_is2, mk_is3, mk_is4, mk_is5, mk_is6, mk_is7, mk_is8, mk_is9, mk_is10, mk_is11, mk_is12, mk_is13, mk_is14, mk_is15, mk_is16, L0, L1, L2, L3, L4, L5, L6, L7, L8, L9, L10, L12, L20, L22, L24, L26, L27, L28, L32, L40, L60, L73, L95, L97, L222, L240, L441, L442, L622, Lm1, Lmh, L11, L13, L14, L15, L16, L17, L18, L19, L21, L23, L25, L30, L31, L33, L36, L39, L41, L44, L48, L53, L54, L55, L57, L58, L59, L91, L93, L98, L99, L100, L105, L106, L112, L114, L115, L119, L122, L160, L180, L200, L255, L1440, L24880, L63, Lm2, pX10_laysOften_l13b, h19, d, r1, g, show ¬ ((j + 1 : Nat) : Int) ≤ 0 by omega, show (((j + 1 : Nat) : Int) - 1) = (j : Int) by omega, s2, g2]
              exact e2
          · rw [if_pos (by omega)] at er
            rw [er] at e2
            simp (disch := (first | assumption | (refine sm_of ?_ ?_ <;> omega) | omega)) only [iI_add, iI_sub, iI_mul, iI_neg, iI_lt, iI_le, iI_eq, b1_s, b2_s, ↓reduceIte, mk_v, mk_gl23, mk_pl23, mk_gr1, mk_gr5, mk_gr6, mk_gr8, mk_gr9, mk_gr11, mk_gr13, mk_gr14, mk_gr15, mk_gr17, mk_gr18, mk_gr21, mk_gr24, mk_gr28, mk_gr30, mk_gr31, mk_gi0, mk_gi2, mk_gi3, mk_gi4, mk_gi7, mk_gi10, mk_gi12, mk_gi16, mk_gi19, mk_gi20, mk_gi22, mk_gi25, mk_gi26, mk_gi27, mk_gi29, mk_gi32, mk_pi0, mk_pi2, mk_pi3, mk_pi4, mk_pi7, mk_pi10, mk_pi12, mk_pi16, mk_pi19, mk_pi20, mk_pi22, mk_pi25, mk_pi26, mk_pi27, mk_pi29, mk_pi32, mk_ia1, mk_ia2, mk_ia3, mk_ia4, mk_ia5, mk_ia6, mk_ia7, mk_ia8, mk_ia9, mk_ia10, mk_ia11, mk_ia12, mk_ia13, mk_ia14, mk_ia15, mk_ia16, mk_is1, mk_is2, mk_is3, mk_is4, mk_is5, mk_is6, mk_is7, mk_is8, mk_is9, mk_is10, mk_is11, mk_is12, mk_is13, mk_is14, mk_is15, mk_is16, L0, L1, L2, L3, L4, L5, L6, L7, L8, L9, L10, L12, L20, L22, L24, L26, L27, L28, L32, L40, L60, L73, L95, L97, L222, L240, L441, L442, L622, Lm1, Lmh, L11, L13, L14, L15, L16, L17, L18, L19, L21, L23, L25, L30, L31, L33, L36, L39, L41, L44, L48, L53, L54, L55, L57, L58, L59, L91, L93, L98, L99, L100, L105, L106, L112, L114, L115, L119, L122, L160, L180, L200, L255, L1440, L24880, L63, Lm2, pX10_laysOften_l13b, h19, d, r1, g]
            exact e2
  obtain ⟨m2, e2, c25, c26, cj, cx⟩ := loop n 0 (setA m1 0 (upI (m1.1 0) 25 0)) (by rw [setA_n _ _ (by decide)]; exact h1.1) ⟨hH.1, by rw [setA_e, upI_n _ _ (by decide)]; exact hH.2.1, fun q hq => by rw [setA_n _ _ (by decide), setA_n _ _ (by decide)]; exact hH.2.2 q hq⟩ (by rw [setA_e, upI_n _ _ (by decide)]; exact w20) (by rw [setA_e, upI_e]; rfl) (fun z => absurd rfl z) (by omega) (by omega)
  rw [if_pos rfl] at e2
  have e2 : pX10_laysOften_l13 n n (mk M am (setA m1 0 (upI (m1.1 0) 25 0))) am (iI y) (iI 0) (iI 0) = _ := e2
  have tot : pX10_laysOften n (mk M am m) am (iI y) = pX10_laysOften_b96 n (mk M am m2) am (iI y) := by
    simp (disch := (first | assumption | (refine sm_of ?_ ?_ <;> omega) | omega)) only [iI_add, iI_sub, iI_mul, iI_neg, iI_lt, iI_le, iI_eq, b1_s, b2_s, ↓reduceIte, mk_v, mk_gl23, mk_pl23, mk_gr1, mk_gr5, mk_gr6, mk_gr8, mk_gr9, mk_gr11, mk_gr13, mk_gr14, mk_gr15, mk_gr17, mk_gr18, mk_gr21, mk_gr24, mk_gr28, mk_gr30, mk_gr31, mk_gi0, mk_gi2, mk_gi3, mk_gi4, mk_gi7, mk_gi10, mk_gi12, mk_gi16, mk_gi19, mk_gi20, mk_gi22, mk_gi25, mk_gi26, mk_gi27, mk_gi29, mk_gi32, mk_pi0, mk_pi2, mk_pi3, mk_pi4, mk_pi7, mk_pi10, mk_pi12, mk_pi16, mk_pi19, mk_pi20, mk_pi22, mk_pi25, mk_pi26, mk_pi27, mk_pi29, mk_pi32, mk_ia1, mk_ia2, mk_ia3, mk_ia4, mk_ia5, mk_ia6, mk_ia7, mk_ia8, mk_ia9, mk_ia10, mk_ia11, mk_ia12, mk_ia13, mk_ia14, mk_ia15, mk_ia16, mk_is1, mk_is2, mk_is3, mk_is4, mk_is5, mk_is6, mk_is7, mk_is8, mk_is9, mk_is10, mk_is11, mk_is12, mk_is13, mk_is14, mk_is15, mk_is16, L0, L1, L2, L3, L4, L5, L6, L7, L8, L9, L10, L12, L20, L22, L24, L26, L27, L28, L32, L40, L60, L73, L95, L97, L222, L240, L441, L442, L622, Lm1, Lmh, L11, L13, L14, L15, L16, L17, L18, L19, L21, L23, L25, L30, L31, L33, L36, L39, L41, L44, L48, L53, L54, L55, L57, L58, L59, L91, L93, L98, L99, L100, L105, L106, L112, L114, L115, L119, L122, L160, L180, L200, L255, L1440, L24880, L63, Lm2, pX10_laysOften, e1]
    exact e2
  have so1 : sxo m m2 := f1.o.trans ⟨fun j j0 _ _ => by rw [cj j j0, setA_n _ _ j0], fun x _ _ x25 x26 x27 => by rw [cx x x25 x26 x27, setA_e, upI_n _ _ x25]⟩
  have abl := ab (aL T.1).length (Nat.le_refl _)
  rw [ar1] at c25 c26 ar2
  by_cases z : (amx (hts T.1 (aL T.1) y) (aL T.1).length).1 = 0
  · refine ⟨m2, ?_, c25, fun q => absurd z q, so1⟩
    rw [tot]
    rw [z] at c25
    simp (disch := (first | assumption | (refine sm_of ?_ ?_ <;> omega) | omega)) only [iI_add, iI_sub, iI_mul, iI_neg, iI_lt, iI_le, iI_eq, b1_s, b2_s, ↓reduceIte, mk_v, mk_gl23, mk_pl23, mk_gr1, mk_gr5, mk_gr6, mk_gr8, mk_gr9, mk_gr11, mk_gr13, mk_gr14, mk_gr15, mk_gr17, mk_gr18, mk_gr21, mk_gr24, mk_gr28, mk_gr30, mk_gr31, mk_gi0, mk_gi2, mk_gi3, mk_gi4, mk_gi7, mk_gi10, mk_gi12, mk_gi16, mk_gi19, mk_gi20, mk_gi22, mk_gi25, mk_gi26, mk_gi27, mk_gi29, mk_gi32, mk_pi0, mk_pi2, mk_pi3, mk_pi4, mk_pi7, mk_pi10, mk_pi12, mk_pi16, mk_pi19, mk_pi20, mk_pi22, mk_pi25, mk_pi26, mk_pi27, mk_pi29, mk_pi32, mk_ia1, mk_ia2, mk_ia3, mk_ia4, mk_ia5, mk_ia6, mk_ia7, mk_ia8, mk_ia9, mk_ia10, mk_ia11, mk_ia12, mk_ia13, mk_ia14, mk_ia15, mk_ia16, mk_is1, mk_is2, mk_is3, mk_is4, mk_is5, mk_is6, mk_is7, mk_is8, mk_is9, mk_is10, mk_is11, mk_is12, mk_is13, mk_is14, mk_is15, mk_is16, L0, L1, L2, L3, L4, L5, L6, L7, L8, L9, L10, L12, L20, L22, L24, L26, L27, L28, L32, L40, L60, L73, L95, L97, L222, L240, L441, L442, L622, Lm1, Lmh, L11, L13, L14, L15, L16, L17, L18, L19, L21, L23, L25, L30, L31, L33, L36, L39, L41, L44, L48, L53, L54, L55, L57, L58, L59, L91, L93, L98, L99, L100, L105, L106, L112, L114, L115, L119, L122, L160, L180, L200, L255, L1440, L24880, L63, Lm2, pX10_laysOften_b96, c25]
    simp
  · obtain ⟨b26, b27⟩ := c26 z
    have a2 := ar2 z
    rcases hx with x | ⟨x1, x2, x3⟩
    · exact absurd x z
    · obtain ⟨g1, g2, g3, g4⟩ := gh _ _ x1 x2 z
      rw [show (amx (rnv T.1 (aL T.1) y) (aL T.1).length).2 = (amx (hts T.1 (aL T.1) y) (aL T.1).length).2 + (amx (hts T.1 (aL T.1) y) (aL T.1).length).1 - 1 by omega] at b26 b27
      have hb200 : (amx (hts T.1 (aL T.1) y) (aL T.1).length).1 ≤ 200 := by rw [← ar1]; exact abl.1
      have okk := hok.get (j := (amx (hts T.1 (aL T.1) y) (aL T.1).length).2 + (amx (hts T.1 (aL T.1) y) (aL T.1).length).1 - 1) (by omega)
      generalize hbi : (aL T.1).getD ((amx (hts T.1 (aL T.1) y) (aL T.1).length).2 + (amx (hts T.1 (aL T.1) y) (aL T.1).length).1 - 1) (0, 0) = hh at *
      have hN2 : NwL (m2.1 7) T.1 := by rw [cj 7 (by decide), setA_n _ _ (by decide)]; exact h1.1
      have l20 := (ho.2 _ okk.1).2.1
      have oks := (ho.2 _ okk.1).2.2.1
      have l10 := ho.1
      have wl : ((sfx T.1 hh).take y).length = y := by rw [List.length_take]; omega
      have sl : (sfx T.1 hh).length = (lnN T.1 hh.1).2.length - hh.2 := by unfold sfx; rw [List.length_drop]
      have row : rowA (m2.1 7) (2 + 22 * hh.1 + 2 + hh.2) ((sfx T.1 hh).take y) := by
        intro i hi
        rw [wl] at hi
        have := (hN2.2 hh.1 okk.1).2.2 (hh.2 + i) (by omega)
        rw [show (2 + 22 * (hh.1 : Int) + 2 + hh.2 + i) = 2 + 22 * (hh.1 : Int) + 2 + ((hh.2 + i : Nat) : Int) by omega, this]
        congr 1
        unfold sfx
        rw [List.getD_eq_getElem?_getD, List.getD_eq_getElem?_getD, List.getElem?_take, if_pos hi, List.getElem?_drop]
      obtain ⟨m3, e3, H3, ok3, f3, w3⟩ := m_lays hn (M := M) (am := am) hN2 ho (w := (sfx T.1 hh).take y) ((oks.drop _).take _) (by omega) (j := 7) (by decide) (by decide) (by decide) (by decide) (o := 2 + 22 * hh.1 + 2 + hh.2) (by omega) (by rw [wl]; simp [mz]; omega) (by simp [mz]) row
      rw [wl] at e3
      obtain ⟨p1, p2⟩ := H3.2.2 0 g3
      rw [g4] at p1 p2
      refine ⟨setA m3 0 (upI (upI (m3.1 0) 26 ((aL T.1).getD (amx (hts T.1 (aL T.1) y) (aL T.1).length).2 (0, 0)).1) 27 ((aL T.1).getD (amx (hts T.1 (aL T.1) y) (aL T.1).length).2 (0, 0)).2), ?_, ?_, fun _ => ⟨?_, ?_⟩, ?_⟩
      · rw [tot]
        have p1 : m3.1 10 0 = _ := p1
        have p2 : m3.1 11 0 = _ := p2
        simp (disch := (first | assumption | (refine sm_of ?_ ?_ <;> omega) | omega)) only [iI_add, iI_sub, iI_mul, iI_neg, iI_lt, iI_le, iI_eq, b1_s, b2_s, ↓reduceIte, mk_v, mk_gl23, mk_pl23, mk_gr1, mk_gr5, mk_gr6, mk_gr8, mk_gr9, mk_gr11, mk_gr13, mk_gr14, mk_gr15, mk_gr17, mk_gr18, mk_gr21, mk_gr24, mk_gr28, mk_gr30, mk_gr31, mk_gi0, mk_gi2, mk_gi3, mk_gi4, mk_gi7, mk_gi10, mk_gi12, mk_gi16, mk_gi19, mk_gi20, mk_gi22, mk_gi25, mk_gi26, mk_gi27, mk_gi29, mk_gi32, mk_pi0, mk_pi2, mk_pi3, mk_pi4, mk_pi7, mk_pi10, mk_pi12, mk_pi16, mk_pi19, mk_pi20, mk_pi22, mk_pi25, mk_pi26, mk_pi27, mk_pi29, mk_pi32, mk_ia1, mk_ia2, mk_ia3, mk_ia4, mk_ia5, mk_ia6, mk_ia7, mk_ia8, mk_ia9, mk_ia10, mk_ia11, mk_ia12, mk_ia13, mk_ia14, mk_ia15, mk_ia16, mk_is1, mk_is2, mk_is3, mk_is4, mk_is5, mk_is6, mk_is7, mk_is8, mk_is9, mk_is10, mk_is11, mk_is12, mk_is13, mk_is14, mk_is15, mk_is16, L0, L1, L2, L3, L4, L5, L6, L7, L8, L9, L10, L12, L20, L22, L24, L26, L27, L28, L32, L40, L60, L73, L95, L97, L222, L240, L441, L442, L622, Lm1, Lmh, L11, L13, L14, L15, L16, L17, L18, L19, L21, L23, L25, L30, L31, L33, L36, L39, L41, L44, L48, L53, L54, L55, L57, L58, L59, L91, L93, L98, L99, L100, L105, L106, L112, L114, L115, L119, L122, L160, L180, L200, L255, L1440, L24880, L63, Lm2, pX10_laysOften_b96, c25, show ¬ ((amx (hts T.1 (aL T.1) y) (aL T.1).length).1 : Int) ≤ 0 by omega, b26, b27, pX10_lineAt, e3, p1, p2, setA_n, setA_e, setA_setA]
      · rw [setA_e, upI_n _ _ (by decide), upI_n _ _ (by decide), f3.2.2 25 (by decide) (by decide)]; exact c25
      · rw [setA_e, upI_n _ _ (by decide), upI_e]
      · rw [setA_e, upI_e]
      · refine so1.trans (f3.o.trans ⟨fun j j0 _ _ => by rw [setA_n _ _ j0], fun x _ _ x25 x26 x27 => by rw [setA_e, upI_n _ _ x27, upI_n _ _ x26]⟩)
theorem m_freq {n : Nat} (hn : 300 ≤ n) {M : mm_M} {am : Nat} {m : mS} {T : kT} {wd : List Int} (h : Mq m T wd) {x y : Int} (hx : sm x) (hy : sm y) : ∃ m', pX10_frequent n (mk M am m) am (iI x) (iI y) = some (iI (frK T.1 x y), mk M am m') ∧ sxo m m' := by
  have st := m_store (n := n) (M := M) (am := am) h.1.1 h.2.1.1
  have rfl' : sxo m m := ⟨fun _ _ _ _ => rfl, fun _ _ _ _ _ _ => rfl⟩
  by_cases s0 : 0 < T.1.length
  · rw [decide_eq_true s0] at st
    by_cases g : 1 ≤ x ∧ x ≤ 6
    · have i1 := m_inT (n := n) (M := mk M am m) hx (sm_of (show -1000000000 ≤ (1 : Int) by omega) (by omega)) (sm_of (show -1000000000 ≤ (6 : Int) by omega) (by omega)) g
      by_cases g2 : 0 ≤ y ∧ y ≤ 2
      · have i2 := m_inT (n := n) (M := mk M am m) hy (sm_of (show -1000000000 ≤ (0 : Int) by omega) (by omega)) (sm_of (show -1000000000 ≤ (2 : Int) by omega) (by omega)) g2
        obtain ⟨q, rfl⟩ := Int.eq_ofNat_of_zero_le (show 0 ≤ x by omega)
        obtain ⟨m1, e1, c25, c26, f1⟩ := m_often hn (M := M) (am := am) h (y := q) (by omega)
        refine ⟨m1, ?_, f1⟩
        have ho := h.2.1.1
        have hd := h.2.1.2.1
        have l200 := aL_200 ho hd
        have mf := mf_amx T.1 (aL T.1) q (aL T.1).length
        have hx2 := amx_at (hts T.1 (aL T.1) q) (aL T.1).length
        have hok := aL_ok (ls := T.1) hd
        unfold frK
        rw [if_neg (by omega)]
        by_cases z : (amx (hts T.1 (aL T.1) q) (aL T.1).length).1 = 0
        · rw [if_pos z] at mf
          rw [mf, if_pos rfl]
          rw [z] at c25
          have c25 : m1.1 0 25 = 0 := c25
          simp (disch := (first | assumption | (refine sm_of ?_ ?_ <;> omega) | omega)) only [iI_add, iI_sub, iI_mul, iI_neg, iI_lt, iI_le, iI_eq, b1_s, b2_s, ↓reduceIte, mk_v, mk_gl23, mk_pl23, mk_gr1, mk_gr5, mk_gr6, mk_gr8, mk_gr9, mk_gr11, mk_gr13, mk_gr14, mk_gr15, mk_gr17, mk_gr18, mk_gr21, mk_gr24, mk_gr28, mk_gr30, mk_gr31, mk_gi0, mk_gi2, mk_gi3, mk_gi4, mk_gi7, mk_gi10, mk_gi12, mk_gi16, mk_gi19, mk_gi20, mk_gi22, mk_gi25, mk_gi26, mk_gi27, mk_gi29, mk_gi32, mk_pi0, mk_pi2, mk_pi3, mk_pi4, mk_pi7, mk_pi10, mk_pi12, mk_pi16, mk_pi19, mk_pi20, mk_pi22, mk_pi25, mk_pi26, mk_pi27, mk_pi29, mk_pi32, mk_ia1, mk_ia2, mk_ia3, mk_ia4, mk_ia5, mk_ia6, mk_ia7, mk_ia8, mk_ia9, mk_ia10, mk_ia11, mk_ia12, mk_ia13, mk_ia14, mk_ia15, mk_ia16, mk_is1, mk_is2, mk_is3, mk_is4, mk_is5, mk_is6, mk_is7, mk_is8, mk_is9, mk_is10, mk_is11, mk_is12, mk_is13, mk_is14, mk_is15, mk_is16, L0, L1, L2, L3, L4, L5, L6, L7, L8, L9, L10, L12, L20, L22, L24, L26, L27, L28, L32, L40, L60, L73, L95, L97, L222, L240, L441, L442, L622, Lm1, Lmh, L11, L13, L14, L15, L16, L17, L18, L19, L21, L23, L25, L30, L31, L33, L36, L39, L41, L44, L48, L53, L54, L55, L57, L58, L59, L91, L93, L98, L99, L100, L105, L106, L112, L114, L115, L119, L122, L160, L180, L200, L255, L1440, L24880, L63, Lm2, pX10_frequent, st, bI_t, i1, i2, e1, c25, Int.reduceEq]
        · rw [if_neg z] at mf
          obtain ⟨b26, b27⟩ := c26 z
          rcases hx2 with w | ⟨x1, x2, x3⟩
          · exact absurd w z
          · have wv : whN T.1 (aL T.1) ((amx (hts T.1 (aL T.1) q) (aL T.1).length).2 : Nat) q 200 1 = (amx (hts T.1 (aL T.1) q) (aL T.1).length).1 := by
              unfold hts at x2
              split at x2
              · exact x2
              · exact absurd x2.symm z
            obtain ⟨g1, -⟩ := grp_head ho hd (show 1 ≤ q by omega) x1 x2 z
            rw [mf]
            rw [if_neg (by show ¬ ((amx (hts T.1 (aL T.1) q) (aL T.1).length).2 : Int) = -1; omega)]
            show _ = some (iI (if y = 0 then (whN T.1 (aL T.1) ((amx (hts T.1 (aL T.1) q) (aL T.1).length).2 : Nat) q 200 1 : Int) else if y = 1 then ((gH (aL T.1) ((amx (hts T.1 (aL T.1) q) (aL T.1).length).2 : Nat)).1 : Int) else if y = 2 then ((gH (aL T.1) ((amx (hts T.1 (aL T.1) q) (aL T.1).length).2 : Nat)).2 : Int) else -1), mk M am m1)
            rw [wv, gH_k]
            have z' : ¬ ((amx (hts T.1 (aL T.1) q) (aL T.1).length).1 : Int) = 0 := by omega
            rcases (show y = 0 ∨ y = 1 ∨ y = 2 by omega) with rfl | rfl | rfl
            · simp (disch := (first | assumption | (refine sm_of ?_ ?_ <;> omega) | omega)) only [iI_add, iI_sub, iI_mul, iI_neg, iI_lt, iI_le, iI_eq, b1_s, b2_s, ↓reduceIte, mk_v, mk_gl23, mk_pl23, mk_gr1, mk_gr5, mk_gr6, mk_gr8, mk_gr9, mk_gr11, mk_gr13, mk_gr14, mk_gr15, mk_gr17, mk_gr18, mk_gr21, mk_gr24, mk_gr28, mk_gr30, mk_gr31, mk_gi0, mk_gi2, mk_gi3, mk_gi4, mk_gi7, mk_gi10, mk_gi12, mk_gi16, mk_gi19, mk_gi20, mk_gi22, mk_gi25, mk_gi26, mk_gi27, mk_gi29, mk_gi32, mk_pi0, mk_pi2, mk_pi3, mk_pi4, mk_pi7, mk_pi10, mk_pi12, mk_pi16, mk_pi19, mk_pi20, mk_pi22, mk_pi25, mk_pi26, mk_pi27, mk_pi29, mk_pi32, mk_ia1, mk_ia2, mk_ia3, mk_ia4, mk_ia5, mk_ia6, mk_ia7, mk_ia8, mk_ia9, mk_ia10, mk_ia11, mk_ia12, mk_ia13, mk_ia14, mk_ia15, mk_ia16, mk_is1, mk_is2, mk_is3, mk_is4, mk_is5, mk_is6, mk_is7, mk_is8, mk_is9, mk_is10, mk_is11, mk_is12, mk_is13, mk_is14, mk_is15, mk_is16, L0, L1, L2, L3, L4, L5, L6, L7, L8, L9, L10, L12, L20, L22, L24, L26, L27, L28, L32, L40, L60, L73, L95, L97, L222, L240, L441, L442, L622, Lm1, Lmh, L11, L13, L14, L15, L16, L17, L18, L19, L21, L23, L25, L30, L31, L33, L36, L39, L41, L44, L48, L53, L54, L55, L57, L58, L59, L91, L93, L98, L99, L100, L105, L106, L112, L114, L115, L119, L122, L160, L180, L200, L255, L1440, L24880, L63, Lm2, pX10_frequent, st, bI_t, i1, i2, e1, c25, z', Int.reduceEq]
            · simp (disch := (first | assumption | (refine sm_of ?_ ?_ <;> omega) | omega)) only [iI_add, iI_sub, iI_mul, iI_neg, iI_lt, iI_le, iI_eq, b1_s, b2_s, ↓reduceIte, mk_v, mk_gl23, mk_pl23, mk_gr1, mk_gr5, mk_gr6, mk_gr8, mk_gr9, mk_gr11, mk_gr13, mk_gr14, mk_gr15, mk_gr17, mk_gr18, mk_gr21, mk_gr24, mk_gr28, mk_gr30, mk_gr31, mk_gi0, mk_gi2, mk_gi3, mk_gi4, mk_gi7, mk_gi10, mk_gi12, mk_gi16, mk_gi19, mk_gi20, mk_gi22, mk_gi25, mk_gi26, mk_gi27, mk_gi29, mk_gi32, mk_pi0, mk_pi2, mk_pi3, mk_pi4, mk_pi7, mk_pi10, mk_pi12, mk_pi16, mk_pi19, mk_pi20, mk_pi22, mk_pi25, mk_pi26, mk_pi27, mk_pi29, mk_pi32, mk_ia1, mk_ia2, mk_ia3, mk_ia4, mk_ia5, mk_ia6, mk_ia7, mk_ia8, mk_ia9, mk_ia10, mk_ia11, mk_ia12, mk_ia13, mk_ia14, mk_ia15, mk_ia16, mk_is1, mk_is2, mk_is3, mk_is4, mk_is5, mk_is6, mk_is7, mk_is8, mk_is9, mk_is10, mk_is11, mk_is12, mk_is13, mk_is14, mk_is15, mk_is16, L0, L1, L2, L3, L4, L5, L6, L7, L8, L9, L10, L12, L20, L22, L24, L26, L27, L28, L32, L40, L60, L73, L95, L97, L222, L240, L441, L442, L622, Lm1, Lmh, L11, L13, L14, L15, L16, L17, L18, L19, L21, L23, L25, L30, L31, L33, L36, L39, L41, L44, L48, L53, L54, L55, L57, L58, L59, L91, L93, L98, L99, L100, L105, L106, L112, L114, L115, L119, L122, L160, L180, L200, L255, L1440, L24880, L63, Lm2, pX10_frequent, st, bI_t, i1, i2, e1, c25, z', b26, Int.reduceEq]
            · simp (disch := (first | assumption | (refine sm_of ?_ ?_ <;> omega) | omega)) only [iI_add, iI_sub, iI_mul, iI_neg, iI_lt, iI_le, iI_eq, b1_s, b2_s, ↓reduceIte, mk_v, mk_gl23, mk_pl23, mk_gr1, mk_gr5, mk_gr6, mk_gr8, mk_gr9, mk_gr11, mk_gr13, mk_gr14, mk_gr15, mk_gr17, mk_gr18, mk_gr21, mk_gr24, mk_gr28, mk_gr30, mk_gr31, mk_gi0, mk_gi2, mk_gi3, mk_gi4, mk_gi7, mk_gi10, mk_gi12, mk_gi16, mk_gi19, mk_gi20, mk_gi22, mk_gi25, mk_gi26, mk_gi27, mk_gi29, mk_gi32, mk_pi0, mk_pi2, mk_pi3, mk_pi4, mk_pi7, mk_pi10, mk_pi12, mk_pi16, mk_pi19, mk_pi20, mk_pi22, mk_pi25, mk_pi26, mk_pi27, mk_pi29, mk_pi32, mk_ia1, mk_ia2, mk_ia3, mk_ia4, mk_ia5, mk_ia6, mk_ia7, mk_ia8, mk_ia9, mk_ia10, mk_ia11, mk_ia12, mk_ia13, mk_ia14, mk_ia15, mk_ia16, mk_is1, mk_is2, mk_is3, mk_is4, mk_is5, mk_is6, mk_is7, mk_is8, mk_is9, mk_is10, mk_is11, mk_is12, mk_is13, mk_is14, mk_is15, mk_is16, L0, L1, L2, L3, L4, L5, L6, L7, L8, L9, L10, L12, L20, L22, L24, L26, L27, L28, L32, L40, L60, L73, L95, L97, L222, L240, L441, L442, L622, Lm1, Lmh, L11, L13, L14, L15, L16, L17, L18, L19, L21, L23, L25, L30, L31, L33, L36, L39, L41, L44, L48, L53, L54, L55, L57, L58, L59, L91, L93, L98, L99, L100, L105, L106, L112, L114, L115, L119, L122, L160, L180, L200, L255, L1440, L24880, L63, Lm2, pX10_frequent, st, bI_t, i1, i2, e1, c25, z', b27, Int.reduceEq]
      · refine ⟨m, ?_, rfl'⟩
        have i2 := m_inF (n := n) (M := mk M am m) hy (sm_of (show -1000000000 ≤ (0 : Int) by omega) (by omega)) (sm_of (show -1000000000 ≤ (2 : Int) by omega) (by omega)) g2
        have e : frK T.1 x y = -1 := by unfold frK; rw [if_neg (show ¬ y = 0 by omega), if_neg (show ¬ y = 1 by omega), if_neg (show ¬ y = 2 by omega)]; (repeat' split) <;> rfl
        rw [e]
        simp (disch := (first | assumption | (refine sm_of ?_ ?_ <;> omega) | omega)) only [iI_add, iI_sub, iI_mul, iI_neg, iI_lt, iI_le, iI_eq, b1_s, b2_s, ↓reduceIte, mk_v, mk_gl23, mk_pl23, mk_gr1, mk_gr5, mk_gr6, mk_gr8, mk_gr9, mk_gr11, mk_gr13, mk_gr14, mk_gr15, mk_gr17, mk_gr18, mk_gr21, mk_gr24, mk_gr28, mk_gr30, mk_gr31, mk_gi0, mk_gi2, mk_gi3, mk_gi4, mk_gi7, mk_gi10, mk_gi12, mk_gi16, mk_gi19, mk_gi20, mk_gi22, mk_gi25, mk_gi26, mk_gi27, mk_gi29, mk_gi32, mk_pi0, mk_pi2, mk_pi3, mk_pi4, mk_pi7, mk_pi10, mk_pi12, mk_pi16, mk_pi19, mk_pi20, mk_pi22, mk_pi25, mk_pi26, mk_pi27, mk_pi29, mk_pi32, mk_ia1, mk_ia2, mk_ia3, mk_ia4, mk_ia5, mk_ia6, mk_ia7, mk_ia8, mk_ia9, mk_ia10, mk_ia11, mk_ia12, mk_ia13, mk_ia14, mk_ia15, mk_ia16, mk_is1, mk_is2, mk_is3, mk_is4, mk_is5, mk_is6, mk_is7, mk_is8, mk_is9, mk_is10, mk_is11, mk_is12, mk_is13, mk_is14, mk_is15, mk_is16, L0, L1, L2, L3, L4, L5, L6, L7, L8, L9, L10, L12, L20, L22, L24, L26, L27, L28, L32, L40, L60, L73, L95, L97, L222, L240, L441, L442, L622, Lm1, Lmh, L11, L13, L14, L15, L16, L17, L18, L19, L21, L23, L25, L30, L31, L33, L36, L39, L41, L44, L48, L53, L54, L55, L57, L58, L59, L91, L93, L98, L99, L100, L105, L106, L112, L114, L115, L119, L122, L160, L180, L200, L255, L1440, L24880, L63, Lm2, pX10_frequent, st, bI_t, i1, i2, Int.reduceEq]
    · refine ⟨m, ?_, rfl'⟩
      have i1 := m_inF (n := n) (M := mk M am m) hx (sm_of (show -1000000000 ≤ (1 : Int) by omega) (by omega)) (sm_of (show -1000000000 ≤ (6 : Int) by omega) (by omega)) g
      have e : frK T.1 x y = -1 := by unfold frK; rw [if_pos (by omega)]
      rw [e]
      simp (disch := (first | assumption | (refine sm_of ?_ ?_ <;> omega) | omega)) only [iI_add, iI_sub, iI_mul, iI_neg, iI_lt, iI_le, iI_eq, b1_s, b2_s, ↓reduceIte, mk_v, mk_gl23, mk_pl23, mk_gr1, mk_gr5, mk_gr6, mk_gr8, mk_gr9, mk_gr11, mk_gr13, mk_gr14, mk_gr15, mk_gr17, mk_gr18, mk_gr21, mk_gr24, mk_gr28, mk_gr30, mk_gr31, mk_gi0, mk_gi2, mk_gi3, mk_gi4, mk_gi7, mk_gi10, mk_gi12, mk_gi16, mk_gi19, mk_gi20, mk_gi22, mk_gi25, mk_gi26, mk_gi27, mk_gi29, mk_gi32, mk_pi0, mk_pi2, mk_pi3, mk_pi4, mk_pi7, mk_pi10, mk_pi12, mk_pi16, mk_pi19, mk_pi20, mk_pi22, mk_pi25, mk_pi26, mk_pi27, mk_pi29, mk_pi32, mk_ia1, mk_ia2, mk_ia3, mk_ia4, mk_ia5, mk_ia6, mk_ia7, mk_ia8, mk_ia9, mk_ia10, mk_ia11, mk_ia12, mk_ia13, mk_ia14, mk_ia15, mk_ia16, mk_is1, mk_is2, mk_is3, mk_is4, mk_is5, mk_is6, mk_is7, mk_is8, mk_is9, mk_is10, mk_is11, mk_is12, mk_is13, mk_is14, mk_is15, mk_is16, L0, L1, L2, L3, L4, L5, L6, L7, L8, L9, L10, L12, L20, L22, L24, L26, L27, L28, L32, L40, L60, L73, L95, L97, L222, L240, L441, L442, L622, Lm1, Lmh, L11, L13, L14, L15, L16, L17, L18, L19, L21, L23, L25, L30, L31, L33, L36, L39, L41, L44, L48, L53, L54, L55, L57, L58, L59, L91, L93, L98, L99, L100, L105, L106, L112, L114, L115, L119, L122, L160, L180, L200, L255, L1440, L24880, L63, Lm2, pX10_frequent, st, bI_t, i1, Int.reduceEq]
  · refine ⟨m, ?_, rfl'⟩
    rw [decide_eq_false s0] at st
    have e : frK T.1 x y = -1 := by
      unfold frK
      rw [aL_nil (by omega)]
      have : (mfN T.1 [] x ([] : List kH).length).1 = -1 := rfl
      rw [this, if_pos rfl]; split <;> rfl
    rw [e]
    simp (disch := (first | assumption | (refine sm_of ?_ ?_ <;> omega) | omega)) only [iI_add, iI_sub, iI_mul, iI_neg, iI_lt, iI_le, iI_eq, b1_s, b2_s, ↓reduceIte, mk_v, mk_gl23, mk_pl23, mk_gr1, mk_gr5, mk_gr6, mk_gr8, mk_gr9, mk_gr11, mk_gr13, mk_gr14, mk_gr15, mk_gr17, mk_gr18, mk_gr21, mk_gr24, mk_gr28, mk_gr30, mk_gr31, mk_gi0, mk_gi2, mk_gi3, mk_gi4, mk_gi7, mk_gi10, mk_gi12, mk_gi16, mk_gi19, mk_gi20, mk_gi22, mk_gi25, mk_gi26, mk_gi27, mk_gi29, mk_gi32, mk_pi0, mk_pi2, mk_pi3, mk_pi4, mk_pi7, mk_pi10, mk_pi12, mk_pi16, mk_pi19, mk_pi20, mk_pi22, mk_pi25, mk_pi26, mk_pi27, mk_pi29, mk_pi32, mk_ia1, mk_ia2, mk_ia3, mk_ia4, mk_ia5, mk_ia6, mk_ia7, mk_ia8, mk_ia9, mk_ia10, mk_ia11, mk_ia12, mk_ia13, mk_ia14, mk_ia15, mk_ia16, mk_is1, mk_is2, mk_is3, mk_is4, mk_is5, mk_is6, mk_is7, mk_is8, mk_is9, mk_is10, mk_is11, mk_is12, mk_is13, mk_is14, mk_is15, mk_is16, L0, L1, L2, L3, L4, L5, L6, L7, L8, L9, L10, L12, L20, L22, L24, L26, L27, L28, L32, L40, L60, L73, L95, L97, L222, L240, L441, L442, L622, Lm1, Lmh, L11, L13, L14, L15, L16, L17, L18, L19, L21, L23, L25, L30, L31, L33, L36, L39, L41, L44, L48, L53, L54, L55, L57, L58, L59, L91, L93, L98, L99, L100, L105, L106, L112, L114, L115, L119, L122, L160, L180, L200, L255, L1440, L24880, L63, Lm2, pX10_frequent, st, bI_f]
