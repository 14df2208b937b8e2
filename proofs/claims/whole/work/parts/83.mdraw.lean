/-! draws -/
def nxD (d : Int64) : Int64 := d * 6364136223846793005 + 1442695040888963407
def drN (d : Int64) (c : Nat) : Nat := (d.toUInt64.toNat >>> 33) % c
theorem drN_lt (d : Int64) {c : Nat} (h : 1 ≤ c) : drN d c < c := Nat.mod_lt _ h
theorem lush (v : Int64) : (mm_lushr v 33).toInt = ((v.toUInt64.toNat >>> 33 : Nat) : Int) := by
  have e : ((33 : Int32).toInt64.toUInt64 &&& Int64.toUInt64 63) = 33 := by decide
  unfold mm_lushr
  rw [e]
  have h : (v.toUInt64 >>> 33).toNat = v.toUInt64.toNat >>> 33 := by rw [UInt64.toNat_shiftRight]; rfl
  have b : v.toUInt64.toNat < 2 ^ 64 := UInt64.toNat_lt _
  show (v.toUInt64 >>> 33).toBitVec.toInt = _
  rw [BitVec.toInt_eq_toNat_of_lt]
  · show ((v.toUInt64 >>> 33).toNat : Int) = _
    rw [h]
  · show 2 * (v.toUInt64 >>> 33).toNat < 2 ^ 64
    rw [h, Nat.shiftRight_eq_div_pow]; omega
theorem bm64 {z : Int} (h0 : 0 ≤ z) (h1 : z < 2147483648) : z.bmod (2 ^ 64) = z := Int.bmod_eq_of_le (by omega) (by omega)
theorem bm32 {z : Int} (h0 : 0 ≤ z) (h1 : z < 2147483648) : z.bmod (2 ^ 32) = z := Int.bmod_eq_of_le (by omega) (by omega)
theorem dr_eq (v : Int64) {c : Nat} (h1 : 1 ≤ c) (h2 : c ≤ 11) : Int64.toInt32 (mm_lushr v 33 - mm_lushr v 33 / Int32.toInt64 (iI c) * Int32.toInt64 (iI c)) = iI (drN v c) := by
  have r := lush v
  have b : v.toUInt64.toNat < 2 ^ 64 := UInt64.toNat_lt _
  have xb : v.toUInt64.toNat >>> 33 < 2147483648 := by rw [Nat.shiftRight_eq_div_pow]; omega
  have dl := drN_lt v h1
  apply Int32.toInt_inj.mp
  rw [Int64.toInt_toInt32, Int64.toInt_sub, Int64.toInt_mul, Int64.toInt_div, Int32.toInt_toInt64, iI_toInt (sm_of (by omega) (by omega)), iI_toInt (sm_of (by omega) (by omega)), r]
  unfold drN at dl ⊢
  generalize v.toUInt64.toNat >>> 33 = x at *
  have e1 : ((x : Int).tdiv (c : Int)) = ((x / c : Nat) : Int) := by rw [Int.tdiv_eq_ediv_of_nonneg (by omega)]; rfl
  have q1 : x / c ≤ x := Nat.div_le_self x c
  have q2 : x / c * c ≤ x := Nat.div_mul_le_self x c
  have q3 : x % c = x - x / c * c := by have := Nat.div_add_mod x c; rw [Nat.mul_comm] at this; omega
  have e2 : (((x / c : Nat) : Int) * (c : Int)) = ((x / c * c : Nat) : Int) := by rw [Int.natCast_mul]
  rw [e1]
  generalize x / c = u at *
  rw [bm64 (z := (u : Int)) (by omega) (by omega), e2, q3]
  generalize u * c = y at *
  rw [bm64 (z := (y : Int)) (by omega) (by omega), show ((x : Int) - (y : Int)) = ((x - y : Nat) : Int) by omega, bm64 (by omega) (by omega), bm32 (by omega) (by omega)]
theorem t64_0 {c : Nat} (h1 : 1 ≤ c) (h2 : c ≤ 11) : (Int32.toInt64 (iI c) = 0) = False := by
  apply eq_false
  intro h
  have : (Int32.toInt64 (iI c)).toInt = 0 := by rw [h]; rfl
  rw [Int32.toInt_toInt64, iI_toInt (sm_of (by omega) (by omega))] at this
  omega
theorem m_draw {n : Nat} {M : mm_M} {am : Nat} {m : mS} {c : Nat} (h1 : 1 ≤ c) (h2 : c ≤ 11) : pX10_draw n (mk M am m) am (iI c) = some (iI (drN (nxD m.2) c), mk M am (m.1, nxD m.2)) := by
  simp only [pX10_draw, mk_v, mk_gl23, mk_pl23, b1_s, t64_0 h1 h2, ↓reduceIte]
  rw [show m.2 * 6364136223846793005 + 1442695040888963407 = nxD m.2 from rfl, dr_eq (nxD m.2) h1 h2]
def sgB (v : Nat) : Int := if v = 0 then 97 else if v = 1 then 98 else 95
theorem sgB_sg (v : Nat) : isSg (sgB v) = true := by unfold sgB; (repeat' split) <;> decide
theorem sgB_dec {v : Nat} (h : v < 3) : dec (sgB v) = if v = 2 then 0 else (v : Int) + 1 := by
  rcases (show v = 0 ∨ v = 1 ∨ v = 2 by omega) with rfl | rfl | rfl <;> decide
def drS (nx : Int64 → Int64) (dn : Int64 → Nat → Nat) : Nat → Int64 → List Int × Int64
  | 0, d => ([], d)
  | r + 1, d => (sgB (dn (nx d) 3) :: (drS nx dn r (nx d)).1, (drS nx dn r (nx d)).2)
theorem drS_len (nx : Int64 → Int64) (dn : Int64 → Nat → Nat) (r : Nat) (d : Int64) : (drS nx dn r d).1.length = r := by
  induction r generalizing d with
  | zero => rfl
  | succ r ih => simp [drS, ih]
theorem drS_ok (nx : Int64 → Int64) (dn : Int64 → Nat → Nat) (r : Nat) (d : Int64) : okS (drS nx dn r d).1 := by
  induction r generalizing d with
  | zero => exact okS_nil
  | succ r ih =>
    intro x hx
    rcases List.mem_cons.mp hx with h | h
    · rw [h]; exact sgB_sg _
    · exact ih _ x h
theorem m_dsl {n : Nat} {nx : Int64 → Int64} {dn : Int64 → Nat → Nat} (hd : ∀ d c, 1 ≤ c → dn d c < c) (hm : ∀ (M : mm_M) (am : Nat) (m : mS) (c : Nat), 1 ≤ c → c ≤ 11 → pX10_draw n (mk M am m) am (iI c) = some (iI (dn (nx m.2) c), mk M am (m.1, nx m.2))) {M : mm_M} {am : Nat} {r : Nat} (hr : r ≤ 6) : ∀ (k i : Nat) (m : mS), i ≤ r → r < i + k → ∃ m', pX10_drawsSigns_l11 n k (mk M am m) am (iI r) (iI i) = some (iI r, mk M am m') ∧ m'.2 = (drS nx dn (r - i) m.2).2 ∧ (∀ q : Nat, q < r - i → m'.1 13 (i + q) = dec ((drS nx dn (r - i) m.2).1.getD q 0)) ∧ (∀ q : Int, q < i → m'.1 13 q = m.1 13 q) ∧ ∀ j, j ≠ 13 → m'.1 j = m.1 j := by
  intro k
  induction k with
  | zero => intro i m h1 h2; omega
  | succ k ih =>
    intro i m h1 h2
    show ∃ m', pX10_drawsSigns_l11b n (pX10_drawsSigns_l11 n k) (mk M am m) am _ _ = _ ∧ _
    by_cases d : (r : Int) ≤ i
    · have e : r - i = 0 := by omega
      rw [e]
      refine ⟨m, ?_, rfl, fun q hq => by omega, fun _ _ => rfl, fun _ _ => rfl⟩
      simp (disch := (first | assumption | (refine sm_of ?_ ?_ <;> omega) | omega)) only [iI_add, iI_sub, iI_mul, iI_neg, iI_lt, iI_le, iI_eq, b1_s, b2_s, ↓reduceIte, mk_v, mk_gl23, mk_pl23, mk_gr1, mk_gr5, mk_gr6, mk_gr8, mk_gr9, mk_gr11, mk_gr13, mk_gr14, mk_gr15, mk_gr17, mk_gr18, mk_gr21, mk_gr24, mk_gr28, mk_gr30, mk_gr31, mk_gi0, mk_gi2, mk_gi3, mk_gi4, mk_gi7, mk_gi10, mk_gi12, mk_gi16, mk_gi19, mk_gi20, mk_gi22, mk_gi25, mk_gi26, mk_gi27, mk_gi29, mk_gi32, mk_pi0, mk_pi2, mk_pi3, mk_pi4, mk_pi7, mk_pi10, mk_pi12, mk_pi16, mk_pi19, mk_pi20, mk_pi22, mk_pi25, mk_pi26, mk_pi27, mk_pi29, mk_pi32, mk_ia1, mk_ia2, mk_ia3, mk_ia4, mk_ia5, mk_ia6, mk_ia7, mk_ia8, mk_ia9, mk_ia10, mk_ia11, mk_ia12, mk_ia13, mk_ia14, mk_ia15, mk_ia16, mk_is1, mk_is2, mk_is3, mk_is4, mk_is5, mk_is6, mk_is7, mk_is8, mk_is9, mk_is10, mk_is11, mk_is12, mk_is13, mk_is14, mk_is15, mk_is16, L0, L1, L2, L3, L4, L5, L6, L7, L8, L9, L10, L12, L20, L22, L24, L26, L27, L28, L32, L40, L60, L73, L95, L97, L222, L240, L441, L442, L622, Lm1, Lmh, L11, L13, L14, L15, L16, L17, L18, L19, L21, L23, L25, L30, L31, L33, L36, L39, L41, L44, L48, L53, L54, L55, L57, L58, L59, L91, L93, L98, L99, L100, L105, L106, L112, L114, L115, L119, L122, L160, L180, L200, L255, L1440, L24880, L63, Lm2, pX10_drawsSigns_l11b, d]
    · obtain ⟨r', hr'⟩ : ∃ r', r - i = r' + 1 := ⟨r - i - 1, by omega⟩
      rw [hr']
      have dd : pX10_draw n (mk M am m) am (iI 3) = some (iI (dn (nx m.2) 3), mk M am (m.1, nx m.2)) := hm M am m 3 (by omega) (by omega)
      have dl := hd (nx m.2) 3 (by omega)
      have sd := sgB_dec dl
      obtain ⟨m2, e2, a2, b2, c2, d2⟩ := ih (i + 1) (setA (m.1, nx m.2) 13 (upI (m.1 13) i (dec (sgB (dn (nx m.2) 3))))) (by omega) (by omega)
      rw [show r - (i + 1) = r' by omega] at a2 b2
      refine ⟨m2, ?_, a2, fun q hq => ?_, fun q hq => ?_, fun j hj => ?_⟩
      · by_cases g : dn (nx m.2) 3 = 2
        · rw [if_pos g] at sd
          rw [sd] at e2
          simp (disch := (first | assumption | (refine sm_of ?_ ?_ <;> omega) | omega)) only [iI_add, iI_sub, iI_mul, iI_neg, iI_lt, iI_le, iI_eq, b1_s, b2_s, ↓reduceIte, mk_v, mk_gl23, mk_pl23, mk_gr1, mk_gr5, mk_gr6, mk_gr8, mk_gr9, mk_gr11, mk_gr13, mk_gr14, mk_gr15, mk_gr17, mk_gr18, mk_gr21, mk_gr24, mk_gr28, mk_gr30, mk_gr31, mk_gi0, mk_gi2, mk_gi3, mk_gi4, mk_gi7, mk_gi10, mk_gi12, mk_gi16, mk_gi19, mk_gi20, mk_gi22, mk_gi25, mk_gi26, mk_gi27, mk_gi29, mk_gi32, mk_pi0, mk_pi2, mk_pi3, mk_pi4, mk_pi7, mk_pi10, mk_pi12, mk_pi16, mk_pi19, mk_pi20, mk_pi22, mk_pi25, mk_pi26, mk_pi27, mk_pi29, mk_pi32, mk_ia1, mk_ia2, mk_ia3, mk_ia4, mk_ia5, mk_ia6, mk_ia7, mk_ia8, mk_ia9, mk_ia10, mk_ia11, mk_ia12, mk_ia13, mk_ia14, mk_ia15, mk_ia16, mk_is1, mk_is2, mk_is3, mk_is4, mk_is5, mk_is6, mk_is7, mk_is8, mk_is9, mk_is10, mk_is11, mk_is12, mk_is13, mk_is14, mk_is15, mk_is16, L0, L1, L2, L3, L4, L5, L6, L7, L8, L9, L10, L12, L20, L22, L24, L26, L27, L28, L32, L40, L60, L73, L95, L97, L222, L240, L441, L442, L622, Lm1, Lmh, L11, L13, L14, L15, L16, L17, L18, L19, L21, L23, L25, L30, L31, L33, L36, L39, L41, L44, L48, L53, L54, L55, L57, L58, L59, L91, L93, L98, L99, L100, L105, L106, L112, L114, L115, L119, L122, L160, L180, L200, L255, L1440, L24880, L63, Lm2, pX10_drawsSigns_l11b, d, dd, show (dn (nx m.2) 3 : Int) = 2 by omega]
          rw [show ((i : Int) + 1) = ((i + 1 : Nat) : Int) by omega]
          exact e2
        · rw [if_neg g] at sd
          rw [sd] at e2
          simp (disch := (first | assumption | (refine sm_of ?_ ?_ <;> omega) | omega)) only [iI_add, iI_sub, iI_mul, iI_neg, iI_lt, iI_le, iI_eq, b1_s, b2_s, ↓reduceIte, mk_v, mk_gl23, mk_pl23, mk_gr1, mk_gr5, mk_gr6, mk_gr8, mk_gr9, mk_gr11, mk_gr13, mk_gr14, mk_gr15, mk_gr17, mk_gr18, mk_gr21, mk_gr24, mk_gr28, mk_gr30, mk_gr31, mk_gi0, mk_gi2, mk_gi3, mk_gi4, mk_gi7, mk_gi10, mk_gi12, mk_gi16, mk_gi19, mk_gi20, mk_gi22, mk_gi25, mk_gi26, mk_gi27, mk_gi29, mk_gi32, mk_pi0, mk_pi2, mk_pi3, mk_pi4, mk_pi7, mk_pi10, mk_pi12, mk_pi16, mk_pi19, mk_pi20, mk_pi22, mk_pi25, mk_pi26, mk_pi27, mk_pi29, mk_pi32, mk_ia1, mk_ia2, mk_ia3, mk_ia4, mk_ia5, mk_ia6, mk_ia7, mk_ia8, mk_ia9, mk_ia10, mk_ia11, mk_ia12, mk_ia13, mk_ia14, mk_ia15, mk_ia16, mk_is1, mk_is2, mk_is3, mk_is4, mk_is5, mk_is6, mk_is7, mk_is8, mk_is9, mk_is10, mk_is11, mk_is12, mk_is13, mk_is14, mk_is15, mk_is16, L0, L1, L2, L3, L4, L5, L6, L7, L8, L9, L10, L12, L20, L22, L24, L26, L27, L28, L32, L40, L60, L73, L95, L97, L222, L240, L441, L442, L622, Lm1, Lmh, L11, L13, L14, L15, L16, L17, L18, L19, L21, L23, L25, L30, L31, L33, L36, L39, L41, L44, L48, L53, L54, L55, L57, L58, L59, L91, L93, L98, L99, L100, L105, L106, L112, L114, L115, L119, L122, L160, L180, L200, L255, L1440, L24880, L63, Lm2, pX10_drawsSigns_l11b, d, dd, show ¬ (dn (nx m.2) 3 : Int) = 2 by omega]
          rw [show ((i : Int) + 1) = ((i + 1 : Nat) : Int) by omega]
          exact e2
      · cases q with
        | zero =>
          rw [c2 _ (by omega), setA_e, show ((i : Int) + ((0 : Nat) : Int)) = i by omega, upI_e]
          simp [drS]
        | succ q =>
          rw [show ((i : Int) + ((q + 1 : Nat) : Int)) = ((i + 1 : Nat) : Int) + q by omega, b2 q (by omega)]
          simp [drS, setA_2]
      · rw [c2 q (by omega), setA_e, upI_n _ _ (by omega)]
      · rw [d2 j hj, setA_n _ _ hj]
theorem m_dss {n : Nat} (hn : 60 ≤ n) {nx : Int64 → Int64} {dn : Int64 → Nat → Nat} (hd : ∀ d c, 1 ≤ c → dn d c < c) (hm : ∀ (M : mm_M) (am : Nat) (m : mS) (c : Nat), 1 ≤ c → c ≤ 11 → pX10_draw n (mk M am m) am (iI c) = some (iI (dn (nx m.2) c), mk M am (m.1, nx m.2))) {M : mm_M} {am : Nat} {m : mS} : ∃ m', pX10_drawsSigns n (mk M am m) am = some (iI ((dn (nx m.2) 6 + 1 : Nat) : Int), mk M am m') ∧ m'.2 = (drS nx dn (dn (nx m.2) 6 + 1) (nx m.2)).2 ∧ rowA (m'.1 13) 0 (drS nx dn (dn (nx m.2) 6 + 1) (nx m.2)).1 ∧ ∀ j, j ≠ 13 → m'.1 j = m.1 j := by
  have dd : pX10_draw n (mk M am m) am (iI 6) = some (iI (dn (nx m.2) 6), mk M am (m.1, nx m.2)) := hm M am m 6 (by omega) (by omega)
  have dl := hd (nx m.2) 6 (by omega)
  obtain ⟨m2, e2, a2, b2, c2, d2⟩ := m_dsl (n := n) hd hm (M := M) (am := am) (r := dn (nx m.2) 6 + 1) (by omega) n 0 (m.1, nx m.2) (by omega) (by omega)
  refine ⟨m2, ?_, a2, fun q hq => ?_, d2⟩
  · simp (disch := (first | assumption | (refine sm_of ?_ ?_ <;> omega) | omega)) only [iI_add, iI_sub, iI_mul, iI_neg, iI_lt, iI_le, iI_eq, b1_s, b2_s, ↓reduceIte, mk_v, mk_gl23, mk_pl23, mk_gr1, mk_gr5, mk_gr6, mk_gr8, mk_gr9, mk_gr11, mk_gr13, mk_gr14, mk_gr15, mk_gr17, mk_gr18, mk_gr21, mk_gr24, mk_gr28, mk_gr30, mk_gr31, mk_gi0, mk_gi2, mk_gi3, mk_gi4, mk_gi7, mk_gi10, mk_gi12, mk_gi16, mk_gi19, mk_gi20, mk_gi22, mk_gi25, mk_gi26, mk_gi27, mk_gi29, mk_gi32, mk_pi0, mk_pi2, mk_pi3, mk_pi4, mk_pi7, mk_pi10, mk_pi12, mk_pi16, mk_pi19, mk_pi20, mk_pi22, mk_pi25, mk_pi26, mk_pi27, mk_pi29, mk_pi32, mk_ia1, mk_ia2, mk_ia3, mk_ia4, mk_ia5, mk_ia6, mk_ia7, mk_ia8, mk_ia9, mk_ia10, mk_ia11, mk_ia12, mk_ia13, mk_ia14, mk_ia15, mk_ia16, mk_is1, mk_is2, mk_is3, mk_is4, mk_is5, mk_is6, mk_is7, mk_is8, mk_is9, mk_is10, mk_is11, mk_is12, mk_is13, mk_is14, mk_is15, mk_is16, L0, L1, L2, L3, L4, L5, L6, L7, L8, L9, L10, L12, L20, L22, L24, L26, L27, L28, L32, L40, L60, L73, L95, L97, L222, L240, L441, L442, L622, Lm1, Lmh, L11, L13, L14, L15, L16, L17, L18, L19, L21, L23, L25, L30, L31, L33, L36, L39, L41, L44, L48, L53, L54, L55, L57, L58, L59, L91, L93, L98, L99, L100, L105, L106, L112, L114, L115, L119, L122, L160, L180, L200, L255, L1440, L24880, L63, Lm2, pX10_drawsSigns, dd]
    exact e2
  · rw [drS_len] at hq
    have := b2 q (by omega)
    rw [show (((0 : Nat) : Int) + (q : Int)) = 0 + q by omega] at this
    exact this
/-- an act drawn, for so many lines -/
def wayA (nx : Int64 → Int64) (dn : Int64 → Nat → Nat) (d : Int64) (c : Nat) : kS × Int64 :=
  if dn (nx d) 8 ≤ 2 then ((0, (dn (nx (nx d)) c : Int), -1000000, (drS nx dn (dn (nx (nx (nx d))) 6 + 1) (nx (nx (nx d)))).1), (drS nx dn (dn (nx (nx (nx d))) 6 + 1) (nx (nx (nx d)))).2)
  else if dn (nx d) 8 = 3 then ((1, (dn (nx (nx d)) (c + 1) : Int), -1000000, (drS nx dn (dn (nx (nx (nx d))) 6 + 1) (nx (nx (nx d)))).1), (drS nx dn (dn (nx (nx (nx d))) 6 + 1) (nx (nx (nx d)))).2)
  else if dn (nx d) 8 = 4 then ((2, (dn (nx (nx d)) c : Int), -1000000, []), nx (nx d))
  else if dn (nx d) 8 = 5 then ((3, (dn (nx (nx d)) c : Int), (dn (nx (nx (nx d))) c : Int), []), nx (nx (nx d)))
  else if dn (nx d) 8 = 6 then ((5, (dn (nx (nx d)) 3 : Int), -1000000, []), nx (nx d))
  else ((6, (dn (nx (nx d)) 3 : Int), -1000000, []), nx (nx d))
theorem wayA_ok {nx : Int64 → Int64} {dn : Int64 → Nat → Nat} (hd : ∀ d c, 1 ≤ c → dn d c < c) (d : Int64) {c : Nat} (h1 : 1 ≤ c) (h2 : c ≤ 10) : 0 ≤ (wayA nx dn d c).1.1 ∧ (wayA nx dn d c).1.1 ≤ 8 ∧ (wayA nx dn d c).1.1 ≠ 4 ∧ 0 ≤ (wayA nx dn d c).1.2.1 ∧ (wayA nx dn d c).1.2.1 ≤ 10 ∧ -1000000 ≤ (wayA nx dn d c).1.2.2.1 ∧ (wayA nx dn d c).1.2.2.1 ≤ 10 ∧ (wayA nx dn d c).1.2.2.2.length ≤ 6 ∧ okS (wayA nx dn d c).1.2.2.2 := by
  have a1 := hd (nx (nx d)) c h1
  have a2 := hd (nx (nx d)) (c + 1) (by omega)
  have a3 := hd (nx (nx d)) 3 (by omega)
  have a4 := hd (nx (nx (nx d))) c h1
  have a5 := hd (nx (nx (nx d))) 6 (by omega)
  have l := drS_len nx dn (dn (nx (nx (nx d))) 6 + 1) (nx (nx (nx d)))
  have o := drS_ok nx dn (dn (nx (nx (nx d))) 6 + 1) (nx (nx (nx d)))
  unfold wayA
  repeat' split
  · exact ⟨by simp, by simp, by simp, by simp <;> omega, by simp <;> omega, by simp, by simp, by simp <;> omega, o⟩
  · exact ⟨by simp, by simp, by simp, by simp <;> omega, by simp <;> omega, by simp, by simp, by simp <;> omega, o⟩
  · exact ⟨by simp, by simp, by simp, by simp <;> omega, by simp <;> omega, by simp, by simp, by simp, okS_nil⟩
  · exact ⟨by simp, by simp, by simp, by simp <;> omega, by simp <;> omega, by simp <;> omega, by simp <;> omega, by simp, okS_nil⟩
  · exact ⟨by simp, by simp, by simp, by simp <;> omega, by simp <;> omega, by simp, by simp, by simp, okS_nil⟩
  · exact ⟨by simp, by simp, by simp, by simp <;> omega, by simp <;> omega, by simp, by simp, by simp, okS_nil⟩
theorem y_irr {ls : List kL} {C : Nat → kU} {sort x y : Int} {w : List Int} (y' : Int) (h3 : sort ≠ 3) (h4 : sort ≠ 4) (h7 : sort ≠ 7) : whyK ls C sort x y w = whyK ls C sort x y' w := by
  unfold whyK; simp only [h3, h4, h7, ↓reduceIte]
theorem y_irrd {T : kT} {sort x y : Int} {w : List Int} (y' : Int) (h3 : sort ≠ 3) (h4 : sort ≠ 4) (h7 : sort ≠ 7) : doK T sort x y w = doK T sort x y' w := by
  unfold doK; simp only [h3, h4, h7, ↓reduceIte]
theorem y_irra {T : kT} {sort x y : Int} {w : List Int} (y' : Int) (h3 : sort ≠ 3) (h4 : sort ≠ 4) (h7 : sort ≠ 7) : aft T sort x y w = aft T sort x y' w ∧ actK T sort x y w = actK T sort x y' w := by
  have : aft T sort x y w = aft T sort x y' w := by unfold aft; rw [y_irrd y' h3 h4 h7]
  exact ⟨this, by unfold actK; rw [this]⟩
/-- an act that is tried: what can't be is left -/
def tryK (T : kT) (ps : List kT) (z : kS) : kT × List kT := if whyK T.1 T.2.2.1 z.1 z.2.1 z.2.2.1 z.2.2.2 = -1 then (actK T z.1 z.2.1 z.2.2.1 z.2.2.2, (T :: ps).take 40) else (T, ps)
theorem try_ok {T : kT} {ps : List kT} {z : kS} (hs : 0 ≤ z.1 ∧ z.1 ≤ 8) (hw : okS z.2.2.2) (hl : z.2.2.2.length ≤ 20) (h4 : z.1 = 4 → z.2.2.2.length ≤ 6) {B : Int} (hB0 : 0 ≤ B) (hB : B ≤ 5000000) (ho : okT T) (hne : T.1.length ≠ 0) (hp : ∀ P ∈ ps, okT P ∧ P.1.length ≠ 0) (hb : bnd T B) : okT (tryK T ps z).1 ∧ (tryK T ps z).1.1.length ≠ 0 ∧ (∀ P ∈ (tryK T ps z).2, okT P ∧ P.1.length ≠ 0) ∧ bnd (tryK T ps z).1 (B + 1) := by
  unfold tryK
  by_cases c : whyK T.1 T.2.2.1 z.1 z.2.1 z.2.2.1 z.2.2.2 = -1
  · rw [if_pos c]
    obtain ⟨o1, o2⟩ := okT_aft ho (w := z.2.2.2) hw hl hs h4 c (by have := hb.1; omega) (fun q hq => by have := hb.2 q hq; omega)
    refine ⟨okT_act o1, o2, fun P hP => ?_, bnd_aft ho hB0 hb hs⟩
    rcases List.mem_cons.mp (List.mem_of_mem_take hP) with h | h
    · rw [h]; exact ⟨ho, hne⟩
    · exact hp P h
  · rw [if_neg c]; exact ⟨ho, hne, hp, hb.mono (by omega)⟩
def sxw (m m' : mS) : Prop := (∀ j, j ≠ 0 → j ≠ 7 → j ≠ 10 → j ≠ 11 → j ≠ 12 → j ≠ 13 → m'.1 j = m.1 j) ∧ ∀ x, x ≠ 19 → x ≠ 20 → x ≠ 22 → m'.1 0 x = m.1 0 x
theorem sxw.trans {m m1 m2 : mS} (h : sxw m m1) (g : sxw m1 m2) : sxw m m2 := ⟨fun j a b c d e f => (g.1 j a b c d e f).trans (h.1 j a b c d e f), fun x a b c => (g.2 x a b c).trans (h.2 x a b c)⟩
theorem sxw.of {m m' : mS} (h : ∀ j, j ≠ 13 → m'.1 j = m.1 j) : sxw m m' := ⟨fun j _ _ _ _ _ f => h j f, fun x _ _ _ => by rw [h 0 (by decide)]⟩
theorem m_try {n : Nat} (hn : 25000 ≤ n) {M : mm_M} {am : Nat} {m : mS} {T : kT} {ps : List kT} (hT : NwT (m.1 7) T) (ho : okT T) (hK : Kp m ps) {z : kS} (hs : 0 ≤ z.1 ∧ z.1 ≤ 8) (hx : -1000000 ≤ z.2.1 ∧ z.2.1 ≤ 1000000) (hy : -1000000 ≤ z.2.2.1 ∧ z.2.2.1 ≤ 1000000) (hw : okS z.2.2.2) (hl : z.2.2.2.length ≤ 6) {B : Int} (hB : B ≤ 5000000) (hb : bnd T B) (hr : rowA (m.1 13) 0 z.2.2.2) : ∃ m', pX10_tryOne n (mk M am m) am (iI z.1) (iI z.2.1) (iI z.2.2.1) (iI z.2.2.2.length) = some (mk M am m') ∧ NwT (m'.1 7) (tryK T ps z).1 ∧ Kp m' (tryK T ps z).2 ∧ m'.2 = m.2 ∧ sxw m m' := by
  have w := m_why (show 60 ≤ n by omega) (M := M) (am := am) hT ho (w := z.2.2.2) hw (by omega) (j := 13) (by decide) (by decide) (o := 0) (by omega) (by simp [mz]; omega) (by simp [mz]) hr (sort := z.1) (x := z.2.1) (y := z.2.2.1) hs (sm_of (by omega) (by omega)) (sm_of (by omega) (by omega))
  unfold tryK
  by_cases c : whyK T.1 T.2.2.1 z.1 z.2.1 z.2.2.1 z.2.2.2 = -1
  · rw [if_pos c]
    rw [c] at w
    have ok1 := (okT_aft ho (w := z.2.2.2) hw (by omega) hs (fun _ => hl) c (by have := hb.1; omega) (fun q hq => by have := hb.2 q hq; omega)).1
    obtain ⟨m1, e1, t1, k1, f1⟩ := m_act hn (M := M) (am := am) hT ho hK (w := z.2.2.2) hw (by omega) (j := 13) (by decide) (by decide) (by decide) (by decide) (by decide) (by decide) (o := 0) (by omega) (by simp [mz]; omega) (by simp [mz]) hr (sort := z.1) (x := z.2.1) (y := z.2.2.1) hs (fun _ => hl) c ok1
    refine ⟨m1, ?_, t1, k1, f1.1, ⟨fun j a b c d e _ => f1.2.1 j a b c d e, f1.2.2⟩⟩
    simp (disch := (first | assumption | (refine sm_of ?_ ?_ <;> omega) | omega)) only [iI_add, iI_sub, iI_mul, iI_neg, iI_lt, iI_le, iI_eq, b1_s, b2_s, ↓reduceIte, mk_v, mk_gl23, mk_pl23, mk_gr1, mk_gr5, mk_gr6, mk_gr8, mk_gr9, mk_gr11, mk_gr13, mk_gr14, mk_gr15, mk_gr17, mk_gr18, mk_gr21, mk_gr24, mk_gr28, mk_gr30, mk_gr31, mk_gi0, mk_gi2, mk_gi3, mk_gi4, mk_gi7, mk_gi10, mk_gi12, mk_gi16, mk_gi19, mk_gi20, mk_gi22, mk_gi25, mk_gi26, mk_gi27, mk_gi29, mk_gi32, mk_pi0, mk_pi2, mk_pi3, mk_pi4, mk_pi7, mk_pi10, mk_pi12, mk_pi16, mk_pi19, mk_pi20, mk_pi22, mk_pi25, mk_pi26, mk_pi27, mk_pi29, mk_pi32, mk_ia1, mk_ia2, mk_ia3, mk_ia4, mk_ia5, mk_ia6, mk_ia7, mk_ia8, mk_ia9, mk_ia10, mk_ia11, mk_ia12, mk_ia13, mk_ia14, mk_ia15, mk_ia16, mk_is1, mk_is2, mk_is3, mk_is4, mk_is5, mk_is6, mk_is7, mk_is8, mk_is9, mk_is10, mk_is11, mk_is12, mk_is13, mk_is14, mk_is15, mk_is16, L0, L1, L2, L3, L4, L5, L6, L7, L8, L9, L10, L12, L20, L22, L24, L26, L27, L28, L32, L40, L60, L73, L95, L97, L222, L240, L441, L442, L622, Lm1, Lmh, L11, L13, L14, L15, L16, L17, L18, L19, L21, L23, L25, L30, L31, L33, L36, L39, L41, L44, L48, L53, L54, L55, L57, L58, L59, L91, L93, L98, L99, L100, L105, L106, L112, L114, L115, L119, L122, L160, L180, L200, L255, L1440, L24880, L63, Lm2, pX10_tryOne, w, e1]
  · rw [if_neg c]
    refine ⟨m, ?_, hT, hK, rfl, ⟨fun _ _ _ _ _ _ _ => rfl, fun _ _ _ _ => rfl⟩⟩
    have wb : -1 ≤ whyK T.1 T.2.2.1 z.1 z.2.1 z.2.2.1 z.2.2.2 ∧ whyK T.1 T.2.2.1 z.1 z.2.1 z.2.2.1 z.2.2.2 ≤ 3 := by unfold whyK; (repeat' split) <;> omega
    simp (disch := (first | assumption | (refine sm_of ?_ ?_ <;> omega) | omega)) only [iI_add, iI_sub, iI_mul, iI_neg, iI_lt, iI_le, iI_eq, b1_s, b2_s, ↓reduceIte, mk_v, mk_gl23, mk_pl23, mk_gr1, mk_gr5, mk_gr6, mk_gr8, mk_gr9, mk_gr11, mk_gr13, mk_gr14, mk_gr15, mk_gr17, mk_gr18, mk_gr21, mk_gr24, mk_gr28, mk_gr30, mk_gr31, mk_gi0, mk_gi2, mk_gi3, mk_gi4, mk_gi7, mk_gi10, mk_gi12, mk_gi16, mk_gi19, mk_gi20, mk_gi22, mk_gi25, mk_gi26, mk_gi27, mk_gi29, mk_gi32, mk_pi0, mk_pi2, mk_pi3, mk_pi4, mk_pi7, mk_pi10, mk_pi12, mk_pi16, mk_pi19, mk_pi20, mk_pi22, mk_pi25, mk_pi26, mk_pi27, mk_pi29, mk_pi32, mk_ia1, mk_ia2, mk_ia3, mk_ia4, mk_ia5, mk_ia6, mk_ia7, mk_ia8, mk_ia9, mk_ia10, mk_ia11, mk_ia12, mk_ia13, mk_ia14, mk_ia15, mk_ia16, mk_is1, mk_is2, mk_is3, mk_is4, mk_is5, mk_is6, mk_is7, mk_is8, mk_is9, mk_is10, mk_is11, mk_is12, mk_is13, mk_is14, mk_is15, mk_is16, L0, L1, L2, L3, L4, L5, L6, L7, L8, L9, L10, L12, L20, L22, L24, L26, L27, L28, L32, L40, L60, L73, L95, L97, L222, L240, L441, L442, L622, Lm1, Lmh, L11, L13, L14, L15, L16, L17, L18, L19, L21, L23, L25, L30, L31, L33, L36, L39, L41, L44, L48, L53, L54, L55, L57, L58, L59, L91, L93, L98, L99, L100, L105, L106, L112, L114, L115, L119, L122, L160, L180, L200, L255, L1440, L24880, L63, Lm2, pX10_tryOne, w, c]
