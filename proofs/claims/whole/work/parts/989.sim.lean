/-! class and reference side by side -/
theorem mk_mk (M : mm_M) (am : Nat) (m m' : mS) : mk (mk M am m) am m' = mk M am m' := by
  refine Prod.ext rfl (funext fun q => ?_)
  show (if am ≤ q ∧ q < am + 17 then some (mcell am m' (q - am)) else (if am ≤ q ∧ q < am + 17 then some (mcell am m (q - am)) else M.2 q)) = (if am ≤ q ∧ q < am + 17 then some (mcell am m' (q - am)) else M.2 q)
  by_cases c : am ≤ q ∧ q < am + 17
  · rw [if_pos c, if_pos c]
  · rw [if_neg c, if_neg c, if_neg c]
theorem mk_in {M : mm_M} {am : Nat} {m : mS} (h : M = mk M am m) {j : Nat} (c : j < 17) : M.2 (am + j) = some (mcell am m j) := by
  have e : M.2 (am + j) = (if am ≤ am + j ∧ am + j < am + 17 then some (mcell am m (am + j - am)) else M.2 (am + j)) := congrArg (fun Z : mm_M => Z.2 (am + j)) h
  rw [if_pos (by omega), Nat.add_sub_cancel_left] at e
  exact e
theorem mk_keep {M M1 : mm_M} {am b k : Nat} {m : mS} (h : M = mk M am m) (f : fr M M1 b k) (hd : b + k ≤ am ∨ am + 17 ≤ b) : M1 = mk M1 am m := mk_of (fun j c => (f.2 _ (by omega)).trans (mk_in h c))
theorem mk_fr1 (M : mm_M) (am : Nat) (m : mS) : fr M (mk M am m) am 17 := ⟨rfl, fun q hq => by
  show (if am ≤ q ∧ q < am + 17 then some (mcell am m (q - am)) else M.2 q) = M.2 q
  rw [if_neg (by omega)]⟩
theorem Cls.out {M : mm_M} {ax : Nat} {B : Int} {tp : List Int} {T : kT} {wd : List Int} {ps : List kT} {im : Option kT} {sc : List (List kS)} {rf : Nat → Int} {M1 : mm_M} {b k : Nat} (h : Cls M ax B tp T wd ps im sc rf) (f : fr M M1 b k) (hb : ax + 2875 ≤ b ∨ b + k ≤ ax) : Cls M1 ax B tp T wd ps im sc rf := by
  obtain ⟨np, d, fw, ff, h⟩ := h
  exact ⟨np, d, fw, ff, h.out f hb⟩
theorem Cls.mono {M : mm_M} {ax : Nat} {B : Int} {tp : List Int} {T : kT} {wd : List Int} {ps : List kT} {im : Option kT} {sc : List (List kS)} {rf : Nat → Int} {B' : Int} (h : Cls M ax B tp T wd ps im sc rf) (h1 : B ≤ B') (h2 : B' ≤ 5000000) : Cls M ax B' tp T wd ps im sc rf := by
  obtain ⟨np, d, fw, ff, h⟩ := h
  exact ⟨np, d, fw, ff, h.mono h1 h2⟩
theorem Cls.bnd {M : mm_M} {ax : Nat} {B : Int} {tp : List Int} {T : kT} {wd : List Int} {ps : List kT} {im : Option kT} {sc : List (List kS)} {rf : Nat → Int} (h : Cls M ax B tp T wd ps im sc rf) : bnd T B := by
  obtain ⟨np, d, fw, ff, c0, c1, c2, c3, c4, c5, c6, c7, c8, c9, c10, c11, c12⟩ := h
  exact c11.bnd
/-- class and reference hold the same, after t calls -/
def SimP (lo t : Nat) (M : mm_M) : Prop := ∃ (tp : List Int) (T : kT) (wd : List Int) (ps : List kT) (im : Option kT) (sc : List (List kS)) (rf : Nat → Int) (m : mS) (f : Nat → Int64), M = mk M (lo + 2875) m ∧ Cls M lo (80 * (t : Int)) tp T wd ps im sc rf ∧ Mdl m tp T wd ps im sc rf ∧ Inv T wd ps im sc ∧ M.2 (lo + 2892) = some (mm_al 1 f)
theorem sim_i {lo t : Nat} {M : mm_M} {m : mS} {f : Nat → Int64} {B : Int} {tp : List Int} {T : kT} {wd : List Int} {ps : List kT} {im : Option kT} {sc : List (List kS)} {rf : Nat → Int} (ht : t ≤ 512) (ho : M.2 (lo + 2892) = some (mm_al 1 f)) (hc : Cls M lo B tp T wd ps im sc rf) (hB : B ≤ 80 * (t : Int)) (hm : Mdl m tp T wd ps im sc rf) (hI : Inv T wd ps im sc) : SimP lo t (mk M (lo + 2875) m) :=
  ⟨tp, T, wd, ps, im, sc, rf, m, f, (mk_mk M (lo + 2875) m m).symm, (hc.mono hB (by omega)).out (mk_fr1 M (lo + 2875) m) (by omega), hm, hI, (mk_fr1 M (lo + 2875) m).at ho (by omega)⟩
theorem sim_g {lo t : Nat} {M : mm_M} {m : mS} {f : Nat → Int64} {B : Int} {tp : List Int} {T : kT} {wd : List Int} {ps : List kT} {im : Option kT} {sc : List (List kS)} {rf : Nat → Int} {r : Int32} {C : Option (Int32 × mm_M)} (R : mm_M → Option (Int32 × mm_M)) (ht : t < 512) (hM : M = mk M (lo + 2875) m) (ho : M.2 (lo + 2892) = some (mm_al 1 f)) (hk : ∃ M1, C = some (r, M1) ∧ Cls M1 lo B tp T wd ps im sc rf ∧ fr M M1 lo 2875) (hB : B ≤ 80 * (t : Int) + 80) (hr : ∀ M0 : mm_M, ∃ m', R (mk M0 (lo + 2875) m) = some (r, mk M0 (lo + 2875) m') ∧ Mdl m' tp T wd ps im sc rf) (hI : Inv T wd ps im sc) : ∃ (r : Int32) (M1 M2 : mm_M), C = some (r, M1) ∧ R M1 = some (r, M2) ∧ SimP lo (t + 1) M2 := by
  obtain ⟨M1, e1, c1, f1⟩ := hk
  obtain ⟨m', e2, hm⟩ := hr M1
  exact ⟨r, M1, _, e1, (congrArg R (mk_keep hM f1 (by omega))).trans e2, sim_i (by omega) (f1.at ho (by omega)) c1 (by omega) hm hI⟩
theorem i32 (x : Int32) : ∃ y : Int, x = iI y ∧ sm y := ⟨x.toInt, (iI_self x).symm, iI_sm x⟩
/-- the store is there where an act is done -/
theorem why_ne {T : kT} (ho : okT T) {s x y : Int} {w : List Int} (hs : 0 ≤ s ∧ s ≤ 8) (h : whyK T.1 T.2.2.1 s x y w = -1) : T.1.length ≠ 0 := by
  intro e
  have cu : ∀ {z : Int}, isCu T.2.2.1 z = true → False := fun {z} q => by
    obtain ⟨a, b, c⟩ := isCu_spec q
    have := ho.2.2.2.2.2.2 e z.toNat (by omega)
    omega
  rcases (show s = 0 ∨ s = 1 ∨ s = 2 ∨ s = 3 ∨ s = 4 ∨ s = 5 ∨ s = 6 ∨ s = 7 ∨ s = 8 by omega) with rfl | rfl | rfl | rfl | rfl | rfl | rfl | rfl | rfl
  · have := why0 h; omega
  · have := why1w h; omega
  · have := why2 h; omega
  · have := why3 h; omega
  · have := why4 h; omega
  · exact cu (why5 h)
  · exact cu (why6 h)
  · have := why7 h; omega
  · have := why8 h; omega
theorem inv_try {T : kT} {wd : List Int} {ps : List kT} {im : Option kT} {sc : List (List kS)} (hI : Inv T wd ps im sc) {z : kS} (hs : 0 ≤ z.1 ∧ z.1 ≤ 8) (hw : okS z.2.2.2) (hl : z.2.2.2.length ≤ 20) (h4 : z.1 = 4 → z.2.2.2.length ≤ 6) {B : Int} (hB0 : 0 ≤ B) (hB : B ≤ 5000000) (hb : bnd T B) : Inv (tryK T ps z).1 wd (tryK T ps z).2 im sc := by
  by_cases c : T.1.length = 0
  · have w : ¬ whyK T.1 T.2.2.1 z.1 z.2.1 z.2.2.1 z.2.2.2 = -1 := fun e => why_ne hI.1 hs e c
    unfold tryK
    rw [if_neg w]
    exact hI
  · obtain ⟨a, b, d, -⟩ := try_ok hs hw hl h4 hB0 hB hI.1 c hI.2.2.2.2.1 hb
    exact ⟨a, hI.2.1, hI.2.2.1, fun e => absurd e b, d, hI.2.2.2.2.2.1, hI.2.2.2.2.2.2⟩
theorem okT_0 : okT kT0 := ⟨⟨by decide, fun i hi => absurd hi (Nat.not_lt_zero i)⟩, fun i j hi => absurd hi (Nat.not_lt_zero i), fun i hi => absurd hi (Nat.not_lt_zero i), nb0, fun c hc => ⟨by show (0 : Int) ≤ 0; omega, by show (0 : Int) ≤ 9; omega, fun z => absurd rfl z, fun z => (by cases z), Nat.zero_le 9, nb0⟩, by decide, fun _ c _ => rfl⟩
theorem mdl_0 : Mdl (fun _ _ => 0, 0) [] kT0 [] [] none [] (fun _ => 0) :=
  ⟨⟨by decide, bd_nil, rfl, fun i hi => absurd hi (Nat.not_lt_zero i)⟩, ⟨⟨⟨rfl, fun k hk => absurd hk (Nat.not_lt_zero k)⟩, rfl, fun c hc => ⟨fun _ => rfl, fun z => absurd rfl z⟩, rfl, fun i hi => absurd hi (Nat.not_lt_zero i)⟩, okT_0, rfl, fun i hi => absurd hi (Nat.not_lt_zero i), fun x hx => (by cases hx), by decide, fun _ => rfl⟩, ⟨by decide, rfl, fun i hi => absurd hi (Nat.not_lt_zero i)⟩, ⟨rfl, fun I hI => (by cases hI)⟩, ⟨by decide, rfl, fun k hk => absurd hk (Nat.not_lt_zero k)⟩, fun i hi => rfl⟩
theorem inv_0 : Inv kT0 [] [] none [] := ⟨okT_0, fun x hx => (by cases hx), by decide, fun _ => rfl, fun P hP => (by cases hP), fun I hI => (by cases hI), fun k hk => absurd hk (Nat.not_lt_zero k)⟩
