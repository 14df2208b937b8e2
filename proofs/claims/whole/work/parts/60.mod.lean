/-! the reference: its object and its sixteen rows of ints in a normal form -/
abbrev mS : Type := (Nat → Int → Int) × Int64
def mz : Nat → Nat
  | 1 => 240
  | 2 => 8
  | 3 => 160
  | 4 => 1440
  | 5 => 5
  | 6 => 20
  | 7 => 622
  | 8 => 4
  | 9 => 6
  | 10 => 200
  | 11 => 200
  | 12 => 24880
  | 13 => 20
  | 14 => 18
  | 15 => 441
  | 16 => 622
  | _ => 0
def mfs (am : Nat) (m : mS) : List Value := [.int (iI (m.1 0 0)), .ref (am + 1), .int (iI (m.1 0 2)), .int (iI (m.1 0 3)), .int (iI (m.1 0 4)), .ref (am + 2), .ref (am + 3), .int (iI (m.1 0 7)), .ref (am + 4), .ref (am + 5), .int (iI (m.1 0 10)), .ref (am + 6), .int (iI (m.1 0 12)), .ref (am + 7), .ref (am + 8), .ref (am + 9), .int (iI (m.1 0 16)), .ref (am + 10), .ref (am + 11), .int (iI (m.1 0 19)), .int (iI (m.1 0 20)), .ref (am + 12), .int (iI (m.1 0 22)), .long m.2, .ref (am + 13), .int (iI (m.1 0 25)), .int (iI (m.1 0 26)), .int (iI (m.1 0 27)), .ref (am + 14), .int (iI (m.1 0 29)), .ref (am + 15), .ref (am + 16), .int (iI (m.1 0 32))]
def mcell (am : Nat) (m : mS) (j : Nat) : mm_E := if j = 0 then mm_ob 10 (mfs am m) else mm_ai (mz j) (fun i => iI (m.1 j (i : Int)))
def mk (M : mm_M) (am : Nat) (m : mS) : mm_M := (M.1, fun q => if am ≤ q ∧ q < am + 17 then some (mcell am m (q - am)) else M.2 q)
def setA (m : mS) (j : Nat) (f : Int → Int) : mS := (fun j' => if j' = j then f else m.1 j', m.2)
def upI (f : Int → Int) (i v : Int) : Int → Int := fun q => if q = i then v else f q
theorem setA_e (m : mS) (j : Nat) (f : Int → Int) : (setA m j f).1 j = f := by simp [setA]
theorem setA_n (m : mS) {j j' : Nat} (f : Int → Int) (h : j' ≠ j) : (setA m j f).1 j' = m.1 j' := by simp [setA, h]
theorem setA_2 (m : mS) (j : Nat) (f : Int → Int) : (setA m j f).2 = m.2 := rfl
theorem upI_e (f : Int → Int) (i v : Int) : upI f i v i = v := by simp [upI]
theorem upI_n (f : Int → Int) {i q : Int} (v : Int) (h : q ≠ i) : upI f i v q = f q := by simp [upI, h]
theorem setA_setA (m : mS) (j : Nat) (f g : Int → Int) : setA (setA m j f) j g = setA m j g := by
  unfold setA; congr 1; funext q; by_cases h : q = j <;> simp [h]
theorem setA_self (m : mS) (j : Nat) : setA m j (m.1 j) = m := by
  show ((fun j' => if j' = j then m.1 j else m.1 j'), m.2) = m
  have : (fun j' => if j' = j then m.1 j else m.1 j') = m.1 := by funext q; by_cases h : q = j <;> simp [h]
  rw [this]
theorem setA_cm (m : mS) {j k : Nat} (f g : Int → Int) (h : j ≠ k) : setA (setA m j f) k g = setA (setA m k g) j f := by
  unfold setA; congr 1; funext q
  by_cases h1 : q = j
  · subst h1; simp [h]
  · simp [h1]
theorem mk_at (M : mm_M) (am : Nat) (m : mS) {j : Nat} (h : j < 17) : (mk M am m).2 (am + j) = some (mcell am m j) := by
  simp [mk, h]
theorem mk_ob (M : mm_M) (am : Nat) (m : mS) : (mk M am m).2 am = some (mm_ob 10 (mfs am m)) := by
  have := mk_at M am m (j := 0) (by omega)
  simpa [mcell] using this
theorem mk_ai (M : mm_M) (am : Nat) (m : mS) {j : Nat} (h0 : 0 < j) (h : j < 17) : (mk M am m).2 (am + j) = some (mm_ai (mz j) (fun i => iI (m.1 j (i : Int)))) := by
  rw [mk_at M am m h]; unfold mcell; rw [if_neg (by omega)]
theorem mk_set (M : mm_M) (am : Nat) (m m' : mS) {j : Nat} (h : j < 17) (e : mm_E) (he : mcell am m' j = e) (hn : ∀ q, q ≠ j → mcell am m' q = mcell am m q) : mm_set (mk M am m) (am + j) e = mk M am m' := by
  unfold mm_set mk
  congr 1
  funext q
  by_cases c : q = am + j
  · subst c; rw [if_pos rfl, if_pos (by omega), ← he]; congr 2; omega
  · rw [if_neg c]
    by_cases d : am ≤ q ∧ q < am + 17
    · simp only [if_pos d]; rw [hn _ (by omega)]
    · simp only [if_neg d]
theorem mk_v {β : Type} (M : mm_M) (am : Nat) (m : mS) (x : Option β) : mm_v 10 (mk M am m) am x = x := v_at (mk_ob M am m) x
theorem mk_ia (M : mm_M) (am : Nat) (m : mS) {j : Nat} (h0 : 0 < j) (h : j < 17) {i : Int} (i0 : 0 ≤ i) (i1 : i < mz j) (hs : sm i) : mm_ia (mk M am m) (am + j) (iI i) = some (iI (m.1 j i)) := by
  rw [ia_at (mk_ai M am m h0 h) i0 i1 hs, show ((i.toNat : Nat) : Int) = i by omega]
theorem mk_is (M : mm_M) (am : Nat) (m : mS) {j : Nat} (h0 : 0 < j) (h : j < 17) {i : Int} (i0 : 0 ≤ i) (i1 : i < mz j) (hs : sm i) (v : Int) : mm_is (mk M am m) (am + j) (iI i) (iI v) = some (mk M am (setA m j (upI (m.1 j) i v))) := by
  rw [is_at (mk_ai M am m h0 h) i0 i1 hs]
  congr 1
  refine mk_set M am m _ h _ ?_ ?_
  · unfold mcell
    rw [if_neg (by omega), setA_e]
    congr 3
    funext q
    simp only [upd, upI]
    by_cases c : q = i.toNat
    · rw [if_pos c, if_pos (by omega)]
    · rw [if_neg c, if_neg (by omega)]
  · intro q hq
    unfold mcell mfs
    rw [setA_n _ _ hq, setA_n _ _ (show 0 ≠ j by omega)]; rfl
theorem mk_put (M : mm_M) (am : Nat) (m : mS) (k : Nat) (v : Int) (hk : k < 33) (he : mfs am (setA m 0 (upI (m.1 0) k v)) = (mfs am m).set k (.int (iI v))) : mm_pi 10 k (mk M am m) am (iI v) = some (mk M am (setA m 0 (upI (m.1 0) k v))) := by
  rw [pi_at (mk_ob M am m) k hk]
  congr 1
  have := mk_set M am m (setA m 0 (upI (m.1 0) k v)) (j := 0) (by omega) (mm_ob 10 ((mfs am m).set k (.int (iI v)))) (by unfold mcell; rw [if_pos rfl, he]) (by
    intro q hq
    unfold mcell
    rw [if_neg hq, if_neg hq, setA_n _ _ hq])
  simpa using this

theorem mk_gr1 (M : mm_M) (am : Nat) (m : mS) : mm_gr 10 1 (mk M am m) am = some (am + 1) := gr_at (mk_ob M am m) 1 rfl
theorem mk_gr5 (M : mm_M) (am : Nat) (m : mS) : mm_gr 10 5 (mk M am m) am = some (am + 2) := gr_at (mk_ob M am m) 5 rfl
theorem mk_gr6 (M : mm_M) (am : Nat) (m : mS) : mm_gr 10 6 (mk M am m) am = some (am + 3) := gr_at (mk_ob M am m) 6 rfl
theorem mk_gr8 (M : mm_M) (am : Nat) (m : mS) : mm_gr 10 8 (mk M am m) am = some (am + 4) := gr_at (mk_ob M am m) 8 rfl
theorem mk_gr9 (M : mm_M) (am : Nat) (m : mS) : mm_gr 10 9 (mk M am m) am = some (am + 5) := gr_at (mk_ob M am m) 9 rfl
theorem mk_gr11 (M : mm_M) (am : Nat) (m : mS) : mm_gr 10 11 (mk M am m) am = some (am + 6) := gr_at (mk_ob M am m) 11 rfl
theorem mk_gr13 (M : mm_M) (am : Nat) (m : mS) : mm_gr 10 13 (mk M am m) am = some (am + 7) := gr_at (mk_ob M am m) 13 rfl
theorem mk_gr14 (M : mm_M) (am : Nat) (m : mS) : mm_gr 10 14 (mk M am m) am = some (am + 8) := gr_at (mk_ob M am m) 14 rfl
theorem mk_gr15 (M : mm_M) (am : Nat) (m : mS) : mm_gr 10 15 (mk M am m) am = some (am + 9) := gr_at (mk_ob M am m) 15 rfl
theorem mk_gr17 (M : mm_M) (am : Nat) (m : mS) : mm_gr 10 17 (mk M am m) am = some (am + 10) := gr_at (mk_ob M am m) 17 rfl
theorem mk_gr18 (M : mm_M) (am : Nat) (m : mS) : mm_gr 10 18 (mk M am m) am = some (am + 11) := gr_at (mk_ob M am m) 18 rfl
theorem mk_gr21 (M : mm_M) (am : Nat) (m : mS) : mm_gr 10 21 (mk M am m) am = some (am + 12) := gr_at (mk_ob M am m) 21 rfl
theorem mk_gr24 (M : mm_M) (am : Nat) (m : mS) : mm_gr 10 24 (mk M am m) am = some (am + 13) := gr_at (mk_ob M am m) 24 rfl
theorem mk_gr28 (M : mm_M) (am : Nat) (m : mS) : mm_gr 10 28 (mk M am m) am = some (am + 14) := gr_at (mk_ob M am m) 28 rfl
theorem mk_gr30 (M : mm_M) (am : Nat) (m : mS) : mm_gr 10 30 (mk M am m) am = some (am + 15) := gr_at (mk_ob M am m) 30 rfl
theorem mk_gr31 (M : mm_M) (am : Nat) (m : mS) : mm_gr 10 31 (mk M am m) am = some (am + 16) := gr_at (mk_ob M am m) 31 rfl
theorem mk_gi0 (M : mm_M) (am : Nat) (m : mS) : mm_gi 10 0 (mk M am m) am = some (iI (m.1 0 0)) := gi_at (mk_ob M am m) 0 rfl
theorem mk_pi0 (M : mm_M) (am : Nat) (m : mS) (v : Int) : mm_pi 10 0 (mk M am m) am (iI v) = some (mk M am (setA m 0 (upI (m.1 0) 0 v))) := mk_put M am m 0 v (by omega) (by simp [mfs, setA, upI])
theorem mk_gi2 (M : mm_M) (am : Nat) (m : mS) : mm_gi 10 2 (mk M am m) am = some (iI (m.1 0 2)) := gi_at (mk_ob M am m) 2 rfl
theorem mk_pi2 (M : mm_M) (am : Nat) (m : mS) (v : Int) : mm_pi 10 2 (mk M am m) am (iI v) = some (mk M am (setA m 0 (upI (m.1 0) 2 v))) := mk_put M am m 2 v (by omega) (by simp [mfs, setA, upI])
theorem mk_gi3 (M : mm_M) (am : Nat) (m : mS) : mm_gi 10 3 (mk M am m) am = some (iI (m.1 0 3)) := gi_at (mk_ob M am m) 3 rfl
theorem mk_pi3 (M : mm_M) (am : Nat) (m : mS) (v : Int) : mm_pi 10 3 (mk M am m) am (iI v) = some (mk M am (setA m 0 (upI (m.1 0) 3 v))) := mk_put M am m 3 v (by omega) (by simp [mfs, setA, upI])
theorem mk_gi4 (M : mm_M) (am : Nat) (m : mS) : mm_gi 10 4 (mk M am m) am = some (iI (m.1 0 4)) := gi_at (mk_ob M am m) 4 rfl
theorem mk_pi4 (M : mm_M) (am : Nat) (m : mS) (v : Int) : mm_pi 10 4 (mk M am m) am (iI v) = some (mk M am (setA m 0 (upI (m.1 0) 4 v))) := mk_put M am m 4 v (by omega) (by simp [mfs, setA, upI])
theorem mk_gi7 (M : mm_M) (am : Nat) (m : mS) : mm_gi 10 7 (mk M am m) am = some (iI (m.1 0 7)) := gi_at (mk_ob M am m) 7 rfl
theorem mk_pi7 (M : mm_M) (am : Nat) (m : mS) (v : Int) : mm_pi 10 7 (mk M am m) am (iI v) = some (mk M am (setA m 0 (upI (m.1 0) 7 v))) := mk_put M am m 7 v (by omega) (by simp [mfs, setA, upI])
theorem mk_gi10 (M : mm_M) (am : Nat) (m : mS) : mm_gi 10 10 (mk M am m) am = some (iI (m.1 0 10)) := gi_at (mk_ob M am m) 10 rfl
theorem mk_pi10 (M : mm_M) (am : Nat) (m : mS) (v : Int) : mm_pi 10 10 (mk M am m) am (iI v) = some (mk M am (setA m 0 (upI (m.1 0) 10 v))) := mk_put M am m 10 v (by omega) (by simp [mfs, setA, upI])
theorem mk_gi12 (M : mm_M) (am : Nat) (m : mS) : mm_gi 10 12 (mk M am m) am = some (iI (m.1 0 12)) := gi_at (mk_ob M am m) 12 rfl
theorem mk_pi12 (M : mm_M) (am : Nat) (m : mS) (v : Int) : mm_pi 10 12 (mk M am m) am (iI v) = some (mk M am (setA m 0 (upI (m.1 0) 12 v))) := mk_put M am m 12 v (by omega) (by simp [mfs, setA, upI])
theorem mk_gi16 (M : mm_M) (am : Nat) (m : mS) : mm_gi 10 16 (mk M am m) am = some (iI (m.1 0 16)) := gi_at (mk_ob M am m) 16 rfl
theorem mk_pi16 (M : mm_M) (am : Nat) (m : mS) (v : Int) : mm_pi 10 16 (mk M am m) am (iI v) = some (mk M am (setA m 0 (upI (m.1 0) 16 v))) := mk_put M am m 16 v (by omega) (by simp [mfs, setA, upI])
theorem mk_gi19 (M : mm_M) (am : Nat) (m : mS) : mm_gi 10 19 (mk M am m) am = some (iI (m.1 0 19)) := gi_at (mk_ob M am m) 19 rfl
theorem mk_pi19 (M : mm_M) (am : Nat) (m : mS) (v : Int) : mm_pi 10 19 (mk M am m) am (iI v) = some (mk M am (setA m 0 (upI (m.1 0) 19 v))) := mk_put M am m 19 v (by omega) (by simp [mfs, setA, upI])
theorem mk_gi20 (M : mm_M) (am : Nat) (m : mS) : mm_gi 10 20 (mk M am m) am = some (iI (m.1 0 20)) := gi_at (mk_ob M am m) 20 rfl
theorem mk_pi20 (M : mm_M) (am : Nat) (m : mS) (v : Int) : mm_pi 10 20 (mk M am m) am (iI v) = some (mk M am (setA m 0 (upI (m.1 0) 20 v))) := mk_put M am m 20 v (by omega) (by simp [mfs, setA, upI])
theorem mk_gi22 (M : mm_M) (am : Nat) (m : mS) : mm_gi 10 22 (mk M am m) am = some (iI (m.1 0 22)) := gi_at (mk_ob M am m) 22 rfl
theorem mk_pi22 (M : mm_M) (am : Nat) (m : mS) (v : Int) : mm_pi 10 22 (mk M am m) am (iI v) = some (mk M am (setA m 0 (upI (m.1 0) 22 v))) := mk_put M am m 22 v (by omega) (by simp [mfs, setA, upI])
theorem mk_gi25 (M : mm_M) (am : Nat) (m : mS) : mm_gi 10 25 (mk M am m) am = some (iI (m.1 0 25)) := gi_at (mk_ob M am m) 25 rfl
theorem mk_pi25 (M : mm_M) (am : Nat) (m : mS) (v : Int) : mm_pi 10 25 (mk M am m) am (iI v) = some (mk M am (setA m 0 (upI (m.1 0) 25 v))) := mk_put M am m 25 v (by omega) (by simp [mfs, setA, upI])
theorem mk_gi26 (M : mm_M) (am : Nat) (m : mS) : mm_gi 10 26 (mk M am m) am = some (iI (m.1 0 26)) := gi_at (mk_ob M am m) 26 rfl
theorem mk_pi26 (M : mm_M) (am : Nat) (m : mS) (v : Int) : mm_pi 10 26 (mk M am m) am (iI v) = some (mk M am (setA m 0 (upI (m.1 0) 26 v))) := mk_put M am m 26 v (by omega) (by simp [mfs, setA, upI])
theorem mk_gi27 (M : mm_M) (am : Nat) (m : mS) : mm_gi 10 27 (mk M am m) am = some (iI (m.1 0 27)) := gi_at (mk_ob M am m) 27 rfl
theorem mk_pi27 (M : mm_M) (am : Nat) (m : mS) (v : Int) : mm_pi 10 27 (mk M am m) am (iI v) = some (mk M am (setA m 0 (upI (m.1 0) 27 v))) := mk_put M am m 27 v (by omega) (by simp [mfs, setA, upI])
theorem mk_gi29 (M : mm_M) (am : Nat) (m : mS) : mm_gi 10 29 (mk M am m) am = some (iI (m.1 0 29)) := gi_at (mk_ob M am m) 29 rfl
theorem mk_pi29 (M : mm_M) (am : Nat) (m : mS) (v : Int) : mm_pi 10 29 (mk M am m) am (iI v) = some (mk M am (setA m 0 (upI (m.1 0) 29 v))) := mk_put M am m 29 v (by omega) (by simp [mfs, setA, upI])
theorem mk_gi32 (M : mm_M) (am : Nat) (m : mS) : mm_gi 10 32 (mk M am m) am = some (iI (m.1 0 32)) := gi_at (mk_ob M am m) 32 rfl
theorem mk_pi32 (M : mm_M) (am : Nat) (m : mS) (v : Int) : mm_pi 10 32 (mk M am m) am (iI v) = some (mk M am (setA m 0 (upI (m.1 0) 32 v))) := mk_put M am m 32 v (by omega) (by simp [mfs, setA, upI])
theorem mk_ia1 (M : mm_M) (am : Nat) (m : mS) {i : Int} (h0 : 0 ≤ i) (h1 : i < 240) : mm_ia (mk M am m) (am + 1) (iI i) = some (iI (m.1 1 i)) := mk_ia M am m (by omega) (by omega) h0 (by simpa [mz] using h1) (sm_of (by omega) (by omega))
theorem mk_is1 (M : mm_M) (am : Nat) (m : mS) {i : Int} (h0 : 0 ≤ i) (h1 : i < 240) (v : Int) : mm_is (mk M am m) (am + 1) (iI i) (iI v) = some (mk M am (setA m 1 (upI (m.1 1) i v))) := mk_is M am m (by omega) (by omega) h0 (by simpa [mz] using h1) (sm_of (by omega) (by omega)) v
theorem mk_ia2 (M : mm_M) (am : Nat) (m : mS) {i : Int} (h0 : 0 ≤ i) (h1 : i < 8) : mm_ia (mk M am m) (am + 2) (iI i) = some (iI (m.1 2 i)) := mk_ia M am m (by omega) (by omega) h0 (by simpa [mz] using h1) (sm_of (by omega) (by omega))
theorem mk_is2 (M : mm_M) (am : Nat) (m : mS) {i : Int} (h0 : 0 ≤ i) (h1 : i < 8) (v : Int) : mm_is (mk M am m) (am + 2) (iI i) (iI v) = some (mk M am (setA m 2 (upI (m.1 2) i v))) := mk_is M am m (by omega) (by omega) h0 (by simpa [mz] using h1) (sm_of (by omega) (by omega)) v
theorem mk_ia3 (M : mm_M) (am : Nat) (m : mS) {i : Int} (h0 : 0 ≤ i) (h1 : i < 160) : mm_ia (mk M am m) (am + 3) (iI i) = some (iI (m.1 3 i)) := mk_ia M am m (by omega) (by omega) h0 (by simpa [mz] using h1) (sm_of (by omega) (by omega))
theorem mk_is3 (M : mm_M) (am : Nat) (m : mS) {i : Int} (h0 : 0 ≤ i) (h1 : i < 160) (v : Int) : mm_is (mk M am m) (am + 3) (iI i) (iI v) = some (mk M am (setA m 3 (upI (m.1 3) i v))) := mk_is M am m (by omega) (by omega) h0 (by simpa [mz] using h1) (sm_of (by omega) (by omega)) v
theorem mk_ia4 (M : mm_M) (am : Nat) (m : mS) {i : Int} (h0 : 0 ≤ i) (h1 : i < 1440) : mm_ia (mk M am m) (am + 4) (iI i) = some (iI (m.1 4 i)) := mk_ia M am m (by omega) (by omega) h0 (by simpa [mz] using h1) (sm_of (by omega) (by omega))
theorem mk_is4 (M : mm_M) (am : Nat) (m : mS) {i : Int} (h0 : 0 ≤ i) (h1 : i < 1440) (v : Int) : mm_is (mk M am m) (am + 4) (iI i) (iI v) = some (mk M am (setA m 4 (upI (m.1 4) i v))) := mk_is M am m (by omega) (by omega) h0 (by simpa [mz] using h1) (sm_of (by omega) (by omega)) v
theorem mk_ia5 (M : mm_M) (am : Nat) (m : mS) {i : Int} (h0 : 0 ≤ i) (h1 : i < 5) : mm_ia (mk M am m) (am + 5) (iI i) = some (iI (m.1 5 i)) := mk_ia M am m (by omega) (by omega) h0 (by simpa [mz] using h1) (sm_of (by omega) (by omega))
theorem mk_is5 (M : mm_M) (am : Nat) (m : mS) {i : Int} (h0 : 0 ≤ i) (h1 : i < 5) (v : Int) : mm_is (mk M am m) (am + 5) (iI i) (iI v) = some (mk M am (setA m 5 (upI (m.1 5) i v))) := mk_is M am m (by omega) (by omega) h0 (by simpa [mz] using h1) (sm_of (by omega) (by omega)) v
theorem mk_ia6 (M : mm_M) (am : Nat) (m : mS) {i : Int} (h0 : 0 ≤ i) (h1 : i < 20) : mm_ia (mk M am m) (am + 6) (iI i) = some (iI (m.1 6 i)) := mk_ia M am m (by omega) (by omega) h0 (by simpa [mz] using h1) (sm_of (by omega) (by omega))
theorem mk_is6 (M : mm_M) (am : Nat) (m : mS) {i : Int} (h0 : 0 ≤ i) (h1 : i < 20) (v : Int) : mm_is (mk M am m) (am + 6) (iI i) (iI v) = some (mk M am (setA m 6 (upI (m.1 6) i v))) := mk_is M am m (by omega) (by omega) h0 (by simpa [mz] using h1) (sm_of (by omega) (by omega)) v
theorem mk_ia7 (M : mm_M) (am : Nat) (m : mS) {i : Int} (h0 : 0 ≤ i) (h1 : i < 622) : mm_ia (mk M am m) (am + 7) (iI i) = some (iI (m.1 7 i)) := mk_ia M am m (by omega) (by omega) h0 (by simpa [mz] using h1) (sm_of (by omega) (by omega))
theorem mk_is7 (M : mm_M) (am : Nat) (m : mS) {i : Int} (h0 : 0 ≤ i) (h1 : i < 622) (v : Int) : mm_is (mk M am m) (am + 7) (iI i) (iI v) = some (mk M am (setA m 7 (upI (m.1 7) i v))) := mk_is M am m (by omega) (by omega) h0 (by simpa [mz] using h1) (sm_of (by omega) (by omega)) v
theorem mk_ia8 (M : mm_M) (am : Nat) (m : mS) {i : Int} (h0 : 0 ≤ i) (h1 : i < 4) : mm_ia (mk M am m) (am + 8) (iI i) = some (iI (m.1 8 i)) := mk_ia M am m (by omega) (by omega) h0 (by simpa [mz] using h1) (sm_of (by omega) (by omega))
theorem mk_is8 (M : mm_M) (am : Nat) (m : mS) {i : Int} (h0 : 0 ≤ i) (h1 : i < 4) (v : Int) : mm_is (mk M am m) (am + 8) (iI i) (iI v) = some (mk M am (setA m 8 (upI (m.1 8) i v))) := mk_is M am m (by omega) (by omega) h0 (by simpa [mz] using h1) (sm_of (by omega) (by omega)) v
theorem mk_ia9 (M : mm_M) (am : Nat) (m : mS) {i : Int} (h0 : 0 ≤ i) (h1 : i < 6) : mm_ia (mk M am m) (am + 9) (iI i) = some (iI (m.1 9 i)) := mk_ia M am m (by omega) (by omega) h0 (by simpa [mz] using h1) (sm_of (by omega) (by omega))
theorem mk_is9 (M : mm_M) (am : Nat) (m : mS) {i : Int} (h0 : 0 ≤ i) (h1 : i < 6) (v : Int) : mm_is (mk M am m) (am + 9) (iI i) (iI v) = some (mk M am (setA m 9 (upI (m.1 9) i v))) := mk_is M am m (by omega) (by omega) h0 (by simpa [mz] using h1) (sm_of (by omega) (by omega)) v
theorem mk_ia10 (M : mm_M) (am : Nat) (m : mS) {i : Int} (h0 : 0 ≤ i) (h1 : i < 200) : mm_ia (mk M am m) (am + 10) (iI i) = some (iI (m.1 10 i)) := mk_ia M am m (by omega) (by omega) h0 (by simpa [mz] using h1) (sm_of (by omega) (by omega))
theorem mk_is10 (M : mm_M) (am : Nat) (m : mS) {i : Int} (h0 : 0 ≤ i) (h1 : i < 200) (v : Int) : mm_is (mk M am m) (am + 10) (iI i) (iI v) = some (mk M am (setA m 10 (upI (m.1 10) i v))) := mk_is M am m (by omega) (by omega) h0 (by simpa [mz] using h1) (sm_of (by omega) (by omega)) v
theorem mk_ia11 (M : mm_M) (am : Nat) (m : mS) {i : Int} (h0 : 0 ≤ i) (h1 : i < 200) : mm_ia (mk M am m) (am + 11) (iI i) = some (iI (m.1 11 i)) := mk_ia M am m (by omega) (by omega) h0 (by simpa [mz] using h1) (sm_of (by omega) (by omega))
theorem mk_is11 (M : mm_M) (am : Nat) (m : mS) {i : Int} (h0 : 0 ≤ i) (h1 : i < 200) (v : Int) : mm_is (mk M am m) (am + 11) (iI i) (iI v) = some (mk M am (setA m 11 (upI (m.1 11) i v))) := mk_is M am m (by omega) (by omega) h0 (by simpa [mz] using h1) (sm_of (by omega) (by omega)) v
theorem mk_ia12 (M : mm_M) (am : Nat) (m : mS) {i : Int} (h0 : 0 ≤ i) (h1 : i < 24880) : mm_ia (mk M am m) (am + 12) (iI i) = some (iI (m.1 12 i)) := mk_ia M am m (by omega) (by omega) h0 (by simpa [mz] using h1) (sm_of (by omega) (by omega))
theorem mk_is12 (M : mm_M) (am : Nat) (m : mS) {i : Int} (h0 : 0 ≤ i) (h1 : i < 24880) (v : Int) : mm_is (mk M am m) (am + 12) (iI i) (iI v) = some (mk M am (setA m 12 (upI (m.1 12) i v))) := mk_is M am m (by omega) (by omega) h0 (by simpa [mz] using h1) (sm_of (by omega) (by omega)) v
theorem mk_ia13 (M : mm_M) (am : Nat) (m : mS) {i : Int} (h0 : 0 ≤ i) (h1 : i < 20) : mm_ia (mk M am m) (am + 13) (iI i) = some (iI (m.1 13 i)) := mk_ia M am m (by omega) (by omega) h0 (by simpa [mz] using h1) (sm_of (by omega) (by omega))
theorem mk_is13 (M : mm_M) (am : Nat) (m : mS) {i : Int} (h0 : 0 ≤ i) (h1 : i < 20) (v : Int) : mm_is (mk M am m) (am + 13) (iI i) (iI v) = some (mk M am (setA m 13 (upI (m.1 13) i v))) := mk_is M am m (by omega) (by omega) h0 (by simpa [mz] using h1) (sm_of (by omega) (by omega)) v
theorem mk_ia14 (M : mm_M) (am : Nat) (m : mS) {i : Int} (h0 : 0 ≤ i) (h1 : i < 18) : mm_ia (mk M am m) (am + 14) (iI i) = some (iI (m.1 14 i)) := mk_ia M am m (by omega) (by omega) h0 (by simpa [mz] using h1) (sm_of (by omega) (by omega))
theorem mk_is14 (M : mm_M) (am : Nat) (m : mS) {i : Int} (h0 : 0 ≤ i) (h1 : i < 18) (v : Int) : mm_is (mk M am m) (am + 14) (iI i) (iI v) = some (mk M am (setA m 14 (upI (m.1 14) i v))) := mk_is M am m (by omega) (by omega) h0 (by simpa [mz] using h1) (sm_of (by omega) (by omega)) v
theorem mk_ia15 (M : mm_M) (am : Nat) (m : mS) {i : Int} (h0 : 0 ≤ i) (h1 : i < 441) : mm_ia (mk M am m) (am + 15) (iI i) = some (iI (m.1 15 i)) := mk_ia M am m (by omega) (by omega) h0 (by simpa [mz] using h1) (sm_of (by omega) (by omega))
theorem mk_is15 (M : mm_M) (am : Nat) (m : mS) {i : Int} (h0 : 0 ≤ i) (h1 : i < 441) (v : Int) : mm_is (mk M am m) (am + 15) (iI i) (iI v) = some (mk M am (setA m 15 (upI (m.1 15) i v))) := mk_is M am m (by omega) (by omega) h0 (by simpa [mz] using h1) (sm_of (by omega) (by omega)) v
theorem mk_ia16 (M : mm_M) (am : Nat) (m : mS) {i : Int} (h0 : 0 ≤ i) (h1 : i < 622) : mm_ia (mk M am m) (am + 16) (iI i) = some (iI (m.1 16 i)) := mk_ia M am m (by omega) (by omega) h0 (by simpa [mz] using h1) (sm_of (by omega) (by omega))
theorem mk_is16 (M : mm_M) (am : Nat) (m : mS) {i : Int} (h0 : 0 ≤ i) (h1 : i < 622) (v : Int) : mm_is (mk M am m) (am + 16) (iI i) (iI v) = some (mk M am (setA m 16 (upI (m.1 16) i v))) := mk_is M am m (by omega) (by omega) h0 (by simpa [mz] using h1) (sm_of (by omega) (by omega)) v
theorem mk_gl23 (M : mm_M) (am : Nat) (m : mS) : mm_gl 10 23 (mk M am m) am = some m.2 := gl_at (mk_ob M am m) 23 rfl
theorem mk_pl23 (M : mm_M) (am : Nat) (m : mS) (v : Int64) : mm_pl 10 23 (mk M am m) am v = some (mk M am (m.1, v)) := by
  rw [pl_at (mk_ob M am m) 23 (by simp [mfs])]
  congr 1
  have := mk_set M am m (m.1, v) (j := 0) (by omega) (mm_ob 10 ((mfs am m).set 23 (.long v))) (by unfold mcell; simp [mfs]) (by
    intro q hq
    unfold mcell
    rw [if_neg hq, if_neg hq])
  simpa using this
theorem mk_pz32 (M : mm_M) (am : Nat) (m : mS) {v : Int} (hv : v = 0 ∨ v = 1) : mm_pz 10 32 (mk M am m) am (iI v) = some (mk M am (setA m 0 (upI (m.1 0) 32 v))) := by
  have e := mk_pi32 M am m v
  unfold mm_pz
  rw [if_pos (by rcases hv with rfl | rfl <;> decide)]
  exact e
theorem mk_1 (M : mm_M) (am : Nat) (m : mS) : (mk M am m).1 = M.1 := rfl
theorem mk_fr (M : mm_M) (am : Nat) (m m' : mS) : fr (mk M am m) (mk M am m') am 17 := ⟨rfl, fun q hq => by unfold mk; simp only; rw [if_neg (by omega), if_neg (by omega)]⟩
theorem mk_of {M : mm_M} {am : Nat} {m : mS} (h : ∀ j, j < 17 → M.2 (am + j) = some (mcell am m j)) : M = mk M am m := by
  unfold mk
  have : M.2 = fun q => if am ≤ q ∧ q < am + 17 then some (mcell am m (q - am)) else M.2 q := by
    funext q
    by_cases c : am ≤ q ∧ q < am + 17
    · rw [if_pos c, ← h (q - am) (by omega), show am + (q - am) = q by omega]
    · rw [if_neg c]
  rw [← this]

