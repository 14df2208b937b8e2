/-! THE PURE PART. Numbers, and reads and writes of the abstract memory as equations. -/
def iI (z : Int) : Int32 := Int32.ofInt z
def sm (z : Int) : Prop := -2147483648 ≤ z ∧ z < 2147483648
theorem iI_toInt {z : Int} (h : sm z) : (iI z).toInt = z := by
  unfold iI
  rw [Int32.toInt_ofInt]
  show Int.bmod z 4294967296 = z
  exact Int.bmod_eq_of_le (by have := h.1; omega) (by have := h.2; omega)
theorem iI_self (x : Int32) : iI x.toInt = x := Int32.ofInt_toInt x
theorem iI_sm (x : Int32) : sm x.toInt := ⟨by have := Int32.le_toInt x; omega, by have := Int32.toInt_lt x; omega⟩
theorem iI_add (a b : Int) : iI a + iI b = iI (a + b) := (Int32.ofInt_add a b).symm
theorem iI_sub (a b : Int) : iI a - iI b = iI (a - b) := (Int32.ofInt_sub a b).symm
theorem iI_mul (a b : Int) : iI a * iI b = iI (a * b) := (Int32.ofInt_mul a b).symm
theorem iI_neg (a : Int) : -iI a = iI (-a) := (Int32.ofInt_neg a).symm
theorem iI_lt {a b : Int} (ha : sm a) (hb : sm b) : (iI a < iI b) = (a < b) := by
  rw [Int32.lt_iff_toInt_lt, iI_toInt ha, iI_toInt hb]
theorem iI_le {a b : Int} (ha : sm a) (hb : sm b) : (iI a ≤ iI b) = (a ≤ b) := by
  rw [Int32.le_iff_toInt_le, iI_toInt ha, iI_toInt hb]
theorem iI_eq {a b : Int} (ha : sm a) (hb : sm b) : (iI a = iI b) = (a = b) := by
  rw [← Int32.toInt_inj, iI_toInt ha, iI_toInt hb]
theorem iI_nat {a : Int} (ha : sm a) : (iI a).toNatClampNeg = a.toNat := by
  show (iI a).toInt.toNat = _
  rw [iI_toInt ha]
theorem iI_ofNat (k : Nat) : Int32.ofNat k = iI (k : Int) := by
  unfold iI
  exact (Int32.ofInt_eq_ofNat).symm
theorem iI_div {a b : Int} (ha : 0 ≤ a) (ha2 : sm a) (hb : 0 < b) (hb2 : sm b) : iI a / iI b = iI (a / b) := by
  have h1 : a / b ≤ a := Int.ediv_le_self b ha
  have h2 : 0 ≤ a / b := Int.ediv_nonneg ha (Int.le_of_lt hb)
  have hs : sm (a / b) := ⟨by omega, by have := ha2.2; omega⟩
  apply Int32.toInt_inj.mp
  rw [Int32.toInt_div, iI_toInt ha2, iI_toInt hb2, iI_toInt hs, Int.tdiv_eq_ediv_of_nonneg ha]
  exact Int.bmod_eq_of_le (by have := hs.1; omega) (by have := hs.2; omega)
theorem iI_rem {a b : Int} (ha : 0 ≤ a) (ha2 : sm a) (hb : 0 < b) (hb2 : sm b) : iI a - iI a / iI b * iI b = iI (a % b) := by
  rw [iI_div ha ha2 hb hb2, iI_mul, iI_sub]
  congr 1
  have := Int.emod_def a b
  rw [this, Int.mul_comm]
theorem sm_of {z : Int} (h1 : -1000000000 ≤ z) (h2 : z ≤ 1000000000) : sm z := ⟨by omega, by omega⟩
-- binds
theorem b1_s {α β : Type} (x : α) (F : α → Option β) : mm_b1 (some x) F = F x := rfl
theorem b2_s {α β : Type} (x : α) (M : mm_M) (F : α → mm_M → Option β) : mm_b2 (some (x, M)) F = F x M := rfl
-- reads
theorem v_at {β : Type} {ci : Nat} {M : mm_M} {a : Nat} {fs : List Value} (h : M.2 a = some (mm_ob ci fs)) (x : Option β) : mm_v ci M a x = x := by
  simp [mm_v, h]
theorem gi_at {M : mm_M} {a ci : Nat} {fs : List Value} (h : M.2 a = some (mm_ob ci fs)) (k : Nat) {v : Int32} (hk : fs[k]? = some (.int v)) : mm_gi ci k M a = some v := by
  simp [mm_gi, mm_get, h, hk]
theorem gl_at {M : mm_M} {a ci : Nat} {fs : List Value} (h : M.2 a = some (mm_ob ci fs)) (k : Nat) {v : Int64} (hk : fs[k]? = some (.long v)) : mm_gl ci k M a = some v := by
  simp [mm_gl, mm_get, h, hk]
theorem gr_at {M : mm_M} {a ci : Nat} {fs : List Value} (h : M.2 a = some (mm_ob ci fs)) (k : Nat) {v : Nat} (hk : fs[k]? = some (.ref v)) : mm_gr ci k M a = some v := by
  simp [mm_gr, mm_get, h, hk]
theorem pi_at {M : mm_M} {a ci : Nat} {fs : List Value} (h : M.2 a = some (mm_ob ci fs)) (k : Nat) (hk : k < fs.length) (v : Int32) : mm_pi ci k M a v = some (mm_set M a (mm_ob ci (fs.set k (.int v)))) := by
  simp [mm_pi, mm_put, h, hk]
theorem pl_at {M : mm_M} {a ci : Nat} {fs : List Value} (h : M.2 a = some (mm_ob ci fs)) (k : Nat) (hk : k < fs.length) (v : Int64) : mm_pl ci k M a v = some (mm_set M a (mm_ob ci (fs.set k (.long v)))) := by
  simp [mm_pl, mm_put, h, hk]
theorem pr_at {M : mm_M} {a ci : Nat} {fs : List Value} (h : M.2 a = some (mm_ob ci fs)) (k : Nat) (hk : k < fs.length) (v : Nat) : mm_pr ci k M a v = some (mm_set M a (mm_ob ci (fs.set k (.ref v)))) := by
  simp [mm_pr, mm_put, h, hk]
theorem pz_at {M : mm_M} {a ci : Nat} {fs : List Value} (h : M.2 a = some (mm_ob ci fs)) (k : Nat) (hk : k < fs.length) {v : Int32} (hv : v = 0 ∨ v = 1) : mm_pz ci k M a v = some (mm_set M a (mm_ob ci (fs.set k (.int v)))) := by
  simp [mm_pz, mm_put, h, hk, hv]
theorem len_at {M : mm_M} {a n : Nat} {f : Nat → Int32} (h : M.2 a = some (mm_ai n f)) : mm_len M a = some (iI n) := by
  simp [mm_len, h, iI_ofNat]
theorem lenr_at {M : mm_M} {a t n : Nat} {f : Nat → Option Nat} (h : M.2 a = some (mm_ar t n f)) (ht : t < 5) : mm_len M a = some (iI n) := by
  have : ¬ 5 ≤ t := by omega
  simp [mm_len, h, this, iI_ofNat]
theorem ia_at {M : mm_M} {a n : Nat} {f : Nat → Int32} (h : M.2 a = some (mm_ai n f)) {i : Int} (h0 : 0 ≤ i) (h1 : i < n) (hs : sm i) : mm_ia M a (iI i) = some (f i.toNat) := by
  have e1 : ¬ (iI i < 0) := by
    rw [show (0 : Int32) = iI 0 from rfl, iI_lt hs (sm_of (by omega) (by omega))]; omega
  have e2 : ¬ n ≤ i.toNat := by omega
  simp [mm_ia, h, iI_nat hs, e1, e2]
theorem is_at {M : mm_M} {a n : Nat} {f : Nat → Int32} (h : M.2 a = some (mm_ai n f)) {i : Int} (h0 : 0 ≤ i) (h1 : i < n) (hs : sm i) (v : Int32) : mm_is M a (iI i) v = some (mm_set M a (mm_ai n (upd f i.toNat v))) := by
  have e1 : ¬ (iI i < 0) := by
    rw [show (0 : Int32) = iI 0 from rfl, iI_lt hs (sm_of (by omega) (by omega))]; omega
  have e2 : ¬ n ≤ i.toNat := by omega
  simp [mm_is, h, iI_nat hs, e1, e2]
theorem ra_at {M : mm_M} {a t n : Nat} {f : Nat → Option Nat} (h : M.2 a = some (mm_ar t n f)) (ht : t < 5) {i : Int} (h0 : 0 ≤ i) (h1 : i < n) (hs : sm i) : mm_ra M a (iI i) = f i.toNat := by
  have e1 : ¬ (iI i < 0) := by
    rw [show (0 : Int32) = iI 0 from rfl, iI_lt hs (sm_of (by omega) (by omega))]; omega
  have e2 : ¬ n ≤ i.toNat := by omega
  have e3 : ¬ 5 ≤ t := by omega
  simp [mm_ra, h, iI_nat hs, e1, e2, e3]
theorem rs_at {M : mm_M} {a t n v : Nat} {f : Nat → Option Nat} {fs : List Value} (h : M.2 a = some (mm_ar t n f)) (ht : t < 5) (hv : M.2 v = some (mm_ob (mm_elc t) fs)) {i : Int} (h0 : 0 ≤ i) (h1 : i < n) (hs : sm i) : mm_rs M a (iI i) v = some (mm_set M a (mm_ar t n (va_up f i.toNat (some v)))) := by
  have e1 : ¬ (iI i < 0) := by
    rw [show (0 : Int32) = iI 0 from rfl, iI_lt hs (sm_of (by omega) (by omega))]; omega
  have e2 : ¬ n ≤ i.toNat := by omega
  have e3 : ¬ 5 ≤ t := by omega
  simp [mm_rs, h, iI_nat hs, e1, e2, e3, mm_v, hv]
theorem cp_at {M : mm_M} {a0 a n0 n1 : Nat} {f g : Nat → Int32} (h : M.2 a0 = some (mm_ai n0 f)) (h' : M.2 a = some (mm_ai n1 g)) {sp dp n : Int} (h0 : 0 ≤ sp) (h1 : 0 ≤ dp) (h2 : 0 ≤ n) (h3 : sp + n ≤ n0) (h4 : dp + n ≤ n1) (s1 : sm sp) (s2 : sm dp) (s3 : sm n) : mm_cp M a0 (iI sp) a (iI dp) (iI n) = some (mm_set M a (mm_ai n1 (va_cpy f g sp.toNat dp.toNat n.toNat))) := by
  have z : sm 0 := sm_of (by omega) (by omega)
  have e1 : ¬ (iI sp < 0) := by rw [show (0 : Int32) = iI 0 from rfl, iI_lt s1 z]; omega
  have e2 : ¬ (iI dp < 0) := by rw [show (0 : Int32) = iI 0 from rfl, iI_lt s2 z]; omega
  have e3 : ¬ (iI n < 0) := by rw [show (0 : Int32) = iI 0 from rfl, iI_lt s3 z]; omega
  have e4 : ¬ n0 < sp.toNat + n.toNat := by omega
  have e5 : ¬ n1 < dp.toNat + n.toNat := by omega
  simp [mm_cp, h, h', iI_nat s1, iI_nat s2, iI_nat s3, e1, e2, e3, e4, e5]
theorem set_1 (M : mm_M) (a : Nat) (e : mm_E) : (mm_set M a e).1 = M.1 := rfl
theorem set_eq (M : mm_M) (a : Nat) (e : mm_E) : (mm_set M a e).2 a = some e := by simp [mm_set]
theorem set_ne (M : mm_M) {a q : Nat} (e : mm_E) (h : q ≠ a) : (mm_set M a e).2 q = M.2 q := by simp [mm_set, h]
/-- what is outside [a, a + k) stays -/
def fr (M M' : mm_M) (a k : Nat) : Prop := M'.1 = M.1 ∧ ∀ q, (q < a ∨ a + k ≤ q) → M'.2 q = M.2 q
theorem fr.rfl {M : mm_M} {a k : Nat} : fr M M a k := ⟨Eq.refl _, fun _ _ => Eq.refl _⟩
theorem fr.trans {M M1 M2 : mm_M} {a k : Nat} (h1 : fr M M1 a k) (h2 : fr M1 M2 a k) : fr M M2 a k := ⟨h2.1.trans h1.1, fun q hq => (h2.2 q hq).trans (h1.2 q hq)⟩
theorem fr.mono {M M' : mm_M} {a k b j : Nat} (h : fr M M' a k) (h1 : b ≤ a) (h2 : a + k ≤ b + j) : fr M M' b j := ⟨h.1, fun q hq => h.2 q (by omega)⟩
theorem fr.set {M : mm_M} {a k q : Nat} {e : mm_E} (h : a ≤ q ∧ q < a + k) : fr M (mm_set M q e) a k := ⟨Eq.refl _, fun x hx => set_ne M e (by omega)⟩
