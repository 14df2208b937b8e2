/-! bits -/
theorem iI_bv (k : Nat) : (iI k).toBitVec = BitVec.ofNat 32 k := by
  unfold iI; rw [Int32.toBitVec_ofInt, BitVec.ofInt_natCast]
theorem iI_and {a b : Nat} (ha : a < 4294967296) (hb : b < 4294967296) : iI a &&& iI b = iI ((a &&& b : Nat) : Int) := by
  apply Int32.toBitVec_inj.mp
  rw [Int32.toBitVec_and, iI_bv, iI_bv, iI_bv]
  apply BitVec.eq_of_toNat_eq
  rw [BitVec.toNat_and, BitVec.toNat_ofNat, BitVec.toNat_ofNat, BitVec.toNat_ofNat, Nat.mod_eq_of_lt (show a < 2 ^ 32 from ha), Nat.mod_eq_of_lt (show b < 2 ^ 32 from hb), Nat.mod_eq_of_lt]
  exact Nat.lt_of_le_of_lt Nat.and_le_left ha
theorem iI_or {a b : Nat} (ha : a < 4294967296) (hb : b < 4294967296) : iI a ||| iI b = iI ((a ||| b : Nat) : Int) := by
  apply Int32.toBitVec_inj.mp
  rw [Int32.toBitVec_or, iI_bv, iI_bv, iI_bv]
  apply BitVec.eq_of_toNat_eq
  rw [BitVec.toNat_or, BitVec.toNat_ofNat, BitVec.toNat_ofNat, BitVec.toNat_ofNat, Nat.mod_eq_of_lt (show a < 2 ^ 32 from ha), Nat.mod_eq_of_lt (show b < 2 ^ 32 from hb), Nat.mod_eq_of_lt]
  exact Nat.or_lt_two_pow ha hb
theorem iI_shl {k : Nat} (hk : k < 31) : iI 1 <<< (iI k &&& iI 31) = iI ((2 ^ k : Nat) : Int) := by
  have : ∀ k : Fin 31, iI 1 <<< (iI (k.val : Int) &&& iI 31) = iI ((2 ^ k.val : Nat) : Int) := by decide +kernel
  exact this ⟨k, hk⟩
theorem u32_k {k : Nat} (hk : k < 32) : ((iI k).toUInt32 &&& Int32.toUInt32 31).toNat = k := by
  have : ∀ k : Fin 32, ((iI (k.val : Int)).toUInt32 &&& Int32.toUInt32 31).toNat = k.val := by decide +kernel
  exact this ⟨k, hk⟩
theorem ushr_nat (x : Int32) {k : Nat} (hk : k < 32) : (mm_ushr x (iI k)).toBitVec.toNat = x.toUInt32.toNat >>> k := by
  unfold mm_ushr
  show (x.toUInt32 >>> ((iI k).toUInt32 &&& Int32.toUInt32 31)).toNat = _
  rw [UInt32.toNat_shiftRight, u32_k hk, Nat.mod_eq_of_lt hk]
theorem iI_u32 {a : Nat} (ha : a < 4294967296) : (iI a).toUInt32.toNat = a := by
  show (iI a).toBitVec.toNat = a
  rw [iI_bv, BitVec.toNat_ofNat, Nat.mod_eq_of_lt ha]
theorem iI_ushr {a k : Nat} (ha : a < 4294967296) (hk : k < 32) : mm_ushr (iI a) (iI k) = iI ((a >>> k : Nat) : Int) := by
  apply Int32.toBitVec_inj.mp
  apply BitVec.eq_of_toNat_eq
  rw [ushr_nat _ hk, iI_u32 ha, iI_bv, BitVec.toNat_ofNat, Nat.mod_eq_of_lt]
  rw [Nat.shiftRight_eq_div_pow]
  exact Nat.lt_of_le_of_lt (Nat.div_le_self _ _) ha
theorem sh_k {k : Nat} (hk : k < 32) : ((iI k &&& iI 31).toBitVec.smod 32).toNat = k := by
  have : ∀ k : Fin 32, ((iI (k.val : Int) &&& iI 31).toBitVec.smod 32).toNat = k.val := by decide +kernel
  exact this ⟨k, hk⟩
theorem iI_sar {a k : Nat} (ha : a < 2147483648) (hk : k < 32) : iI a >>> (iI k &&& iI 31) = iI ((a >>> k : Nat) : Int) := by
  apply Int32.toBitVec_inj.mp
  rw [Int32.toBitVec_shiftRight]
  show (iI a).toBitVec.sshiftRight ((iI k &&& iI 31).toBitVec.smod 32).toNat = _
  rw [sh_k hk, BitVec.sshiftRight_eq_of_msb_false]
  · apply BitVec.eq_of_toNat_eq
    rw [BitVec.toNat_ushiftRight, iI_bv, iI_bv, BitVec.toNat_ofNat, BitVec.toNat_ofNat, Nat.mod_eq_of_lt (show a < 2 ^ 32 by omega), Nat.mod_eq_of_lt]
    rw [Nat.shiftRight_eq_div_pow]
    exact Nat.lt_of_le_of_lt (Nat.div_le_self _ _) (by omega)
  · rw [iI_bv, BitVec.msb_eq_decide, BitVec.toNat_ofNat, Nat.mod_eq_of_lt (show a < 2 ^ 32 by omega)]
    exact decide_eq_false (by omega)
/-- a byte of an int -/
def byt (x : Int32) (k : Nat) : Nat := (x.toUInt32.toNat >>> k) % 256
theorem byt_lt (x : Int32) (k : Nat) : byt x k < 256 := Nat.mod_lt _ (by omega)
theorem byt_u (x : Int32) {k : Nat} (hk : k < 32) : mm_ushr x (iI k) &&& iI 255 = iI (byt x k) := by
  apply Int32.toBitVec_inj.mp
  rw [Int32.toBitVec_and]
  apply BitVec.eq_of_toNat_eq
  have bl := byt_lt x k
  have e : (iI 255).toBitVec.toNat = 255 := by decide
  rw [BitVec.toNat_and, ushr_nat x hk, e, iI_bv, BitVec.toNat_ofNat, Nat.mod_eq_of_lt (show byt x k < 2 ^ 32 by omega)]
  exact Nat.and_two_pow_sub_one_eq_mod _ 8
theorem byt_s (x : Int32) {k : Nat} (hk : k ≤ 24) : (x >>> (iI k &&& iI 31)) &&& iI 255 = iI (byt x k) := by
  rw [← byt_u x (show k < 32 by omega)]
  apply Int32.toBitVec_inj.mp
  rw [Int32.toBitVec_and, Int32.toBitVec_and, Int32.toBitVec_shiftRight]
  show x.toBitVec.sshiftRight ((iI k &&& iI 31).toBitVec.smod 32).toNat &&& _ = _
  rw [sh_k (by omega)]
  have e : (mm_ushr x (iI k)).toBitVec = x.toBitVec >>> k := by
    apply BitVec.eq_of_toNat_eq
    rw [ushr_nat x (by omega), BitVec.toNat_ushiftRight]; rfl
  rw [e]
  apply BitVec.eq_of_getLsbD_eq
  intro i hi
  have m : ∀ j : Fin 32, (iI 255).toBitVec.getLsbD j.val = decide (j.val < 8) := by decide +kernel
  rw [BitVec.getLsbD_and, BitVec.getLsbD_and, m ⟨i, hi⟩, BitVec.getLsbD_sshiftRight, BitVec.getLsbD_ushiftRight]
  by_cases c : i < 8
  · have c1 : ¬ 32 ≤ i := by omega
    have c2 : k + i < 32 := by omega
    simp [c, c1, c2]
  · simp [c]
theorem and2 (x y : Nat) {a m : Nat} (ha : a < 256) (hm : m < 256) : (256 * x + a) &&& (256 * y + m) = 256 * (x &&& y) + (a &&& m) := by
  apply Nat.eq_of_testBit_eq
  intro i
  have h1 := Nat.testBit_two_pow_mul_add x (i := 8) ha i
  have h2 := Nat.testBit_two_pow_mul_add y (i := 8) hm i
  have h3 := Nat.testBit_two_pow_mul_add (x &&& y) (i := 8) (b := a &&& m) (Nat.lt_of_le_of_lt Nat.and_le_left ha) i
  rw [Nat.testBit_and]
  rw [show (256 : Nat) = 2 ^ 8 from rfl, h1, h2, h3]
  split <;> rw [Nat.testBit_and]
theorem and4 {a b c d m : Nat} (ha : a < 256) (hb : b < 256) (hc : c < 256) (hm : m < 256) : (a + 256 * b + 65536 * c + 16777216 * d) &&& (m * 16843009) = (a &&& m) + 256 * (b &&& m) + 65536 * (c &&& m) + 16777216 * (d &&& m) := by
  have e1 : a + 256 * b + 65536 * c + 16777216 * d = 256 * (256 * (256 * d + c) + b) + a := by omega
  have e2 : m * 16843009 = 256 * (256 * (256 * m + m) + m) + m := by omega
  rw [e1, e2, and2 _ _ ha hm, and2 _ _ hb hm, and2 _ _ hc hm]; omega
def bU (a : Nat) : Nat := a - (a / 2 &&& 85)
def bV (a : Nat) : Nat := (bU a &&& 51) + (bU a / 4 &&& 51)
def pcb (a : Nat) : Nat := a % 2 + a / 2 % 2 + a / 4 % 2 + a / 8 % 2 + a / 16 % 2 + a / 32 % 2 + a / 64 % 2 + a / 128 % 2
theorem bF1 {a e : Nat} (ha : a < 256) (he : e < 2) : (a / 2 + 128 * e) &&& 85 = a / 2 &&& 85 := by
  have : ∀ (a : Fin 256) (e : Fin 2), (a.val / 2 + 128 * e.val) &&& 85 = a.val / 2 &&& 85 := by decide +kernel
  exact this ⟨a, ha⟩ ⟨e, he⟩
theorem bF1b {a : Nat} (ha : a < 256) : (a / 2 &&& 85) ≤ a ∧ bU a < 256 := by
  have : ∀ (a : Fin 256), (a.val / 2 &&& 85) ≤ a.val ∧ bU a.val < 256 := by decide +kernel
  exact this ⟨a, ha⟩
theorem bF2 {a e : Nat} (ha : a < 256) (he : e < 4) : (bU a / 4 + 64 * e) &&& 51 = bU a / 4 &&& 51 := by
  have : ∀ (a : Fin 256) (e : Fin 4), (bU a.val / 4 + 64 * e.val) &&& 51 = bU a.val / 4 &&& 51 := by decide +kernel
  exact this ⟨a, ha⟩ ⟨e, he⟩
theorem bF3 {a : Nat} (ha : a < 256) : bV a % 16 ≤ 4 ∧ bV a / 16 ≤ 4 ∧ bV a % 16 + bV a / 16 = pcb a := by
  have : ∀ (a : Fin 256), bV a.val % 16 ≤ 4 ∧ bV a.val / 16 ≤ 4 ∧ bV a.val % 16 + bV a.val / 16 = pcb a.val := by decide +kernel
  exact this ⟨a, ha⟩
def sw1 (N : Nat) : Nat := N - (N >>> 1 &&& 1431655765)
def sw2 (N : Nat) : Nat := (N &&& 858993459) + (N >>> 2 &&& 858993459)
def sw3 (N : Nat) : Nat := (N + N >>> 4) &&& 252645135
theorem sw1_4 {a b c d : Nat} (ha : a < 256) (hb : b < 256) (hc : c < 256) (hd : d < 256) : sw1 (a + 256 * b + 65536 * c + 16777216 * d) = bU a + 256 * bU b + 65536 * bU c + 16777216 * bU d := by
  unfold sw1
  have e : (a + 256 * b + 65536 * c + 16777216 * d) >>> 1 = (a / 2 + 128 * (b % 2)) + 256 * (b / 2 + 128 * (c % 2)) + 65536 * (c / 2 + 128 * (d % 2)) + 16777216 * (d / 2) := by
    rw [Nat.shiftRight_eq_div_pow]; omega
  rw [e, show (1431655765 : Nat) = 85 * 16843009 from rfl, and4 (by omega) (by omega) (by omega) (by omega), bF1 ha (by omega), bF1 hb (by omega), bF1 hc (by omega)]
  have := bF1b ha
  have := bF1b hb
  have := bF1b hc
  have := bF1b hd
  unfold bU
  omega
theorem sw2_4 {a b c d : Nat} (ha : a < 256) (hb : b < 256) (hc : c < 256) (hd : d < 256) : sw2 (bU a + 256 * bU b + 65536 * bU c + 16777216 * bU d) = bV a + 256 * bV b + 65536 * bV c + 16777216 * bV d := by
  unfold sw2
  have h1 := (bF1b ha).2
  have h2 := (bF1b hb).2
  have h3 := (bF1b hc).2
  have h4 := (bF1b hd).2
  have e : (bU a + 256 * bU b + 65536 * bU c + 16777216 * bU d) >>> 2 = (bU a / 4 + 64 * (bU b % 4)) + 256 * (bU b / 4 + 64 * (bU c % 4)) + 65536 * (bU c / 4 + 64 * (bU d % 4)) + 16777216 * (bU d / 4) := by
    rw [Nat.shiftRight_eq_div_pow]; omega
  rw [e, show (858993459 : Nat) = 51 * 16843009 from rfl, and4 h1 h2 h3 (by omega), and4 (by omega) (by omega) (by omega) (by omega), bF2 ha (by omega), bF2 hb (by omega), bF2 hc (by omega)]
  unfold bV
  omega
theorem and15 (s : Nat) : s &&& 15 = s % 16 := Nat.and_two_pow_sub_one_eq_mod s 4
theorem sw3_4 {a b c d : Nat} (ha : a < 256) (hb : b < 256) (hc : c < 256) (hd : d < 256) : sw3 (bV a + 256 * bV b + 65536 * bV c + 16777216 * bV d) = pcb a + 256 * pcb b + 65536 * pcb c + 16777216 * pcb d := by
  unfold sw3
  have h1 := bF3 ha
  have h2 := bF3 hb
  have h3 := bF3 hc
  have h4 := bF3 hd
  generalize bV a = A at *
  generalize bV b = B at *
  generalize bV c = C at *
  generalize bV d = D at *
  have e : (A + 256 * B + 65536 * C + 16777216 * D) + (A + 256 * B + 65536 * C + 16777216 * D) >>> 4 = (A + (A / 16 + 16 * (B % 16))) + 256 * (B + (B / 16 + 16 * (C % 16))) + 65536 * (C + (C / 16 + 16 * (D % 16))) + 16777216 * (D + D / 16) := by
    rw [Nat.shiftRight_eq_div_pow]; omega
  rw [e, show (252645135 : Nat) = 15 * 16843009 from rfl, and4 (by omega) (by omega) (by omega) (by omega), and15, and15, and15, and15]
  have q1 : (A + (A / 16 + 16 * (B % 16))) % 16 = pcb a := by omega
  have q2 : (B + (B / 16 + 16 * (C % 16))) % 16 = pcb b := by omega
  have q3 : (C + (C / 16 + 16 * (D % 16))) % 16 = pcb c := by omega
  have q4 : (D + D / 16) % 16 = pcb d := by omega
  rw [q1, q2, q3, q4]
def swar (N : Nat) : Nat := (sw3 (sw2 (sw1 N)) + sw3 (sw2 (sw1 N)) >>> 8 + (sw3 (sw2 (sw1 N)) + sw3 (sw2 (sw1 N)) >>> 8) >>> 16) &&& 63
theorem pcb_le (a : Nat) : pcb a ≤ 8 := by unfold pcb; omega
theorem swar_4 {a b c d : Nat} (ha : a < 256) (hb : b < 256) (hc : c < 256) (hd : d < 256) : swar (a + 256 * b + 65536 * c + 16777216 * d) = pcb a + pcb b + pcb c + pcb d := by
  unfold swar
  rw [sw1_4 ha hb hc hd, sw2_4 ha hb hc hd, sw3_4 ha hb hc hd]
  have h1 := pcb_le a
  have h2 := pcb_le b
  have h3 := pcb_le c
  have h4 := pcb_le d
  have m63 : ∀ s : Nat, s &&& 63 = s % 64 := fun s => Nat.and_two_pow_sub_one_eq_mod s 6
  have e1 : (pcb a + 256 * pcb b + 65536 * pcb c + 16777216 * pcb d) >>> 8 = pcb b + 256 * pcb c + 65536 * pcb d := by rw [Nat.shiftRight_eq_div_pow]; omega
  have e2 : (pcb a + 256 * pcb b + 65536 * pcb c + 16777216 * pcb d + (pcb b + 256 * pcb c + 65536 * pcb d)) >>> 16 = pcb c + pcb d + 256 * pcb d := by rw [Nat.shiftRight_eq_div_pow]; omega
  rw [m63, e1, e2]
  omega
def pcS (N : Nat) : Nat → Nat
  | 0 => 0
  | s + 1 => pcS N s + (N >>> s) % 2
set_option maxHeartbeats 4000000 in
theorem pcS_27 {a b c d : Nat} (ha : a < 256) (hb : b < 256) (hc : c < 256) (hd : d < 8) : pcS (a + 256 * b + 65536 * c + 16777216 * d) 27 = pcb a + pcb b + pcb c + pcb d := by
  have e1 : (a + 256 * b + 65536 * c + 16777216 * d) / 256 = b + 256 * (c + 256 * d) := by omega
  have e2 : (a + 256 * b + 65536 * c + 16777216 * d) / 65536 = c + 256 * d := by omega
  have e3 : (a + 256 * b + 65536 * c + 16777216 * d) / 16777216 = d := by omega
  have h0 : (a + 256 * b + 65536 * c + 16777216 * d) >>> 0 % 2 = a / 1 % 2 := by rw [Nat.shiftRight_eq_div_pow, show a + 256 * b + 65536 * c + 16777216 * d = a + 256 * (b + 256 * (c + 256 * d)) by omega]; omega
  have h1 : (a + 256 * b + 65536 * c + 16777216 * d) >>> 1 % 2 = a / 2 % 2 := by rw [Nat.shiftRight_eq_div_pow, show a + 256 * b + 65536 * c + 16777216 * d = a + 256 * (b + 256 * (c + 256 * d)) by omega]; omega
  have h2 : (a + 256 * b + 65536 * c + 16777216 * d) >>> 2 % 2 = a / 4 % 2 := by rw [Nat.shiftRight_eq_div_pow, show a + 256 * b + 65536 * c + 16777216 * d = a + 256 * (b + 256 * (c + 256 * d)) by omega]; omega
  have h3 : (a + 256 * b + 65536 * c + 16777216 * d) >>> 3 % 2 = a / 8 % 2 := by rw [Nat.shiftRight_eq_div_pow, show a + 256 * b + 65536 * c + 16777216 * d = a + 256 * (b + 256 * (c + 256 * d)) by omega]; omega
  have h4 : (a + 256 * b + 65536 * c + 16777216 * d) >>> 4 % 2 = a / 16 % 2 := by rw [Nat.shiftRight_eq_div_pow, show a + 256 * b + 65536 * c + 16777216 * d = a + 256 * (b + 256 * (c + 256 * d)) by omega]; omega
  have h5 : (a + 256 * b + 65536 * c + 16777216 * d) >>> 5 % 2 = a / 32 % 2 := by rw [Nat.shiftRight_eq_div_pow, show a + 256 * b + 65536 * c + 16777216 * d = a + 256 * (b + 256 * (c + 256 * d)) by omega]; omega
  have h6 : (a + 256 * b + 65536 * c + 16777216 * d) >>> 6 % 2 = a / 64 % 2 := by rw [Nat.shiftRight_eq_div_pow, show a + 256 * b + 65536 * c + 16777216 * d = a + 256 * (b + 256 * (c + 256 * d)) by omega]; omega
  have h7 : (a + 256 * b + 65536 * c + 16777216 * d) >>> 7 % 2 = a / 128 % 2 := by rw [Nat.shiftRight_eq_div_pow, show a + 256 * b + 65536 * c + 16777216 * d = a + 256 * (b + 256 * (c + 256 * d)) by omega]; omega
  have h8 : (a + 256 * b + 65536 * c + 16777216 * d) >>> 8 % 2 = b / 1 % 2 := by rw [Nat.shiftRight_eq_div_pow, show (2 : Nat) ^ 8 = 256 * 1 from rfl, ← Nat.div_div_eq_div_mul, e1]; omega
  have h9 : (a + 256 * b + 65536 * c + 16777216 * d) >>> 9 % 2 = b / 2 % 2 := by rw [Nat.shiftRight_eq_div_pow, show (2 : Nat) ^ 9 = 256 * 2 from rfl, ← Nat.div_div_eq_div_mul, e1]; omega
  have h10 : (a + 256 * b + 65536 * c + 16777216 * d) >>> 10 % 2 = b / 4 % 2 := by rw [Nat.shiftRight_eq_div_pow, show (2 : Nat) ^ 10 = 256 * 4 from rfl, ← Nat.div_div_eq_div_mul, e1]; omega
  have h11 : (a + 256 * b + 65536 * c + 16777216 * d) >>> 11 % 2 = b / 8 % 2 := by rw [Nat.shiftRight_eq_div_pow, show (2 : Nat) ^ 11 = 256 * 8 from rfl, ← Nat.div_div_eq_div_mul, e1]; omega
  have h12 : (a + 256 * b + 65536 * c + 16777216 * d) >>> 12 % 2 = b / 16 % 2 := by rw [Nat.shiftRight_eq_div_pow, show (2 : Nat) ^ 12 = 256 * 16 from rfl, ← Nat.div_div_eq_div_mul, e1]; omega
  have h13 : (a + 256 * b + 65536 * c + 16777216 * d) >>> 13 % 2 = b / 32 % 2 := by rw [Nat.shiftRight_eq_div_pow, show (2 : Nat) ^ 13 = 256 * 32 from rfl, ← Nat.div_div_eq_div_mul, e1]; omega
  have h14 : (a + 256 * b + 65536 * c + 16777216 * d) >>> 14 % 2 = b / 64 % 2 := by rw [Nat.shiftRight_eq_div_pow, show (2 : Nat) ^ 14 = 256 * 64 from rfl, ← Nat.div_div_eq_div_mul, e1]; omega
  have h15 : (a + 256 * b + 65536 * c + 16777216 * d) >>> 15 % 2 = b / 128 % 2 := by rw [Nat.shiftRight_eq_div_pow, show (2 : Nat) ^ 15 = 256 * 128 from rfl, ← Nat.div_div_eq_div_mul, e1]; omega
  have h16 : (a + 256 * b + 65536 * c + 16777216 * d) >>> 16 % 2 = c / 1 % 2 := by rw [Nat.shiftRight_eq_div_pow, show (2 : Nat) ^ 16 = 65536 * 1 from rfl, ← Nat.div_div_eq_div_mul, e2]; omega
  have h17 : (a + 256 * b + 65536 * c + 16777216 * d) >>> 17 % 2 = c / 2 % 2 := by rw [Nat.shiftRight_eq_div_pow, show (2 : Nat) ^ 17 = 65536 * 2 from rfl, ← Nat.div_div_eq_div_mul, e2]; omega
  have h18 : (a + 256 * b + 65536 * c + 16777216 * d) >>> 18 % 2 = c / 4 % 2 := by rw [Nat.shiftRight_eq_div_pow, show (2 : Nat) ^ 18 = 65536 * 4 from rfl, ← Nat.div_div_eq_div_mul, e2]; omega
  have h19 : (a + 256 * b + 65536 * c + 16777216 * d) >>> 19 % 2 = c / 8 % 2 := by rw [Nat.shiftRight_eq_div_pow, show (2 : Nat) ^ 19 = 65536 * 8 from rfl, ← Nat.div_div_eq_div_mul, e2]; omega
  have h20 : (a + 256 * b + 65536 * c + 16777216 * d) >>> 20 % 2 = c / 16 % 2 := by rw [Nat.shiftRight_eq_div_pow, show (2 : Nat) ^ 20 = 65536 * 16 from rfl, ← Nat.div_div_eq_div_mul, e2]; omega
  have h21 : (a + 256 * b + 65536 * c + 16777216 * d) >>> 21 % 2 = c / 32 % 2 := by rw [Nat.shiftRight_eq_div_pow, show (2 : Nat) ^ 21 = 65536 * 32 from rfl, ← Nat.div_div_eq_div_mul, e2]; omega
  have h22 : (a + 256 * b + 65536 * c + 16777216 * d) >>> 22 % 2 = c / 64 % 2 := by rw [Nat.shiftRight_eq_div_pow, show (2 : Nat) ^ 22 = 65536 * 64 from rfl, ← Nat.div_div_eq_div_mul, e2]; omega
  have h23 : (a + 256 * b + 65536 * c + 16777216 * d) >>> 23 % 2 = c / 128 % 2 := by rw [Nat.shiftRight_eq_div_pow, show (2 : Nat) ^ 23 = 65536 * 128 from rfl, ← Nat.div_div_eq_div_mul, e2]; omega
  have h24 : (a + 256 * b + 65536 * c + 16777216 * d) >>> 24 % 2 = d / 1 % 2 := by rw [Nat.shiftRight_eq_div_pow, show (2 : Nat) ^ 24 = 16777216 * 1 from rfl, ← Nat.div_div_eq_div_mul, e3]
  have h25 : (a + 256 * b + 65536 * c + 16777216 * d) >>> 25 % 2 = d / 2 % 2 := by rw [Nat.shiftRight_eq_div_pow, show (2 : Nat) ^ 25 = 16777216 * 2 from rfl, ← Nat.div_div_eq_div_mul, e3]
  have h26 : (a + 256 * b + 65536 * c + 16777216 * d) >>> 26 % 2 = d / 4 % 2 := by rw [Nat.shiftRight_eq_div_pow, show (2 : Nat) ^ 26 = 16777216 * 4 from rfl, ← Nat.div_div_eq_div_mul, e3]
  simp only [pcS, h0, h1, h2, h3, h4, h5, h6, h7, h8, h9, h10, h11, h12, h13, h14, h15, h16, h17, h18, h19, h20, h21, h22, h23, h24, h25, h26]
  unfold pcb
  omega
theorem bytes4 {N : Nat} (h : N < 134217728) : N = N % 256 + 256 * (N / 256 % 256) + 65536 * (N / 65536 % 256) + 16777216 * (N / 16777216) ∧ N / 16777216 < 8 := by omega
theorem swar_pc {N : Nat} (h : N < 134217728) : swar N = pcS N 27 := by
  obtain ⟨e, l⟩ := bytes4 h
  have h1 : N % 256 < 256 := by omega
  have h2 : N / 256 % 256 < 256 := by omega
  have h3 : N / 65536 % 256 < 256 := by omega
  generalize N % 256 = a at *
  generalize N / 256 % 256 = b at *
  generalize N / 65536 % 256 = c at *
  generalize N / 16777216 = d at *
  rw [e, swar_4 h1 h2 h3 (by omega), pcS_27 h1 h2 h3 l]
theorem sw_le {N : Nat} : (N >>> 1 &&& 1431655765) ≤ N := Nat.le_trans Nat.and_le_left (by rw [Nat.shiftRight_eq_div_pow]; exact Nat.div_le_self _ _)
theorem bitCount_ok {n : Nat} {M : mm_M} {N : Nat} (h : N < 134217728) : pJ_bitCount n M (iI N) = some (iI (pcS N 27), M) := by
  rw [← swar_pc h]
  have L1a : (1431655765 : Int32) = iI ((1431655765 : Nat) : Int) := by decide
  have L2a : (858993459 : Int32) = iI ((858993459 : Nat) : Int) := by decide
  have L3a : (252645135 : Int32) = iI ((252645135 : Nat) : Int) := by decide
  have L63a : (63 : Int32) = iI ((63 : Nat) : Int) := by decide
  have k1 : (1 : Int32) = iI ((1 : Nat) : Int) := by decide
  have k2 : (2 : Int32) = iI ((2 : Nat) : Int) := by decide
  have k4 : (4 : Int32) = iI ((4 : Nat) : Int) := by decide
  have k8 : (8 : Int32) = iI ((8 : Nat) : Int) := by decide
  have k16 : (16 : Int32) = iI ((16 : Nat) : Int) := by decide
  have d1 : ∀ a k : Nat, a >>> k ≤ a := fun a k => by rw [Nat.shiftRight_eq_div_pow]; exact Nat.div_le_self _ _
  have a1 := sw_le (N := N)
  have e1 : iI N - (mm_ushr (iI N) (iI ((1 : Nat) : Int)) &&& iI ((1431655765 : Nat) : Int)) = iI (sw1 N) := by
    rw [iI_ushr (by omega) (by omega), iI_and (by have := d1 N 1; omega) (by omega), iI_sub]
    congr 1
    unfold sw1; omega
  have b1 : sw1 N < 134217728 := by unfold sw1; omega
  have e2 : (iI (sw1 N) &&& iI ((858993459 : Nat) : Int)) + (mm_ushr (iI (sw1 N)) (iI ((2 : Nat) : Int)) &&& iI ((858993459 : Nat) : Int)) = iI (sw2 (sw1 N)) := by
    rw [iI_ushr (by omega) (by omega), iI_and (by omega) (by omega), iI_and (by have := d1 (sw1 N) 2; omega) (by omega), iI_add]
    congr 1
  have b2 : sw2 (sw1 N) < 300000000 := by
    unfold sw2
    have q1 : (sw1 N &&& 858993459) ≤ sw1 N := Nat.and_le_left
    have q2 : (sw1 N >>> 2 &&& 858993459) ≤ sw1 N := Nat.le_trans Nat.and_le_left (d1 _ _)
    omega
  have e3 : (iI (sw2 (sw1 N)) + mm_ushr (iI (sw2 (sw1 N))) (iI ((4 : Nat) : Int))) &&& iI ((252645135 : Nat) : Int) = iI (sw3 (sw2 (sw1 N))) := by
    have := d1 (sw2 (sw1 N)) 4
    rw [iI_ushr (by omega) (by omega), iI_add, show ((sw2 (sw1 N) : Nat) : Int) + ((sw2 (sw1 N) >>> 4 : Nat) : Int) = ((sw2 (sw1 N) + sw2 (sw1 N) >>> 4 : Nat) : Int) by omega, iI_and (by omega) (by omega)]
    rfl
  have b3 : sw3 (sw2 (sw1 N)) < 600000000 := by
    unfold sw3
    have q1 : (sw2 (sw1 N) + sw2 (sw1 N) >>> 4 &&& 252645135) ≤ sw2 (sw1 N) + sw2 (sw1 N) >>> 4 := Nat.and_le_left
    have := d1 (sw2 (sw1 N)) 4
    omega
  have e4 : iI (sw3 (sw2 (sw1 N))) + mm_ushr (iI (sw3 (sw2 (sw1 N)))) (iI ((8 : Nat) : Int)) = iI ((sw3 (sw2 (sw1 N)) + sw3 (sw2 (sw1 N)) >>> 8 : Nat) : Int) := by
    rw [iI_ushr (by omega) (by omega), iI_add]
    congr 1
  have b4 : sw3 (sw2 (sw1 N)) + sw3 (sw2 (sw1 N)) >>> 8 < 1200000000 := by have := d1 (sw3 (sw2 (sw1 N))) 8; omega
  simp only [pJ_bitCount, L1a, L2a, L3a, L63a, k1, k2, k4, k8, k16, e1, e2, e3, e4]
  unfold swar
  generalize sw3 (sw2 (sw1 N)) + sw3 (sw2 (sw1 N)) >>> 8 = Q at *
  have := d1 Q 16
  rw [iI_ushr (by omega) (by omega), iI_add, show ((Q : Int) + ((Q >>> 16 : Nat) : Int)) = ((Q + Q >>> 16 : Nat) : Int) by omega, iI_and (by omega) (by omega)]
