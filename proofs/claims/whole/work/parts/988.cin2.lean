/-! the class: the two big constructors -/
theorem row9 {M : mm_M} {ax e : Nat} {fs : List Value} (ci k : Nat) (E : mm_E) (h1 : M.1 = e) (he : ax < e) (h2 : M.2 ax = some (mm_ob ci fs)) (hk : k < fs.length) : ∃ A D, (∀ f : Nat → mm_M → Option mm_M, mm_nw M E f = f e A) ∧ mm_pr ci k A ax e = some D ∧ D.1 = e + 1 ∧ D.2 ax = some (mm_ob ci (fs.set k (.ref e))) ∧ D.2 e = some E ∧ ∀ q, q ≠ ax → (q < e ∨ e + 1 ≤ q) → D.2 q = M.2 q := by
  obtain ⟨A, ea, sa, g⟩ := nw_at h1 E
  obtain ⟨D, ec, ob, f⟩ := pr_ex (g.at h2 (by omega)) k e hk
  exact ⟨A, D, ea, ec, f.1.trans g.1, ob, f.at sa (by omega), fun q hq hr => (f.2 q (by omega)).trans (g.2 q (by omega))⟩
theorem ini9 {M : mm_M} {ax e e' : Nat} {fs : List Value} {V : mm_M → Prop} {I : mm_M → Option mm_M} (ci k : Nat) (E : mm_E) (h1 : M.1 = e) (he : ax < e) (h2 : M.2 ax = some (mm_ob ci fs)) (hk : k < fs.length) (hee : e + 1 ≤ e') (hi : ∀ A : mm_M, A.1 = e + 1 → A.2 e = some E → ∃ B, I A = some B ∧ V B ∧ ga A B e e') (hV : ∀ B D : mm_M, V B → fr B D ax 1 → V D) : ∃ A B D, (∀ f : Nat → mm_M → Option mm_M, mm_nw M E f = f e A) ∧ I A = some B ∧ mm_pr ci k B ax e = some D ∧ D.1 = e' ∧ D.2 ax = some (mm_ob ci (fs.set k (.ref e))) ∧ V D ∧ ∀ q, q ≠ ax → (q < e ∨ e' ≤ q) → D.2 q = M.2 q := by
  obtain ⟨A, ea, sa, g⟩ := nw_at h1 E
  obtain ⟨B, eb, vb, g2⟩ := hi A g.1 sa
  obtain ⟨D, ec, ob, f⟩ := pr_ex (g2.at (g.at h2 (by omega)) (by omega)) k e hk
  exact ⟨A, B, D, ea, eb, ec, f.1.trans g2.1, ob, hV B D vb f, fun q hq hr => (f.2 q (by omega)).trans ((g2.2 q (by omega)).trans (g.2 q (by omega)))⟩
/-- outside ax and [e, E) the same -/
def fx (D F : mm_M) (ax e E : Nat) : Prop := ∀ q, q ≠ ax → (q < e ∨ E ≤ q) → F.2 q = D.2 q
theorem fx_rfl (D : mm_M) (ax e E : Nat) : fx D D ax e E := fun _ _ _ => rfl
theorem fx_step {D D1 F : mm_M} {ax e e1 E : Nat} (h : fx D1 F ax e1 E) (w : ∀ q, q ≠ ax → (q < e ∨ e1 ≤ q) → D1.2 q = D.2 q) (h1 : e ≤ e1) (h2 : e1 ≤ E) : fx D F ax e E := fun q a b => (h q a (by omega)).trans (w q a (by omega))
theorem fx_out {D F : mm_M} {ax e E : Nat} (h : fx D F ax e E) (h1 : ax < e) (h2 : ax < E) : ∀ q, (q < ax ∨ E ≤ q) → F.2 q = D.2 q := fun q a => h q (by omega) (by omega)
theorem fx_at {D F : mm_M} {ax e E q : Nat} {x : Option mm_E} (h : fx D F ax e E) (v : D.2 q = x) (h1 : q ≠ ax) (h2 : q < e) : F.2 q = x := (h q h1 (Or.inl h2)).trans v
/-- what was made at an address stays while only ax and what lies behind changes -/
theorem tr9 {ax e E : Nat} {D F : mm_M} (V : mm_M → Prop) (hD : V D) (h1 : ∀ A B : mm_M, V A → fr A B ax 1 → V B) (h2 : ∀ A B : mm_M, V A → fr A B e (E - e) → V B) (hF : fx D F ax e E) : V (D.1, F.2) := by
  have f2 : fr2 D (D.1, F.2) ax 1 e (E - e) := ⟨rfl, fun q x y => hF q (by omega) (by omega)⟩
  obtain ⟨m, fa, fb⟩ := f2.split
  exact h2 _ _ (h1 _ _ hD fa) fb
theorem i9a {n : Nat} {M : mm_M} {ax : Nat} (h1 : M.1 = ax + 1) (h2 : M.2 ax = some (mm_ob 9 [.null, .null, .null, .null, .int (iI 0), .null, .int (iI 0), .int (iI 0), .null, .null, .null, .null, .null, .int (iI 0), .null, .null, .null, .long 0])) : ∃ D, pX9_init n M ax = pX9_init_l144 n 41 D ax (iI 0) ∧ CO D ax false 0 0 0 0 ∧ D.1 = ax + 205 ∧ (∀ q, (q < ax ∨ ax + 205 ≤ q) → D.2 q = M.2 q) ∧ TpR D (ax + 1) [] ∧ St D (ax + 3) 0 kT0 ∧ St D (ax + 65) 0 kT0 ∧ D.2 (ax + 127) = some (mm_ar 2 40 (fun _ => none)) ∧ Sg D (ax + 128) [] ∧ Sg D (ax + 130) [] ∧ Sg D (ax + 132) [] ∧ Sp D (ax + 134) (iI 0) (iI 0) (iI 0) [] ∧ D.2 (ax + 137) = some (mm_ar 4 5 (fun _ => none)) ∧ D.2 (ax + 138) = some (mm_ai 4 (fun _ => iI 0)) ∧ St D (ax + 139) 0 kT0 ∧ Rk D (ax + 201) (ax + 139) [] false ∧ Rk D (ax + 203) (ax + 139) [] false := by
  obtain ⟨A0, B0, D0, ea0, eb0, ec0, n0, ob0, v0, w0⟩ := ini9 (ax := ax) (e := ax + 1) (e' := ax + 3) (V := fun M => TpR M (ax + 1) []) (I := fun A => pX8_init n A (ax + 1)) 9 0 (mm_ob 8 [.null, .int (iI 0), .int (iI 0)]) h1 (by omega) h2 (Nat.le_of_ble_eq_true rfl) (by omega) (fun A a b => i8 (n := n) a b) (fun B D x f => x.fr f (by omega))
  have eb0 : pX8_init n A0 (ax + 1) = some B0 := eb0
  have n0 : D0.1 = ax + 3 := n0
  have ob0 : D0.2 ax = some (mm_ob 9 [.ref (ax + 1), .null, .null, .null, .int (iI 0), .null, .int (iI 0), .int (iI 0), .null, .null, .null, .null, .null, .int (iI 0), .null, .null, .null, .long 0]) := ob0
  obtain ⟨A1, B1, D1, ea1, eb1, ec1, n1, ob1, v1, w1⟩ := ini9 (ax := ax) (e := ax + 3) (e' := ax + 65) (V := fun M => St M (ax + 3) 0 kT0) (I := fun A => pX6_init n A (ax + 3)) 9 2 (mm_ob 6 [.null, .int (iI 0), .int (iI 0), .null, .null, .null]) n0 (by omega) ob0 (Nat.le_of_ble_eq_true rfl) (by omega) (fun A a b => i6 (n := n) a b) (fun B D x f => x.fr f (by omega))
  have eb1 : pX6_init n A1 (ax + 3) = some B1 := eb1
  have n1 : D1.1 = ax + 65 := n1
  have ob1 : D1.2 ax = some (mm_ob 9 [.ref (ax + 1), .null, .ref (ax + 3), .null, .int (iI 0), .null, .int (iI 0), .int (iI 0), .null, .null, .null, .null, .null, .int (iI 0), .null, .null, .null, .long 0]) := ob1
  obtain ⟨A2, B2, D2, ea2, eb2, ec2, n2, ob2, v2, w2⟩ := ini9 (ax := ax) (e := ax + 65) (e' := ax + 127) (V := fun M => St M (ax + 65) 0 kT0) (I := fun A => pX6_init n A (ax + 65)) 9 3 (mm_ob 6 [.null, .int (iI 0), .int (iI 0), .null, .null, .null]) n1 (by omega) ob1 (Nat.le_of_ble_eq_true rfl) (by omega) (fun A a b => i6 (n := n) a b) (fun B D x f => x.fr f (by omega))
  have eb2 : pX6_init n A2 (ax + 65) = some B2 := eb2
  have n2 : D2.1 = ax + 127 := n2
  have ob2 : D2.2 ax = some (mm_ob 9 [.ref (ax + 1), .null, .ref (ax + 3), .ref (ax + 65), .int (iI 0), .null, .int (iI 0), .int (iI 0), .null, .null, .null, .null, .null, .int (iI 0), .null, .null, .null, .long 0]) := ob2
  obtain ⟨A3, D3, ea3, ec3, n3, ob3, v3, w3⟩ := row9 (ax := ax) (e := ax + 127) 9 5 (mm_ar 2 40 (fun _ => none)) n2 (by omega) ob2 (Nat.le_of_ble_eq_true rfl)
  have n3 : D3.1 = ax + 128 := n3
  have ob3 : D3.2 ax = some (mm_ob 9 [.ref (ax + 1), .null, .ref (ax + 3), .ref (ax + 65), .int (iI 0), .ref (ax + 127), .int (iI 0), .int (iI 0), .null, .null, .null, .null, .null, .int (iI 0), .null, .null, .null, .long 0]) := ob3
  obtain ⟨A4, B4, D4, ea4, eb4, ec4, n4, ob4, v4, w4⟩ := ini9 (ax := ax) (e := ax + 128) (e' := ax + 130) (V := fun M => Sg M (ax + 128) []) (I := fun A => pX5_init n A (ax + 128)) 9 8 (mm_ob 5 [.null, .int (iI 0)]) n3 (by omega) ob3 (Nat.le_of_ble_eq_true rfl) (by omega) (fun A a b => i5 (n := n) a b) (fun B D x f => x.fr f (by omega))
  have eb4 : pX5_init n A4 (ax + 128) = some B4 := eb4
  have n4 : D4.1 = ax + 130 := n4
  have ob4 : D4.2 ax = some (mm_ob 9 [.ref (ax + 1), .null, .ref (ax + 3), .ref (ax + 65), .int (iI 0), .ref (ax + 127), .int (iI 0), .int (iI 0), .ref (ax + 128), .null, .null, .null, .null, .int (iI 0), .null, .null, .null, .long 0]) := ob4
  obtain ⟨A5, B5, D5, ea5, eb5, ec5, n5, ob5, v5, w5⟩ := ini9 (ax := ax) (e := ax + 130) (e' := ax + 132) (V := fun M => Sg M (ax + 130) []) (I := fun A => pX5_init n A (ax + 130)) 9 9 (mm_ob 5 [.null, .int (iI 0)]) n4 (by omega) ob4 (Nat.le_of_ble_eq_true rfl) (by omega) (fun A a b => i5 (n := n) a b) (fun B D x f => x.fr f (by omega))
  have eb5 : pX5_init n A5 (ax + 130) = some B5 := eb5
  have n5 : D5.1 = ax + 132 := n5
  have ob5 : D5.2 ax = some (mm_ob 9 [.ref (ax + 1), .null, .ref (ax + 3), .ref (ax + 65), .int (iI 0), .ref (ax + 127), .int (iI 0), .int (iI 0), .ref (ax + 128), .ref (ax + 130), .null, .null, .null, .int (iI 0), .null, .null, .null, .long 0]) := ob5
  obtain ⟨A6, B6, D6, ea6, eb6, ec6, n6, ob6, v6, w6⟩ := ini9 (ax := ax) (e := ax + 132) (e' := ax + 134) (V := fun M => Sg M (ax + 132) []) (I := fun A => pX5_init n A (ax + 132)) 9 10 (mm_ob 5 [.null, .int (iI 0)]) n5 (by omega) ob5 (Nat.le_of_ble_eq_true rfl) (by omega) (fun A a b => i5 (n := n) a b) (fun B D x f => x.fr f (by omega))
  have eb6 : pX5_init n A6 (ax + 132) = some B6 := eb6
  have n6 : D6.1 = ax + 134 := n6
  have ob6 : D6.2 ax = some (mm_ob 9 [.ref (ax + 1), .null, .ref (ax + 3), .ref (ax + 65), .int (iI 0), .ref (ax + 127), .int (iI 0), .int (iI 0), .ref (ax + 128), .ref (ax + 130), .ref (ax + 132), .null, .null, .int (iI 0), .null, .null, .null, .long 0]) := ob6
  obtain ⟨A7, B7, D7, ea7, eb7, ec7, n7, ob7, v7, w7⟩ := ini9 (ax := ax) (e := ax + 134) (e' := ax + 137) (V := fun M => Sp M (ax + 134) (iI 0) (iI 0) (iI 0) []) (I := fun A => pX7_init n A (ax + 134)) 9 11 (mm_ob 7 [.int (iI 0), .int (iI 0), .int (iI 0), .null]) n6 (by omega) ob6 (Nat.le_of_ble_eq_true rfl) (by omega) (fun A a b => i7 (n := n) a b) (fun B D x f => x.fr f (by omega))
  have eb7 : pX7_init n A7 (ax + 134) = some B7 := eb7
  have n7 : D7.1 = ax + 137 := n7
  have ob7 : D7.2 ax = some (mm_ob 9 [.ref (ax + 1), .null, .ref (ax + 3), .ref (ax + 65), .int (iI 0), .ref (ax + 127), .int (iI 0), .int (iI 0), .ref (ax + 128), .ref (ax + 130), .ref (ax + 132), .ref (ax + 134), .null, .int (iI 0), .null, .null, .null, .long 0]) := ob7
  obtain ⟨A8, D8, ea8, ec8, n8, ob8, v8, w8⟩ := row9 (ax := ax) (e := ax + 137) 9 12 (mm_ar 4 5 (fun _ => none)) n7 (by omega) ob7 (Nat.le_of_ble_eq_true rfl)
  have n8 : D8.1 = ax + 138 := n8
  have ob8 : D8.2 ax = some (mm_ob 9 [.ref (ax + 1), .null, .ref (ax + 3), .ref (ax + 65), .int (iI 0), .ref (ax + 127), .int (iI 0), .int (iI 0), .ref (ax + 128), .ref (ax + 130), .ref (ax + 132), .ref (ax + 134), .ref (ax + 137), .int (iI 0), .null, .null, .null, .long 0]) := ob8
  obtain ⟨A9, D9, ea9, ec9, n9, ob9, v9, w9⟩ := row9 (ax := ax) (e := ax + 138) 9 14 (mm_ai 4 (fun _ => iI 0)) n8 (by omega) ob8 (Nat.le_of_ble_eq_true rfl)
  have n9 : D9.1 = ax + 139 := n9
  have ob9 : D9.2 ax = some (mm_ob 9 [.ref (ax + 1), .null, .ref (ax + 3), .ref (ax + 65), .int (iI 0), .ref (ax + 127), .int (iI 0), .int (iI 0), .ref (ax + 128), .ref (ax + 130), .ref (ax + 132), .ref (ax + 134), .ref (ax + 137), .int (iI 0), .ref (ax + 138), .null, .null, .long 0]) := ob9
  obtain ⟨A10, B10, D10, ea10, eb10, ec10, n10, ob10, v10, w10⟩ := ini9 (ax := ax) (e := ax + 139) (e' := ax + 201) (V := fun M => St M (ax + 139) 0 kT0) (I := fun A => pX6_init n A (ax + 139)) 9 1 (mm_ob 6 [.null, .int (iI 0), .int (iI 0), .null, .null, .null]) n9 (by omega) ob9 (Nat.le_of_ble_eq_true rfl) (by omega) (fun A a b => i6 (n := n) a b) (fun B D x f => x.fr f (by omega))
  have eb10 : pX6_init n A10 (ax + 139) = some B10 := eb10
  have n10 : D10.1 = ax + 201 := n10
  have ob10 : D10.2 ax = some (mm_ob 9 [.ref (ax + 1), .ref (ax + 139), .ref (ax + 3), .ref (ax + 65), .int (iI 0), .ref (ax + 127), .int (iI 0), .int (iI 0), .ref (ax + 128), .ref (ax + 130), .ref (ax + 132), .ref (ax + 134), .ref (ax + 137), .int (iI 0), .ref (ax + 138), .null, .null, .long 0]) := ob10
  obtain ⟨A11, B11, D11, ea11, eb11, ec11, n11, ob11, v11, w11⟩ := ini9 (ax := ax) (e := ax + 201) (e' := ax + 203) (V := fun M => Rk M (ax + 201) (ax + 139) [] false) (I := fun A => pX3_init n A (ax + 201) (ax + 139)) 9 15 (mm_ob 3 [.null, .null, .int (iI 0), .int (iI 0)]) n10 (by omega) ob10 (Nat.le_of_ble_eq_true rfl) (by omega) (fun A a b => i3 (n := n) a b (ax + 139)) (fun B D x f => x.fr f (by omega))
  have eb11 : pX3_init n A11 (ax + 201) (ax + 139) = some B11 := eb11
  have n11 : D11.1 = ax + 203 := n11
  have ob11 : D11.2 ax = some (mm_ob 9 [.ref (ax + 1), .ref (ax + 139), .ref (ax + 3), .ref (ax + 65), .int (iI 0), .ref (ax + 127), .int (iI 0), .int (iI 0), .ref (ax + 128), .ref (ax + 130), .ref (ax + 132), .ref (ax + 134), .ref (ax + 137), .int (iI 0), .ref (ax + 138), .ref (ax + 201), .null, .long 0]) := ob11
  obtain ⟨A12, B12, D12, ea12, eb12, ec12, n12, ob12, v12, w12⟩ := ini9 (ax := ax) (e := ax + 203) (e' := ax + 205) (V := fun M => Rk M (ax + 203) (ax + 139) [] false) (I := fun A => pX3_init n A (ax + 203) (ax + 139)) 9 16 (mm_ob 3 [.null, .null, .int (iI 0), .int (iI 0)]) n11 (by omega) ob11 (Nat.le_of_ble_eq_true rfl) (by omega) (fun A a b => i3 (n := n) a b (ax + 139)) (fun B D x f => x.fr f (by omega))
  have eb12 : pX3_init n A12 (ax + 203) (ax + 139) = some B12 := eb12
  have n12 : D12.1 = ax + 205 := n12
  have ob12 : D12.2 ax = some (mm_ob 9 [.ref (ax + 1), .ref (ax + 139), .ref (ax + 3), .ref (ax + 65), .int (iI 0), .ref (ax + 127), .int (iI 0), .int (iI 0), .ref (ax + 128), .ref (ax + 130), .ref (ax + 132), .ref (ax + 134), .ref (ax + 137), .int (iI 0), .ref (ax + 138), .ref (ax + 201), .ref (ax + 203), .long 0]) := ob12
  clear h1 n0 n1 n2 n3 n4 n5 n6 n7 n8 n9 n10 n11
  have H11 : fx D11 D12 ax (ax + 203) (ax + 205) := w12
  have H10 : fx D10 D12 ax (ax + 201) (ax + 205) := fx_step H11 w11 (by omega) (by omega)
  have H9 : fx D9 D12 ax (ax + 139) (ax + 205) := fx_step H10 w10 (by omega) (by omega)
  have H8 : fx D8 D12 ax (ax + 138) (ax + 205) := fx_step H9 w9 (by omega) (by omega)
  have H7 : fx D7 D12 ax (ax + 137) (ax + 205) := fx_step H8 w8 (by omega) (by omega)
  have H6 : fx D6 D12 ax (ax + 134) (ax + 205) := fx_step H7 w7 (by omega) (by omega)
  have H5 : fx D5 D12 ax (ax + 132) (ax + 205) := fx_step H6 w6 (by omega) (by omega)
  have H4 : fx D4 D12 ax (ax + 130) (ax + 205) := fx_step H5 w5 (by omega) (by omega)
  have H3 : fx D3 D12 ax (ax + 128) (ax + 205) := fx_step H4 w4 (by omega) (by omega)
  have H2 : fx D2 D12 ax (ax + 127) (ax + 205) := fx_step H3 w3 (by omega) (by omega)
  have H1 : fx D1 D12 ax (ax + 65) (ax + 205) := fx_step H2 w2 (by omega) (by omega)
  have H0 : fx D0 D12 ax (ax + 3) (ax + 205) := fx_step H1 w1 (by omega) (by omega)
  refine ⟨D12, ?_, ob12, n12, fx_out (fx_step H0 w0 (by omega) (by omega)) (by omega) (by omega), (tr9 (ax := ax) (e := ax + 3) (E := ax + 205) (fun M => TpR M (ax + 1) []) v0 (fun A B x f => x.fr f (by omega)) (fun A B x f => x.fr f (by omega)) H0 :), (tr9 (ax := ax) (e := ax + 65) (E := ax + 205) (fun M => St M (ax + 3) 0 kT0) v1 (fun A B x f => x.fr f (by omega)) (fun A B x f => x.fr f (by omega)) H1 :), (tr9 (ax := ax) (e := ax + 127) (E := ax + 205) (fun M => St M (ax + 65) 0 kT0) v2 (fun A B x f => x.fr f (by omega)) (fun A B x f => x.fr f (by omega)) H2 :), fx_at H3 v3 (by omega) (by omega), (tr9 (ax := ax) (e := ax + 130) (E := ax + 205) (fun M => Sg M (ax + 128) []) v4 (fun A B x f => x.fr f (by omega)) (fun A B x f => x.fr f (by omega)) H4 :), (tr9 (ax := ax) (e := ax + 132) (E := ax + 205) (fun M => Sg M (ax + 130) []) v5 (fun A B x f => x.fr f (by omega)) (fun A B x f => x.fr f (by omega)) H5 :), (tr9 (ax := ax) (e := ax + 134) (E := ax + 205) (fun M => Sg M (ax + 132) []) v6 (fun A B x f => x.fr f (by omega)) (fun A B x f => x.fr f (by omega)) H6 :), (tr9 (ax := ax) (e := ax + 137) (E := ax + 205) (fun M => Sp M (ax + 134) (iI 0) (iI 0) (iI 0) []) v7 (fun A B x f => x.fr f (by omega)) (fun A B x f => x.fr f (by omega)) H7 :), fx_at H8 v8 (by omega) (by omega), fx_at H9 v9 (by omega) (by omega), (tr9 (ax := ax) (e := ax + 201) (E := ax + 205) (fun M => St M (ax + 139) 0 kT0) v10 (fun A B x f => x.fr f (by omega)) (fun A B x f => x.fr f (by omega)) H10 :), (tr9 (ax := ax) (e := ax + 203) (E := ax + 205) (fun M => Rk M (ax + 201) (ax + 139) [] false) v11 (fun A B x f => x.fr f (by omega)) (fun A B x f => x.fr f (by omega)) H11 :), v12⟩
  unfold pX9_init
  rw [L0, ea0, eb0, b1_s, ec0, b1_s, ea1, eb1, b1_s, ec1, b1_s, ea2, eb2, b1_s, ec2, b1_s, ea3, ec3, b1_s, ea4, eb4, b1_s, ec4, b1_s, ea5, eb5, b1_s, ec5, b1_s, ea6, eb6, b1_s, ec6, b1_s, ea7, eb7, b1_s, ec7, b1_s, ea8, ec8, b1_s, ea9, ec9, b1_s, ea10, eb10, b1_s, ec10, b1_s, ea11, eb11, b1_s, ec11, b1_s, ea12, eb12, b1_s, ec12, b1_s]
theorem i9 {n : Nat} {M : mm_M} {ax : Nat} (h1 : M.1 = ax + 1) (h2 : M.2 ax = some (mm_ob 9 [.null, .null, .null, .null, .int (iI 0), .null, .int (iI 0), .int (iI 0), .null, .null, .null, .null, .null, .int (iI 0), .null, .null, .null, .long 0])) : ∃ M', pX9_init n M ax = some M' ∧ Cls M' ax 0 [] kT0 [] [] none [] (fun _ => 0) ∧ M'.1 = ax + 2875 ∧ ∀ q, (q < ax ∨ ax + 2875 ≤ q) → M'.2 q = M.2 q := by
  obtain ⟨D, e0, co, nD, fD, x0, x1, x2, x3, x4, x5, x6, x7, x8, x9, x10, x11, x12⟩ := i9a (n := n) h1 h2
  obtain ⟨MF, ez, pr, pv, sr, sv, nF, fF⟩ := c_l144 (n := n) (ax := ax) 41 0 D _ _ (by omega) (by omega) (by omega) co x3 (fun j hj => by omega) (fun j hj => by omega) x8
  have ez : pX9_init_l144 n 41 D ax (iI 0) = some MF := ez
  have fr3 : ∀ {X : mm_M → Prop}, (∀ {M1 M2 : mm_M}, X M1 → fr M1 M2 (ax + 127) 1 → X M2) → (∀ {M1 M2 : mm_M}, X M1 → fr M1 M2 (ax + 137) 1 → X M2) → (∀ {M1 M2 : mm_M}, X M1 → fr M1 M2 (ax + 205) 2670 → X M2) → X D → X (D.1, MF.2) := by
    intro X t1 t2 t3 x
    have a1 : fr D (D.1, fun q => if q = ax + 127 then MF.2 q else D.2 q) (ax + 127) 1 := ⟨rfl, fun q hq => by show (if q = ax + 127 then MF.2 q else D.2 q) = _; rw [if_neg (by omega)]⟩
    have a2 : fr (D.1, fun q => if q = ax + 127 then MF.2 q else D.2 q) (D.1, fun q => if q = ax + 137 then MF.2 q else if q = ax + 127 then MF.2 q else D.2 q) (ax + 137) 1 := ⟨rfl, fun q hq => by
      show (if q = ax + 137 then MF.2 q else if q = ax + 127 then MF.2 q else D.2 q) = (if q = ax + 127 then MF.2 q else D.2 q)
      rw [if_neg (by omega : ¬ q = ax + 137)]⟩
    have a3 : fr (D.1, fun q => if q = ax + 137 then MF.2 q else if q = ax + 127 then MF.2 q else D.2 q) (D.1, MF.2) (ax + 205) 2670 := ⟨rfl, fun q hq => by
      show MF.2 q = (if q = ax + 137 then MF.2 q else if q = ax + 127 then MF.2 q else D.2 q)
      by_cases c1 : q = ax + 137
      · rw [if_pos c1]
      · rw [if_neg c1]
        by_cases c2 : q = ax + 127
        · rw [if_pos c2]
        · rw [if_neg c2]; exact fF q (by omega)⟩
    exact t3 (t2 (t1 x a1) a2) a3
  have z0 : TpR MF (ax + 1) [] := fr3 (X := fun M => TpR M (ax + 1) []) (fun x f => x.fr f (by omega)) (fun x f => x.fr f (by omega)) (fun x f => x.fr f (by omega)) x0
  have z1 : St MF (ax + 3) 0 kT0 := fr3 (X := fun M => St M (ax + 3) 0 kT0) (fun x f => x.fr f (by omega)) (fun x f => x.fr f (by omega)) (fun x f => x.fr f (by omega)) x1
  have z2 : St MF (ax + 65) 0 kT0 := fr3 (X := fun M => St M (ax + 65) 0 kT0) (fun x f => x.fr f (by omega)) (fun x f => x.fr f (by omega)) (fun x f => x.fr f (by omega)) x2
  have z4 : Sg MF (ax + 128) [] := fr3 (X := fun M => Sg M (ax + 128) []) (fun x f => x.fr f (by omega)) (fun x f => x.fr f (by omega)) (fun x f => x.fr f (by omega)) x4
  have z5 : Sg MF (ax + 130) [] := fr3 (X := fun M => Sg M (ax + 130) []) (fun x f => x.fr f (by omega)) (fun x f => x.fr f (by omega)) (fun x f => x.fr f (by omega)) x5
  have z6 : Sg MF (ax + 132) [] := fr3 (X := fun M => Sg M (ax + 132) []) (fun x f => x.fr f (by omega)) (fun x f => x.fr f (by omega)) (fun x f => x.fr f (by omega)) x6
  have z7 : Sp MF (ax + 134) (iI 0) (iI 0) (iI 0) [] := fr3 (X := fun M => Sp M (ax + 134) (iI 0) (iI 0) (iI 0) []) (fun x f => x.fr f (by omega)) (fun x f => x.fr f (by omega)) (fun x f => x.fr f (by omega)) x7
  have z10 : St MF (ax + 139) 0 kT0 := fr3 (X := fun M => St M (ax + 139) 0 kT0) (fun x f => x.fr f (by omega)) (fun x f => x.fr f (by omega)) (fun x f => x.fr f (by omega)) x10
  have z11 : Rk MF (ax + 201) (ax + 139) [] false := fr3 (X := fun M => Rk M (ax + 201) (ax + 139) [] false) (fun x f => x.fr f (by omega)) (fun x f => x.fr f (by omega)) (fun x f => x.fr f (by omega)) x11
  have z12 : Rk MF (ax + 203) (ax + 139) [] false := fr3 (X := fun M => Rk M (ax + 203) (ax + 139) [] false) (fun x f => x.fr f (by omega)) (fun x f => x.fr f (by omega)) (fun x f => x.fr f (by omega)) x12
  have zc : CO MF ax false 0 0 0 0 := (fF ax (by omega)).trans co
  exact ⟨MF, e0.trans ez, ⟨0, 0, false, false, zc, z0, ⟨_, z1⟩, ⟨_, z2, fun J hJ => (by cases hJ)⟩, pr, z4, z5, ⟨_, z6⟩, ⟨_, _, _, _, z7⟩, sr, ⟨_, (fF _ (by omega)).trans x9, fun i hi => rfl⟩, z10, ⟨_, z11, fun q => (by cases q)⟩, ⟨_, z12, fun q => (by cases q)⟩, pv, sv⟩, nF, fun q hq => (fF q (by omega)).trans (fD q (by omega))⟩
theorem i10a {n : Nat} {M : mm_M} {am : Nat} (h1 : M.1 = am + 1) (h2 : M.2 am = some (mm_ob 10 [.int (iI 0), .null, .int (iI 0), .int (iI 0), .int (iI 0), .null, .null, .int (iI 0), .null, .null, .int (iI 0), .null, .int (iI 0), .null, .null, .null, .int (iI 0), .null, .null, .int (iI 0), .int (iI 0), .null, .int (iI 0), .long 0, .null, .int (iI 0), .int (iI 0), .int (iI 0), .null, .int (iI 0), .null, .null, .int (iI 0)])) : ∃ D, pX10_init n M am = some D ∧ D.1 = am + 17 ∧ (∀ q, (q < am ∨ am + 17 ≤ q) → D.2 q = M.2 q) ∧ D.2 am = some (mm_ob 10 [.int (iI 0), .ref (am + 1), .int (iI 0), .int (iI 0), .int (iI 0), .ref (am + 2), .ref (am + 3), .int (iI 0), .ref (am + 4), .ref (am + 5), .int (iI 0), .ref (am + 6), .int (iI 0), .ref (am + 7), .ref (am + 8), .ref (am + 9), .int (iI 0), .ref (am + 10), .ref (am + 11), .int (iI 0), .int (iI 0), .ref (am + 12), .int (iI 0), .long 0, .ref (am + 13), .int (iI 0), .int (iI 0), .int (iI 0), .ref (am + 14), .int (iI 0), .ref (am + 15), .ref (am + 16), .int (iI 0)]) ∧ D.2 (am + 1) = some (mm_ai 240 (fun _ => iI 0)) ∧ D.2 (am + 2) = some (mm_ai 8 (fun _ => iI 0)) ∧ D.2 (am + 3) = some (mm_ai 160 (fun _ => iI 0)) ∧ D.2 (am + 4) = some (mm_ai 1440 (fun _ => iI 0)) ∧ D.2 (am + 5) = some (mm_ai 5 (fun _ => iI 0)) ∧ D.2 (am + 6) = some (mm_ai 20 (fun _ => iI 0)) ∧ D.2 (am + 7) = some (mm_ai 622 (fun _ => iI 0)) ∧ D.2 (am + 8) = some (mm_ai 4 (fun _ => iI 0)) ∧ D.2 (am + 9) = some (mm_ai 6 (fun _ => iI 0)) ∧ D.2 (am + 10) = some (mm_ai 200 (fun _ => iI 0)) ∧ D.2 (am + 11) = some (mm_ai 200 (fun _ => iI 0)) ∧ D.2 (am + 12) = some (mm_ai 24880 (fun _ => iI 0)) ∧ D.2 (am + 13) = some (mm_ai 20 (fun _ => iI 0)) ∧ D.2 (am + 14) = some (mm_ai 18 (fun _ => iI 0)) ∧ D.2 (am + 15) = some (mm_ai 441 (fun _ => iI 0)) ∧ D.2 (am + 16) = some (mm_ai 622 (fun _ => iI 0)) := by
  obtain ⟨A0, D0, ea0, ec0, n0, ob0, v0, w0⟩ := row9 (ax := am) (e := am + 1) 10 1 (mm_ai 240 (fun _ => iI 0)) h1 (by omega) h2 (Nat.le_of_ble_eq_true rfl)
  have n0 : D0.1 = am + 2 := n0
  have ob0 : D0.2 am = some (mm_ob 10 [.int (iI 0), .ref (am + 1), .int (iI 0), .int (iI 0), .int (iI 0), .null, .null, .int (iI 0), .null, .null, .int (iI 0), .null, .int (iI 0), .null, .null, .null, .int (iI 0), .null, .null, .int (iI 0), .int (iI 0), .null, .int (iI 0), .long 0, .null, .int (iI 0), .int (iI 0), .int (iI 0), .null, .int (iI 0), .null, .null, .int (iI 0)]) := ob0
  obtain ⟨A1, D1, ea1, ec1, n1, ob1, v1, w1⟩ := row9 (ax := am) (e := am + 2) 10 5 (mm_ai 8 (fun _ => iI 0)) n0 (by omega) ob0 (Nat.le_of_ble_eq_true rfl)
  have n1 : D1.1 = am + 3 := n1
  have ob1 : D1.2 am = some (mm_ob 10 [.int (iI 0), .ref (am + 1), .int (iI 0), .int (iI 0), .int (iI 0), .ref (am + 2), .null, .int (iI 0), .null, .null, .int (iI 0), .null, .int (iI 0), .null, .null, .null, .int (iI 0), .null, .null, .int (iI 0), .int (iI 0), .null, .int (iI 0), .long 0, .null, .int (iI 0), .int (iI 0), .int (iI 0), .null, .int (iI 0), .null, .null, .int (iI 0)]) := ob1
  clear n0 ob0
  obtain ⟨A2, D2, ea2, ec2, n2, ob2, v2, w2⟩ := row9 (ax := am) (e := am + 3) 10 6 (mm_ai 160 (fun _ => iI 0)) n1 (by omega) ob1 (Nat.le_of_ble_eq_true rfl)
  have n2 : D2.1 = am + 4 := n2
  have ob2 : D2.2 am = some (mm_ob 10 [.int (iI 0), .ref (am + 1), .int (iI 0), .int (iI 0), .int (iI 0), .ref (am + 2), .ref (am + 3), .int (iI 0), .null, .null, .int (iI 0), .null, .int (iI 0), .null, .null, .null, .int (iI 0), .null, .null, .int (iI 0), .int (iI 0), .null, .int (iI 0), .long 0, .null, .int (iI 0), .int (iI 0), .int (iI 0), .null, .int (iI 0), .null, .null, .int (iI 0)]) := ob2
  clear n1 ob1
  obtain ⟨A3, D3, ea3, ec3, n3, ob3, v3, w3⟩ := row9 (ax := am) (e := am + 4) 10 8 (mm_ai 1440 (fun _ => iI 0)) n2 (by omega) ob2 (Nat.le_of_ble_eq_true rfl)
  have n3 : D3.1 = am + 5 := n3
  have ob3 : D3.2 am = some (mm_ob 10 [.int (iI 0), .ref (am + 1), .int (iI 0), .int (iI 0), .int (iI 0), .ref (am + 2), .ref (am + 3), .int (iI 0), .ref (am + 4), .null, .int (iI 0), .null, .int (iI 0), .null, .null, .null, .int (iI 0), .null, .null, .int (iI 0), .int (iI 0), .null, .int (iI 0), .long 0, .null, .int (iI 0), .int (iI 0), .int (iI 0), .null, .int (iI 0), .null, .null, .int (iI 0)]) := ob3
  clear n2 ob2
  obtain ⟨A4, D4, ea4, ec4, n4, ob4, v4, w4⟩ := row9 (ax := am) (e := am + 5) 10 9 (mm_ai 5 (fun _ => iI 0)) n3 (by omega) ob3 (Nat.le_of_ble_eq_true rfl)
  have n4 : D4.1 = am + 6 := n4
  have ob4 : D4.2 am = some (mm_ob 10 [.int (iI 0), .ref (am + 1), .int (iI 0), .int (iI 0), .int (iI 0), .ref (am + 2), .ref (am + 3), .int (iI 0), .ref (am + 4), .ref (am + 5), .int (iI 0), .null, .int (iI 0), .null, .null, .null, .int (iI 0), .null, .null, .int (iI 0), .int (iI 0), .null, .int (iI 0), .long 0, .null, .int (iI 0), .int (iI 0), .int (iI 0), .null, .int (iI 0), .null, .null, .int (iI 0)]) := ob4
  clear n3 ob3
  obtain ⟨A5, D5, ea5, ec5, n5, ob5, v5, w5⟩ := row9 (ax := am) (e := am + 6) 10 11 (mm_ai 20 (fun _ => iI 0)) n4 (by omega) ob4 (Nat.le_of_ble_eq_true rfl)
  have n5 : D5.1 = am + 7 := n5
  have ob5 : D5.2 am = some (mm_ob 10 [.int (iI 0), .ref (am + 1), .int (iI 0), .int (iI 0), .int (iI 0), .ref (am + 2), .ref (am + 3), .int (iI 0), .ref (am + 4), .ref (am + 5), .int (iI 0), .ref (am + 6), .int (iI 0), .null, .null, .null, .int (iI 0), .null, .null, .int (iI 0), .int (iI 0), .null, .int (iI 0), .long 0, .null, .int (iI 0), .int (iI 0), .int (iI 0), .null, .int (iI 0), .null, .null, .int (iI 0)]) := ob5
  clear n4 ob4
  obtain ⟨A6, D6, ea6, ec6, n6, ob6, v6, w6⟩ := row9 (ax := am) (e := am + 7) 10 13 (mm_ai 622 (fun _ => iI 0)) n5 (by omega) ob5 (Nat.le_of_ble_eq_true rfl)
  have n6 : D6.1 = am + 8 := n6
  have ob6 : D6.2 am = some (mm_ob 10 [.int (iI 0), .ref (am + 1), .int (iI 0), .int (iI 0), .int (iI 0), .ref (am + 2), .ref (am + 3), .int (iI 0), .ref (am + 4), .ref (am + 5), .int (iI 0), .ref (am + 6), .int (iI 0), .ref (am + 7), .null, .null, .int (iI 0), .null, .null, .int (iI 0), .int (iI 0), .null, .int (iI 0), .long 0, .null, .int (iI 0), .int (iI 0), .int (iI 0), .null, .int (iI 0), .null, .null, .int (iI 0)]) := ob6
  clear n5 ob5
  obtain ⟨A7, D7, ea7, ec7, n7, ob7, v7, w7⟩ := row9 (ax := am) (e := am + 8) 10 14 (mm_ai 4 (fun _ => iI 0)) n6 (by omega) ob6 (Nat.le_of_ble_eq_true rfl)
  have n7 : D7.1 = am + 9 := n7
  have ob7 : D7.2 am = some (mm_ob 10 [.int (iI 0), .ref (am + 1), .int (iI 0), .int (iI 0), .int (iI 0), .ref (am + 2), .ref (am + 3), .int (iI 0), .ref (am + 4), .ref (am + 5), .int (iI 0), .ref (am + 6), .int (iI 0), .ref (am + 7), .ref (am + 8), .null, .int (iI 0), .null, .null, .int (iI 0), .int (iI 0), .null, .int (iI 0), .long 0, .null, .int (iI 0), .int (iI 0), .int (iI 0), .null, .int (iI 0), .null, .null, .int (iI 0)]) := ob7
  clear n6 ob6
  obtain ⟨A8, D8, ea8, ec8, n8, ob8, v8, w8⟩ := row9 (ax := am) (e := am + 9) 10 15 (mm_ai 6 (fun _ => iI 0)) n7 (by omega) ob7 (Nat.le_of_ble_eq_true rfl)
  have n8 : D8.1 = am + 10 := n8
  have ob8 : D8.2 am = some (mm_ob 10 [.int (iI 0), .ref (am + 1), .int (iI 0), .int (iI 0), .int (iI 0), .ref (am + 2), .ref (am + 3), .int (iI 0), .ref (am + 4), .ref (am + 5), .int (iI 0), .ref (am + 6), .int (iI 0), .ref (am + 7), .ref (am + 8), .ref (am + 9), .int (iI 0), .null, .null, .int (iI 0), .int (iI 0), .null, .int (iI 0), .long 0, .null, .int (iI 0), .int (iI 0), .int (iI 0), .null, .int (iI 0), .null, .null, .int (iI 0)]) := ob8
  clear n7 ob7
  obtain ⟨A9, D9, ea9, ec9, n9, ob9, v9, w9⟩ := row9 (ax := am) (e := am + 10) 10 17 (mm_ai 200 (fun _ => iI 0)) n8 (by omega) ob8 (Nat.le_of_ble_eq_true rfl)
  have n9 : D9.1 = am + 11 := n9
  have ob9 : D9.2 am = some (mm_ob 10 [.int (iI 0), .ref (am + 1), .int (iI 0), .int (iI 0), .int (iI 0), .ref (am + 2), .ref (am + 3), .int (iI 0), .ref (am + 4), .ref (am + 5), .int (iI 0), .ref (am + 6), .int (iI 0), .ref (am + 7), .ref (am + 8), .ref (am + 9), .int (iI 0), .ref (am + 10), .null, .int (iI 0), .int (iI 0), .null, .int (iI 0), .long 0, .null, .int (iI 0), .int (iI 0), .int (iI 0), .null, .int (iI 0), .null, .null, .int (iI 0)]) := ob9
  clear n8 ob8
  obtain ⟨A10, D10, ea10, ec10, n10, ob10, v10, w10⟩ := row9 (ax := am) (e := am + 11) 10 18 (mm_ai 200 (fun _ => iI 0)) n9 (by omega) ob9 (Nat.le_of_ble_eq_true rfl)
  have n10 : D10.1 = am + 12 := n10
  have ob10 : D10.2 am = some (mm_ob 10 [.int (iI 0), .ref (am + 1), .int (iI 0), .int (iI 0), .int (iI 0), .ref (am + 2), .ref (am + 3), .int (iI 0), .ref (am + 4), .ref (am + 5), .int (iI 0), .ref (am + 6), .int (iI 0), .ref (am + 7), .ref (am + 8), .ref (am + 9), .int (iI 0), .ref (am + 10), .ref (am + 11), .int (iI 0), .int (iI 0), .null, .int (iI 0), .long 0, .null, .int (iI 0), .int (iI 0), .int (iI 0), .null, .int (iI 0), .null, .null, .int (iI 0)]) := ob10
  clear n9 ob9
  obtain ⟨A11, D11, ea11, ec11, n11, ob11, v11, w11⟩ := row9 (ax := am) (e := am + 12) 10 21 (mm_ai 24880 (fun _ => iI 0)) n10 (by omega) ob10 (Nat.le_of_ble_eq_true rfl)
  have n11 : D11.1 = am + 13 := n11
  have ob11 : D11.2 am = some (mm_ob 10 [.int (iI 0), .ref (am + 1), .int (iI 0), .int (iI 0), .int (iI 0), .ref (am + 2), .ref (am + 3), .int (iI 0), .ref (am + 4), .ref (am + 5), .int (iI 0), .ref (am + 6), .int (iI 0), .ref (am + 7), .ref (am + 8), .ref (am + 9), .int (iI 0), .ref (am + 10), .ref (am + 11), .int (iI 0), .int (iI 0), .ref (am + 12), .int (iI 0), .long 0, .null, .int (iI 0), .int (iI 0), .int (iI 0), .null, .int (iI 0), .null, .null, .int (iI 0)]) := ob11
  clear n10 ob10
  obtain ⟨A12, D12, ea12, ec12, n12, ob12, v12, w12⟩ := row9 (ax := am) (e := am + 13) 10 24 (mm_ai 20 (fun _ => iI 0)) n11 (by omega) ob11 (Nat.le_of_ble_eq_true rfl)
  have n12 : D12.1 = am + 14 := n12
  have ob12 : D12.2 am = some (mm_ob 10 [.int (iI 0), .ref (am + 1), .int (iI 0), .int (iI 0), .int (iI 0), .ref (am + 2), .ref (am + 3), .int (iI 0), .ref (am + 4), .ref (am + 5), .int (iI 0), .ref (am + 6), .int (iI 0), .ref (am + 7), .ref (am + 8), .ref (am + 9), .int (iI 0), .ref (am + 10), .ref (am + 11), .int (iI 0), .int (iI 0), .ref (am + 12), .int (iI 0), .long 0, .ref (am + 13), .int (iI 0), .int (iI 0), .int (iI 0), .null, .int (iI 0), .null, .null, .int (iI 0)]) := ob12
  clear n11 ob11
  obtain ⟨A13, D13, ea13, ec13, n13, ob13, v13, w13⟩ := row9 (ax := am) (e := am + 14) 10 28 (mm_ai 18 (fun _ => iI 0)) n12 (by omega) ob12 (Nat.le_of_ble_eq_true rfl)
  have n13 : D13.1 = am + 15 := n13
  have ob13 : D13.2 am = some (mm_ob 10 [.int (iI 0), .ref (am + 1), .int (iI 0), .int (iI 0), .int (iI 0), .ref (am + 2), .ref (am + 3), .int (iI 0), .ref (am + 4), .ref (am + 5), .int (iI 0), .ref (am + 6), .int (iI 0), .ref (am + 7), .ref (am + 8), .ref (am + 9), .int (iI 0), .ref (am + 10), .ref (am + 11), .int (iI 0), .int (iI 0), .ref (am + 12), .int (iI 0), .long 0, .ref (am + 13), .int (iI 0), .int (iI 0), .int (iI 0), .ref (am + 14), .int (iI 0), .null, .null, .int (iI 0)]) := ob13
  clear n12 ob12
  obtain ⟨A14, D14, ea14, ec14, n14, ob14, v14, w14⟩ := row9 (ax := am) (e := am + 15) 10 30 (mm_ai 441 (fun _ => iI 0)) n13 (by omega) ob13 (Nat.le_of_ble_eq_true rfl)
  have n14 : D14.1 = am + 16 := n14
  have ob14 : D14.2 am = some (mm_ob 10 [.int (iI 0), .ref (am + 1), .int (iI 0), .int (iI 0), .int (iI 0), .ref (am + 2), .ref (am + 3), .int (iI 0), .ref (am + 4), .ref (am + 5), .int (iI 0), .ref (am + 6), .int (iI 0), .ref (am + 7), .ref (am + 8), .ref (am + 9), .int (iI 0), .ref (am + 10), .ref (am + 11), .int (iI 0), .int (iI 0), .ref (am + 12), .int (iI 0), .long 0, .ref (am + 13), .int (iI 0), .int (iI 0), .int (iI 0), .ref (am + 14), .int (iI 0), .ref (am + 15), .null, .int (iI 0)]) := ob14
  clear n13 ob13
  obtain ⟨A15, D15, ea15, ec15, n15, ob15, v15, w15⟩ := row9 (ax := am) (e := am + 16) 10 31 (mm_ai 622 (fun _ => iI 0)) n14 (by omega) ob14 (Nat.le_of_ble_eq_true rfl)
  have n15 : D15.1 = am + 17 := n15
  have ob15 : D15.2 am = some (mm_ob 10 [.int (iI 0), .ref (am + 1), .int (iI 0), .int (iI 0), .int (iI 0), .ref (am + 2), .ref (am + 3), .int (iI 0), .ref (am + 4), .ref (am + 5), .int (iI 0), .ref (am + 6), .int (iI 0), .ref (am + 7), .ref (am + 8), .ref (am + 9), .int (iI 0), .ref (am + 10), .ref (am + 11), .int (iI 0), .int (iI 0), .ref (am + 12), .int (iI 0), .long 0, .ref (am + 13), .int (iI 0), .int (iI 0), .int (iI 0), .ref (am + 14), .int (iI 0), .ref (am + 15), .ref (am + 16), .int (iI 0)]) := ob15
  clear n14 ob14
  clear h1 h2
  have H14 : fx D14 D15 am (am + 16) (am + 17) := w15
  have H13 : fx D13 D15 am (am + 15) (am + 17) := fx_step H14 w14 (Nat.le_succ _) (Nat.add_le_add_left (by decide) _)
  have H12 : fx D12 D15 am (am + 14) (am + 17) := fx_step H13 w13 (Nat.le_succ _) (Nat.add_le_add_left (by decide) _)
  have H11 : fx D11 D15 am (am + 13) (am + 17) := fx_step H12 w12 (Nat.le_succ _) (Nat.add_le_add_left (by decide) _)
  have H10 : fx D10 D15 am (am + 12) (am + 17) := fx_step H11 w11 (Nat.le_succ _) (Nat.add_le_add_left (by decide) _)
  have H9 : fx D9 D15 am (am + 11) (am + 17) := fx_step H10 w10 (Nat.le_succ _) (Nat.add_le_add_left (by decide) _)
  have H8 : fx D8 D15 am (am + 10) (am + 17) := fx_step H9 w9 (Nat.le_succ _) (Nat.add_le_add_left (by decide) _)
  have H7 : fx D7 D15 am (am + 9) (am + 17) := fx_step H8 w8 (Nat.le_succ _) (Nat.add_le_add_left (by decide) _)
  have H6 : fx D6 D15 am (am + 8) (am + 17) := fx_step H7 w7 (Nat.le_succ _) (Nat.add_le_add_left (by decide) _)
  have H5 : fx D5 D15 am (am + 7) (am + 17) := fx_step H6 w6 (Nat.le_succ _) (Nat.add_le_add_left (by decide) _)
  have H4 : fx D4 D15 am (am + 6) (am + 17) := fx_step H5 w5 (Nat.le_succ _) (Nat.add_le_add_left (by decide) _)
  have H3 : fx D3 D15 am (am + 5) (am + 17) := fx_step H4 w4 (Nat.le_succ _) (Nat.add_le_add_left (by decide) _)
  have H2 : fx D2 D15 am (am + 4) (am + 17) := fx_step H3 w3 (Nat.le_succ _) (Nat.add_le_add_left (by decide) _)
  have H1 : fx D1 D15 am (am + 3) (am + 17) := fx_step H2 w2 (Nat.le_succ _) (Nat.add_le_add_left (by decide) _)
  have H0 : fx D0 D15 am (am + 2) (am + 17) := fx_step H1 w1 (Nat.le_succ _) (Nat.add_le_add_left (by decide) _)
  refine ⟨D15, ?_, n15, fx_out (fx_step H0 w0 (Nat.le_succ _) (Nat.add_le_add_left (by decide) _)) (Nat.lt_succ_self _) (Nat.lt_add_of_pos_right (by decide)), ob15, fx_at H0 v0 (Nat.ne_of_gt (Nat.lt_add_of_pos_right (by decide))) (Nat.lt_succ_self _), fx_at H1 v1 (Nat.ne_of_gt (Nat.lt_add_of_pos_right (by decide))) (Nat.lt_succ_self _), fx_at H2 v2 (Nat.ne_of_gt (Nat.lt_add_of_pos_right (by decide))) (Nat.lt_succ_self _), fx_at H3 v3 (Nat.ne_of_gt (Nat.lt_add_of_pos_right (by decide))) (Nat.lt_succ_self _), fx_at H4 v4 (Nat.ne_of_gt (Nat.lt_add_of_pos_right (by decide))) (Nat.lt_succ_self _), fx_at H5 v5 (Nat.ne_of_gt (Nat.lt_add_of_pos_right (by decide))) (Nat.lt_succ_self _), fx_at H6 v6 (Nat.ne_of_gt (Nat.lt_add_of_pos_right (by decide))) (Nat.lt_succ_self _), fx_at H7 v7 (Nat.ne_of_gt (Nat.lt_add_of_pos_right (by decide))) (Nat.lt_succ_self _), fx_at H8 v8 (Nat.ne_of_gt (Nat.lt_add_of_pos_right (by decide))) (Nat.lt_succ_self _), fx_at H9 v9 (Nat.ne_of_gt (Nat.lt_add_of_pos_right (by decide))) (Nat.lt_succ_self _), fx_at H10 v10 (Nat.ne_of_gt (Nat.lt_add_of_pos_right (by decide))) (Nat.lt_succ_self _), fx_at H11 v11 (Nat.ne_of_gt (Nat.lt_add_of_pos_right (by decide))) (Nat.lt_succ_self _), fx_at H12 v12 (Nat.ne_of_gt (Nat.lt_add_of_pos_right (by decide))) (Nat.lt_succ_self _), fx_at H13 v13 (Nat.ne_of_gt (Nat.lt_add_of_pos_right (by decide))) (Nat.lt_succ_self _), fx_at H14 v14 (Nat.ne_of_gt (Nat.lt_add_of_pos_right (by decide))) (Nat.lt_succ_self _), v15⟩
  unfold pX10_init
  rw [L0, ea0, ec0, b1_s, ea1, ec1, b1_s, ea2, ec2, b1_s, ea3, ec3, b1_s, ea4, ec4, b1_s, ea5, ec5, b1_s, ea6, ec6, b1_s, ea7, ec7, b1_s, ea8, ec8, b1_s, ea9, ec9, b1_s, ea10, ec10, b1_s, ea11, ec11, b1_s, ea12, ec12, b1_s, ea13, ec13, b1_s, ea14, ec14, b1_s, ea15, ec15, b1_s]
theorem i10 {n : Nat} {M : mm_M} {am : Nat} (h1 : M.1 = am + 1) (h2 : M.2 am = some (mm_ob 10 [.int (iI 0), .null, .int (iI 0), .int (iI 0), .int (iI 0), .null, .null, .int (iI 0), .null, .null, .int (iI 0), .null, .int (iI 0), .null, .null, .null, .int (iI 0), .null, .null, .int (iI 0), .int (iI 0), .null, .int (iI 0), .long 0, .null, .int (iI 0), .int (iI 0), .int (iI 0), .null, .int (iI 0), .null, .null, .int (iI 0)])) : ∃ M', pX10_init n M am = some M' ∧ M' = mk M' am (fun _ _ => 0, 0) ∧ M'.1 = am + 17 ∧ ∀ q, (q < am ∨ am + 17 ≤ q) → M'.2 q = M.2 q := by
  obtain ⟨D, e, n1, fD, r0, r1, r2, r3, r4, r5, r6, r7, r8, r9, r10, r11, r12, r13, r14, r15, r16⟩ := i10a (n := n) h1 h2
  refine ⟨D, e, mk_of (fun j hj => ?_), n1, fD⟩
  clear e n1 fD h1 h2
  match j, hj with
  | 0, _ => exact r0
  | 1, _ => exact r1
  | 2, _ => exact r2
  | 3, _ => exact r3
  | 4, _ => exact r4
  | 5, _ => exact r5
  | 6, _ => exact r6
  | 7, _ => exact r7
  | 8, _ => exact r8
  | 9, _ => exact r9
  | 10, _ => exact r10
  | 11, _ => exact r11
  | 12, _ => exact r12
  | 13, _ => exact r13
  | 14, _ => exact r14
  | 15, _ => exact r15
  | 16, _ => exact r16
  | j + 17, hj => exact absurd hj (by omega)
