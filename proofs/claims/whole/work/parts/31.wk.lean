set_option maxHeartbeats 4000000 in
set_option maxRecDepth 100000 in
theorem kX5_init {l : Launch} {D : va_G} {dA : Nat → ClassId} {lo : Nat} {n : Nat} {M : mm_M} {a0 : Nat} (o : mm_M) (h : pX5_init n M a0 = some o) : mm_MetN l D dA lo yX5_init cX5_init 1 none 1 12 1 20 [.ref a0] M none o := by
  unfold pX5_init at h
  refine mm_enterN (by decide) (Nat.le_of_ble_eq_true rfl) (fun p e s m args below meth c ls X NN hr hlk hnm I hl => ?_)
  have X : mm_C D dA lo cX5_init RX5 1 p s m args c := X
  have hl : lv_has ls 1 [(0, .ref a0)] := hl
  refine lv_aload_n X.1 X.2.1 dX5_init_0 rfl (lv_at hl 0 rfl) ?_
  refine mm_rob X hl ml_X5_3 (by decide) (Nat.le_of_ble_eq_true rfl) dX5_init_1 ?_
  refine lv_aload_n X.1 X.2.1 dX5_init_4 rfl (lv_at hl 0 rfl) ?_
  refine lv_bipush (v := 20) X.1 X.2.1 dX5_init_5 (by decide) ?_
  refine mm_rnai (N := 20) X I ac_int (by decide) (by decide) (by decide) (show _ ≤ 1 by omega) (show _ ≤ 20 by omega) dX5_init_7 h (fun v1 M H I h => ?_)
  refine mm_rprF X I fl_X5_9 hnm rfl dX5_init_9 rfl rfl h (fun M H locs I h => ?_)
  refine W.widen (k := 1) (n := 20) (by omega) (by omega) ?_
  exact mm_xv X I hr hlk dX5_init_12 h
set_option maxHeartbeats 4000000 in
set_option maxRecDepth 100000 in
theorem kX2_init {l : Launch} {D : va_G} {dA : Nat → ClassId} {lo : Nat} {n : Nat} {M : mm_M} {a0 : Nat} (o : mm_M) (h : pX2_init n M a0 = some o) : mm_MetN l D dA lo yX2_init cX2_init 1 none 2 32 2 22 [.ref a0] M none o := by
  unfold pX2_init at h
  refine mm_enterN (by decide) (Nat.le_of_ble_eq_true rfl) (fun p e s m args below meth c ls X NN hr hlk hnm I hl => ?_)
  have X : mm_C D dA lo cX2_init RX2 1 p s m args c := X
  have hl : lv_has ls 1 [(0, .ref a0)] := hl
  refine lv_aload_n X.1 X.2.1 dX2_init_0 rfl (lv_at hl 0 rfl) ?_
  refine mm_rob X hl ml_X2_1 (by decide) (Nat.le_of_ble_eq_true rfl) dX2_init_1 ?_
  refine lv_aload_n X.1 X.2.1 dX2_init_4 rfl (lv_at hl 0 rfl) ?_
  refine mm_rnew X I nw_X2_7 (show _ ≤ 2 by omega) (show _ ≤ 22 by omega) dX2_init_5 h (fun v1 M H I h => ?_)
  refine lv_dup X.1 X.2.1 dX2_init_8 rfl ?_
  refine mm_cI X NN I hl (As := []) md_X5_init mi_X5_init rfl (Or.inr (by decide +kernel)) (kX5_init (n := n)) (by decide) (show _ ≤ 2 by omega) (show _ ≤ 22 by omega) rfl rfl (Nat.le_of_ble_eq_true rfl) dX2_init_9 h (fun M H locs I h => ?_)
  refine mm_rprF X I fl_X2_10 hnm rfl dX2_init_12 rfl rfl h (fun M H locs I h => ?_)
  refine W.widen (k := 2) (n := 22) (by omega) (by omega) ?_
  exact mm_xv X I hr hlk dX2_init_15 h
set_option maxHeartbeats 4000000 in
set_option maxRecDepth 100000 in
theorem kX0_init {l : Launch} {D : va_G} {dA : Nat → ClassId} {lo : Nat} {n : Nat} {M : mm_M} {a0 : Nat} (o : mm_M) (h : pX0_init n M a0 = some o) : mm_MetN l D dA lo yX0_init cX0_init 1 none 3 52 7 64 [.ref a0] M none o := by
  unfold pX0_init at h
  refine mm_enterN (by decide) (Nat.le_of_ble_eq_true rfl) (fun p e s m args below meth c ls X NN hr hlk hnm I hl => ?_)
  have X : mm_C D dA lo cX0_init RX0 1 p s m args c := X
  have hl : lv_has ls 1 [(0, .ref a0)] := hl
  refine lv_aload_n X.1 X.2.1 dX0_init_0 rfl (lv_at hl 0 rfl) ?_
  refine mm_rob X hl ml_X0_3 (by decide) (Nat.le_of_ble_eq_true rfl) dX0_init_1 ?_
  refine lv_aload_n X.1 X.2.1 dX0_init_4 rfl (lv_at hl 0 rfl) ?_
  refine mm_rnew X I nw_X0_9 (show _ ≤ 7 by omega) (show _ ≤ 64 by omega) dX0_init_5 h (fun v1 M H I h => ?_)
  refine lv_dup X.1 X.2.1 dX0_init_8 rfl ?_
  refine mm_cI X NN I hl (As := []) md_X5_init mi_X5_init rfl (Or.inr (by decide +kernel)) (kX5_init (n := n)) (by decide) (show _ ≤ 7 by omega) (show _ ≤ 64 by omega) rfl rfl (Nat.le_of_ble_eq_true rfl) dX0_init_9 h (fun M H locs I h => ?_)
  refine mm_rprF X I fl_X0_12 hnm rfl dX0_init_12 rfl rfl h (fun M H locs I h => ?_)
  refine lv_aload_n X.1 X.2.1 dX0_init_15 rfl (lv_at hl 0 rfl) ?_
  refine mm_rnew X I nw_X0_18 (show _ ≤ 7 by omega) (show _ ≤ 64 by omega) dX0_init_16 h (fun v2 M H I h => ?_)
  refine lv_dup X.1 X.2.1 dX0_init_19 rfl ?_
  refine mm_cI X NN I hl (As := []) md_X2_init mi_X2_init rfl (Or.inr (by decide +kernel)) (kX2_init (n := n)) (by decide) (show _ ≤ 7 by omega) (show _ ≤ 64 by omega) rfl rfl (Nat.le_of_ble_eq_true rfl) dX0_init_20 h (fun M H locs I h => ?_)
  refine mm_rprF X I fl_X0_21 hnm rfl dX0_init_23 rfl rfl h (fun M H locs I h => ?_)
  refine lv_aload_n X.1 X.2.1 dX0_init_26 rfl (lv_at hl 0 rfl) ?_
  refine lv_bipush (v := 9) X.1 X.2.1 dX0_init_27 (by decide) ?_
  refine mm_rnai (N := 9) X I ac_int (by decide) (by decide) (by decide) (show _ ≤ 7 by omega) (show _ ≤ 64 by omega) dX0_init_29 h (fun v3 M H I h => ?_)
  refine mm_rprF X I fl_X0_25 hnm rfl dX0_init_31 rfl rfl h (fun M H locs I h => ?_)
  refine lv_aload_n X.1 X.2.1 dX0_init_34 rfl (lv_at hl 0 rfl) ?_
  refine lv_bipush (v := 9) X.1 X.2.1 dX0_init_35 (by decide) ?_
  refine mm_rnai (N := 9) X I ac_int (by decide) (by decide) (by decide) (show _ ≤ 7 by omega) (show _ ≤ 64 by omega) dX0_init_37 h (fun v4 M H I h => ?_)
  refine mm_rprF X I fl_X0_29 hnm rfl dX0_init_39 rfl rfl h (fun M H locs I h => ?_)
  refine W.widen (k := 7) (n := 64) (by omega) (by omega) ?_
  exact mm_xv X I hr hlk dX0_init_42 h
set_option maxHeartbeats 4000000 in
set_option maxRecDepth 100000 in
theorem kX1_init {l : Launch} {D : va_G} {dA : Nat → ClassId} {lo : Nat} {n : Nat} {M : mm_M} {a0 : Nat} (o : mm_M) (h : pX1_init n M a0 = some o) : mm_MetN l D dA lo yX1_init cX1_init 1 none 1 12 3 180 [.ref a0] M none o := by
  unfold pX1_init at h
  refine mm_enterN (by decide) (Nat.le_of_ble_eq_true rfl) (fun p e s m args below meth c ls X NN hr hlk hnm I hl => ?_)
  have X : mm_C D dA lo cX1_init RX1 1 p s m args c := X
  have hl : lv_has ls 1 [(0, .ref a0)] := hl
  refine lv_aload_n X.1 X.2.1 dX1_init_0 rfl (lv_at hl 0 rfl) ?_
  refine mm_rob X hl ml_X1_3 (by decide) (Nat.le_of_ble_eq_true rfl) dX1_init_1 ?_
  refine lv_aload_n X.1 X.2.1 dX1_init_4 rfl (lv_at hl 0 rfl) ?_
  refine lv_bipush (v := 60) X.1 X.2.1 dX1_init_5 (by decide) ?_
  refine mm_rnai (N := 60) X I ac_int (by decide) (by decide) (by decide) (show _ ≤ 3 by omega) (show _ ≤ 180 by omega) dX1_init_7 h (fun v1 M H I h => ?_)
  refine mm_rprF X I fl_X1_9 hnm rfl dX1_init_9 rfl rfl h (fun M H locs I h => ?_)
  refine lv_aload_n X.1 X.2.1 dX1_init_12 rfl (lv_at hl 0 rfl) ?_
  refine lv_bipush (v := 60) X.1 X.2.1 dX1_init_13 (by decide) ?_
  refine mm_rnai (N := 60) X I ac_int (by decide) (by decide) (by decide) (show _ ≤ 3 by omega) (show _ ≤ 180 by omega) dX1_init_15 h (fun v2 M H I h => ?_)
  refine mm_rprF X I fl_X1_15 hnm rfl dX1_init_17 rfl rfl h (fun M H locs I h => ?_)
  refine lv_aload_n X.1 X.2.1 dX1_init_20 rfl (lv_at hl 0 rfl) ?_
  refine lv_bipush (v := 60) X.1 X.2.1 dX1_init_21 (by decide) ?_
  refine mm_rnai (N := 60) X I ac_int (by decide) (by decide) (by decide) (show _ ≤ 3 by omega) (show _ ≤ 180 by omega) dX1_init_23 h (fun v3 M H I h => ?_)
  refine mm_rprF X I fl_X1_18 hnm rfl dX1_init_25 rfl rfl h (fun M H locs I h => ?_)
  refine W.widen (k := 3) (n := 180) (by omega) (by omega) ?_
  exact mm_xv X I hr hlk dX1_init_28 h
set_option maxHeartbeats 4000000 in
set_option maxRecDepth 100000 in
theorem kX3_init {l : Launch} {D : va_G} {dA : Nat → ClassId} {lo : Nat} {n : Nat} {M : mm_M} {a0 : Nat} {a1 : Nat} (o : mm_M) (h : pX3_init n M a0 a1 = some o) : mm_MetN l D dA lo yX3_init cX3_init 2 none 1 12 1 200 [.ref a0, .ref a1] M none o := by
  unfold pX3_init at h
  refine mm_enterN (by decide) (Nat.le_of_ble_eq_true rfl) (fun p e s m args below meth c ls X NN hr hlk hnm I hl => ?_)
  have X : mm_C D dA lo cX3_init RX3 2 p s m args c := X
  have hl : lv_has ls 2 [(0, .ref a0), (1, .ref a1)] := hl
  refine lv_aload_n X.1 X.2.1 dX3_init_0 rfl (lv_at hl 0 rfl) ?_
  refine mm_rob X hl ml_X3_3 (by decide) (Nat.le_of_ble_eq_true rfl) dX3_init_1 ?_
  refine lv_aload_n X.1 X.2.1 dX3_init_4 rfl (lv_at hl 0 rfl) ?_
  refine lv_sipush (v := 200) X.1 X.2.1 dX3_init_5 (by decide) ?_
  refine mm_rnai (N := 200) X I ac_int (by decide) (by decide) (by decide) (show _ ≤ 1 by omega) (show _ ≤ 200 by omega) dX3_init_8 h (fun v1 M H I h => ?_)
  refine mm_rprF X I fl_X3_9 hnm rfl dX3_init_10 rfl rfl h (fun M H locs I h => ?_)
  refine lv_aload_n X.1 X.2.1 dX3_init_13 rfl (lv_at hl 0 rfl) ?_
  refine lv_aload_n X.1 X.2.1 dX3_init_14 rfl (lv_at hl 1 rfl) ?_
  refine mm_rprF X I fl_X3_15 hnm rfl dX3_init_15 rfl rfl h (fun M H locs I h => ?_)
  refine W.widen (k := 1) (n := 200) (by omega) (by omega) ?_
  exact mm_xv X I hr hlk dX3_init_18 h
set_option maxHeartbeats 4000000 in
set_option maxRecDepth 100000 in
theorem kX7_init {l : Launch} {D : va_G} {dA : Nat → ClassId} {lo : Nat} {n : Nat} {M : mm_M} {a0 : Nat} (o : mm_M) (h : pX7_init n M a0 = some o) : mm_MetN l D dA lo yX7_init cX7_init 1 none 2 32 2 22 [.ref a0] M none o := by
  unfold pX7_init at h
  refine mm_enterN (by decide) (Nat.le_of_ble_eq_true rfl) (fun p e s m args below meth c ls X NN hr hlk hnm I hl => ?_)
  have X : mm_C D dA lo cX7_init RX7 1 p s m args c := X
  have hl : lv_has ls 1 [(0, .ref a0)] := hl
  refine lv_aload_n X.1 X.2.1 dX7_init_0 rfl (lv_at hl 0 rfl) ?_
  refine mm_rob X hl ml_X7_1 (by decide) (Nat.le_of_ble_eq_true rfl) dX7_init_1 ?_
  refine lv_aload_n X.1 X.2.1 dX7_init_4 rfl (lv_at hl 0 rfl) ?_
  refine mm_rnew X I nw_X7_7 (show _ ≤ 2 by omega) (show _ ≤ 22 by omega) dX7_init_5 h (fun v1 M H I h => ?_)
  refine lv_dup X.1 X.2.1 dX7_init_8 rfl ?_
  refine mm_cI X NN I hl (As := []) md_X5_init mi_X5_init rfl (Or.inr (by decide +kernel)) (kX5_init (n := n)) (by decide) (show _ ≤ 2 by omega) (show _ ≤ 22 by omega) rfl rfl (Nat.le_of_ble_eq_true rfl) dX7_init_9 h (fun M H locs I h => ?_)
  refine mm_rprF X I fl_X7_10 hnm rfl dX7_init_12 rfl rfl h (fun M H locs I h => ?_)
  refine W.widen (k := 2) (n := 22) (by omega) (by omega) ?_
  exact mm_xv X I hr hlk dX7_init_15 h
set_option maxHeartbeats 4000000 in
set_option maxRecDepth 100000 in
theorem wpX4_init_l15 {p : Program} {l : Launch} {e : Env} {s : State} {m : MethodId} {args : Array Value} {below : List Frame} {meth : Method} {c : Code} {D : va_G} {dA : Nat → ClassId} {lo : Nat} (X : mm_C D dA lo cX4_init RX4 2 p s m args c) (NN : mm_N s) (hr : meth.sig.returnType = none) (hlk : meth.locks = false) (hnm : meth.name = "<init>") (n : Nat) {o : mm_M} (k : Nat) : ∀ (cells slots : Nat) (M : mm_M) (a0 : Nat) (x1 : Int32) (H : Heap) (locs : List Loc) (ls : Array Slot), cells + 3 * k ≤ 40 → slots + 26 * k ≤ 350 → mm_I D dA lo s M H locs → lv_has ls 2 [(0, .ref a0), (1, .int x1)] → pX4_init_l15 n k M a0 x1 = some o → W p l e (mm_rm 3 52 40 350) s m args below meth c H locs cells slots (MQ below (mm_Q D dA lo none o) args s 40 350 (mm_fr lo)) (F0 m 15 ls []) := by
  induction k with
  | zero =>
    intro cells slots M a0 x1 H locs ls hcc hss I hl h
    have h : (none : Option mm_M) = some o := h
    cases h
  | succ k ih =>
    intro cells slots M a0 x1 H locs ls hcc hss I hl h
    have h : pX4_init_l15b n (pX4_init_l15 n k) M a0 x1 = some o := h
    unfold pX4_init_l15b at h
    refine lv_iload_n X.1 X.2.1 dX4_init_15 rfl (lv_at hl 1 rfl) ?_
    refine lv_aload_n X.1 X.2.1 dX4_init_16 rfl (lv_at hl 0 rfl) ?_
    refine mm_rgr X I fl_X4_11 dX4_init_17 h (fun v1 h => ?_)
    refine mm_rlen X I dX4_init_20 h (fun v2 h => ?_)
    refine mm_kge (tgt := 43) X dX4_init_21 (by decide) h (fun h => ?_) (fun h => ?_)
    · refine W.widen (k := 40) (n := 350) (by omega) (by omega) ?_
      refine W.widen (k := 40) (n := 350) (by omega) (by omega) ?_
      exact mm_xv X I hr hlk dX4_init_43 h
    · refine lv_aload_n X.1 X.2.1 dX4_init_24 rfl (lv_at hl 0 rfl) ?_
      refine mm_rgr X I fl_X4_11 dX4_init_25 h (fun v3 h => ?_)
      refine lv_iload_n X.1 X.2.1 dX4_init_28 rfl (lv_at hl 1 rfl) ?_
      refine mm_rnew X I nw_X4_9 (show _ ≤ 40 by omega) (show _ ≤ 350 by omega) dX4_init_29 h (fun v4 M H I h => ?_)
      refine lv_dup X.1 X.2.1 dX4_init_32 rfl ?_
      refine mm_cI X NN I hl (As := []) md_X7_init mi_X7_init rfl (Or.inr (by decide +kernel)) (kX7_init (n := n)) (by decide) (show _ ≤ 40 by omega) (show _ ≤ 350 by omega) rfl rfl (Nat.le_of_ble_eq_true rfl) dX4_init_33 h (fun M H locs I h => ?_)
      refine mm_rrs X I dX4_init_36 h (fun M H locs I h => ?_)
      refine lv_iinc (v := (x1 + 1)) (lv' := [(1, .int (x1 + 1)), (0, .ref a0)]) X.1 X.2.1 dX4_init_37 hl (k := 1) rfl rfl (by decide) rfl (fun ls hl => ?_)
      refine lv_goto (tgt := 15) X.1 X.2.1 dX4_init_40 (by decide) ?_
      exact ih _ _ M _ _ _ _ _ (by omega) (by omega) I (lv_sub hl [1, 0] rfl) h
set_option maxHeartbeats 4000000 in
set_option maxRecDepth 100000 in
theorem kX4_init {l : Launch} {D : va_G} {dA : Nat → ClassId} {lo : Nat} {n : Nat} {M : mm_M} {a0 : Nat} (o : mm_M) (h : pX4_init n M a0 = some o) : mm_MetN l D dA lo yX4_init cX4_init 2 none 3 52 40 350 [.ref a0] M none o := by
  unfold pX4_init at h
  refine mm_enterN (by decide) (Nat.le_of_ble_eq_true rfl) (fun p e s m args below meth c ls X NN hr hlk hnm I hl => ?_)
  have X : mm_C D dA lo cX4_init RX4 2 p s m args c := X
  have hl : lv_has ls 2 [(0, .ref a0)] := hl
  refine lv_aload_n X.1 X.2.1 dX4_init_0 rfl (lv_at hl 0 rfl) ?_
  refine mm_rob X hl ml_X4_3 (by decide) (Nat.le_of_ble_eq_true rfl) dX4_init_1 ?_
  refine lv_aload_n X.1 X.2.1 dX4_init_4 rfl (lv_at hl 0 rfl) ?_
  refine lv_bipush (v := 12) X.1 X.2.1 dX4_init_5 (by decide) ?_
  refine mm_rnar (t := 3) (N := 12) X NN I (show RX7 ∈ mm_ovs by decide +kernel) (by decide) rfl clk_X4_9 (by decide) (by decide) (by decide) (show _ ≤ 40 by omega) (show _ ≤ 350 by omega) dX4_init_7 h (fun v1 M H I h => ?_)
  refine mm_rprF X I fl_X4_11 hnm rfl dX4_init_10 rfl rfl h (fun M H locs I h => ?_)
  refine lv_iconst (v := 0) X.1 X.2.1 dX4_init_13 (by decide) ?_
  refine lv_istore_n (lv' := [(1, .int 0), (0, .ref a0)]) X.1 X.2.1 dX4_init_14 rfl hl (by decide) rfl (fun ls hl => ?_)
  exact wpX4_init_l15 X NN hr hlk hnm n 13 _ _ M _ _ _ _ _ (by omega) (by omega) I (lv_sub hl [1, 0] rfl) h
set_option maxHeartbeats 4000000 in
set_option maxRecDepth 100000 in
theorem wpX6_init_l72 {p : Program} {l : Launch} {e : Env} {s : State} {m : MethodId} {args : Array Value} {below : List Frame} {meth : Method} {c : Code} {D : va_G} {dA : Nat → ClassId} {lo : Nat} (X : mm_C D dA lo cX6_init RX6 2 p s m args c) (NN : mm_N s) (hr : meth.sig.returnType = none) (hlk : meth.locks = false) (hnm : meth.name = "<init>") (n : Nat) {o : mm_M} (k : Nat) : ∀ (cells slots : Nat) (M : mm_M) (a0 : Nat) (x1 : Int32) (H : Heap) (locs : List Loc) (ls : Array Slot), cells + 8 * k ≤ 72 → slots + 73 * k ≤ 762 → mm_I D dA lo s M H locs → lv_has ls 2 [(0, .ref a0), (1, .int x1)] → pX6_init_l72 n k M a0 x1 = some o → W p l e (mm_rm 4 72 72 762) s m args below meth c H locs cells slots (MQ below (mm_Q D dA lo none o) args s 72 762 (mm_fr lo)) (F0 m 72 ls []) := by
  induction k with
  | zero =>
    intro cells slots M a0 x1 H locs ls hcc hss I hl h
    have h : (none : Option mm_M) = some o := h
    cases h
  | succ k ih =>
    intro cells slots M a0 x1 H locs ls hcc hss I hl h
    have h : pX6_init_l72b n (pX6_init_l72 n k) M a0 x1 = some o := h
    unfold pX6_init_l72b at h
    refine lv_iload_n X.1 X.2.1 dX6_init_72 rfl (lv_at hl 1 rfl) ?_
    refine lv_aload_n X.1 X.2.1 dX6_init_73 rfl (lv_at hl 0 rfl) ?_
    refine mm_rgr X I fl_X6_19 dX6_init_74 h (fun v1 h => ?_)
    refine mm_rlen X I dX6_init_77 h (fun v2 h => ?_)
    refine mm_kge (tgt := 100) X dX6_init_78 (by decide) h (fun h => ?_) (fun h => ?_)
    · refine W.widen (k := 72) (n := 762) (by omega) (by omega) ?_
      refine W.widen (k := 72) (n := 762) (by omega) (by omega) ?_
      exact mm_xv X I hr hlk dX6_init_100 h
    · refine lv_aload_n X.1 X.2.1 dX6_init_81 rfl (lv_at hl 0 rfl) ?_
      refine mm_rgr X I fl_X6_19 dX6_init_82 h (fun v3 h => ?_)
      refine lv_iload_n X.1 X.2.1 dX6_init_85 rfl (lv_at hl 1 rfl) ?_
      refine mm_rnew X I nw_X6_17 (show _ ≤ 72 by omega) (show _ ≤ 762 by omega) dX6_init_86 h (fun v4 M H I h => ?_)
      refine lv_dup X.1 X.2.1 dX6_init_89 rfl ?_
      refine mm_cI X NN I hl (As := []) md_X0_init mi_X0_init rfl (Or.inr (by decide +kernel)) (kX0_init (n := n)) (by decide) (show _ ≤ 72 by omega) (show _ ≤ 762 by omega) rfl rfl (Nat.le_of_ble_eq_true rfl) dX6_init_90 h (fun M H locs I h => ?_)
      refine mm_rrs X I dX6_init_93 h (fun M H locs I h => ?_)
      refine lv_iinc (v := (x1 + 1)) (lv' := [(1, .int (x1 + 1)), (0, .ref a0)]) X.1 X.2.1 dX6_init_94 hl (k := 1) rfl rfl (by decide) rfl (fun ls hl => ?_)
      refine lv_goto (tgt := 72) X.1 X.2.1 dX6_init_97 (by decide) ?_
      exact ih _ _ M _ _ _ _ _ (by omega) (by omega) I (lv_sub hl [1, 0] rfl) h
set_option maxHeartbeats 4000000 in
set_option maxRecDepth 100000 in
theorem wpX6_init_l42 {p : Program} {l : Launch} {e : Env} {s : State} {m : MethodId} {args : Array Value} {below : List Frame} {meth : Method} {c : Code} {D : va_G} {dA : Nat → ClassId} {lo : Nat} (X : mm_C D dA lo cX6_init RX6 2 p s m args c) (NN : mm_N s) (hr : meth.sig.returnType = none) (hlk : meth.locks = false) (hnm : meth.name = "<init>") (n : Nat) {o : mm_M} (k : Nat) : ∀ (cells slots : Nat) (M : mm_M) (a0 : Nat) (x1 : Int32) (H : Heap) (locs : List Loc) (ls : Array Slot), cells + 3 * k ≤ 40 → slots + 24 * k ≤ 470 → mm_I D dA lo s M H locs → lv_has ls 2 [(0, .ref a0), (1, .int x1)] → pX6_init_l42 n k M a0 x1 = some o → W p l e (mm_rm 4 72 72 762) s m args below meth c H locs cells slots (MQ below (mm_Q D dA lo none o) args s 72 762 (mm_fr lo)) (F0 m 42 ls []) := by
  induction k with
  | zero =>
    intro cells slots M a0 x1 H locs ls hcc hss I hl h
    have h : (none : Option mm_M) = some o := h
    cases h
  | succ k ih =>
    intro cells slots M a0 x1 H locs ls hcc hss I hl h
    have h : pX6_init_l42b n (pX6_init_l42 n k) M a0 x1 = some o := h
    unfold pX6_init_l42b at h
    refine lv_iload_n X.1 X.2.1 dX6_init_42 rfl (lv_at hl 1 rfl) ?_
    refine lv_aload_n X.1 X.2.1 dX6_init_43 rfl (lv_at hl 0 rfl) ?_
    refine mm_rgr X I fl_X6_11 dX6_init_44 h (fun v1 h => ?_)
    refine mm_rlen X I dX6_init_47 h (fun v2 h => ?_)
    refine mm_kge (tgt := 70) X dX6_init_48 (by decide) h (fun h => ?_) (fun h => ?_)
    · refine W.widen (k := 40) (n := 470) (by omega) (by omega) ?_
      refine lv_iconst (v := 0) X.1 X.2.1 dX6_init_70 (by decide) ?_
      refine lv_istore_n (lv' := [(1, .int 0), (0, .ref a0)]) X.1 X.2.1 dX6_init_71 rfl hl (by decide) rfl (fun ls hl => ?_)
      exact wpX6_init_l72 X NN hr hlk hnm n 4 _ _ M _ _ _ _ _ (by omega) (by omega) I (lv_sub hl [1, 0] rfl) h
    · refine lv_aload_n X.1 X.2.1 dX6_init_51 rfl (lv_at hl 0 rfl) ?_
      refine mm_rgr X I fl_X6_11 dX6_init_52 h (fun v3 h => ?_)
      refine lv_iload_n X.1 X.2.1 dX6_init_55 rfl (lv_at hl 1 rfl) ?_
      refine mm_rnew X I nw_X6_9 (show _ ≤ 72 by omega) (show _ ≤ 762 by omega) dX6_init_56 h (fun v4 M H I h => ?_)
      refine lv_dup X.1 X.2.1 dX6_init_59 rfl ?_
      refine mm_cI X NN I hl (As := []) md_X2_init mi_X2_init rfl (Or.inr (by decide +kernel)) (kX2_init (n := n)) (by decide) (show _ ≤ 72 by omega) (show _ ≤ 762 by omega) rfl rfl (Nat.le_of_ble_eq_true rfl) dX6_init_60 h (fun M H locs I h => ?_)
      refine mm_rrs X I dX6_init_63 h (fun M H locs I h => ?_)
      refine lv_iinc (v := (x1 + 1)) (lv' := [(1, .int (x1 + 1)), (0, .ref a0)]) X.1 X.2.1 dX6_init_64 hl (k := 1) rfl rfl (by decide) rfl (fun ls hl => ?_)
      refine lv_goto (tgt := 42) X.1 X.2.1 dX6_init_67 (by decide) ?_
      exact ih _ _ M _ _ _ _ _ (by omega) (by omega) I (lv_sub hl [1, 0] rfl) h
set_option maxHeartbeats 4000000 in
set_option maxRecDepth 100000 in
theorem kX6_init {l : Launch} {D : va_G} {dA : Nat → ClassId} {lo : Nat} {n : Nat} {M : mm_M} {a0 : Nat} (o : mm_M) (h : pX6_init n M a0 = some o) : mm_MetN l D dA lo yX6_init cX6_init 2 none 4 72 72 762 [.ref a0] M none o := by
  unfold pX6_init at h
  refine mm_enterN (by decide) (Nat.le_of_ble_eq_true rfl) (fun p e s m args below meth c ls X NN hr hlk hnm I hl => ?_)
  have X : mm_C D dA lo cX6_init RX6 2 p s m args c := X
  have hl : lv_has ls 2 [(0, .ref a0)] := hl
  refine lv_aload_n X.1 X.2.1 dX6_init_0 rfl (lv_at hl 0 rfl) ?_
  refine mm_rob X hl ml_X6_3 (by decide) (Nat.le_of_ble_eq_true rfl) dX6_init_1 ?_
  refine lv_aload_n X.1 X.2.1 dX6_init_4 rfl (lv_at hl 0 rfl) ?_
  refine lv_bipush (v := 10) X.1 X.2.1 dX6_init_5 (by decide) ?_
  refine mm_rnar (t := 0) (N := 10) X NN I (show RX2 ∈ mm_ovs by decide +kernel) (by decide) rfl clk_X6_9 (by decide) (by decide) (by decide) (show _ ≤ 72 by omega) (show _ ≤ 762 by omega) dX6_init_7 h (fun v1 M H I h => ?_)
  refine mm_rprF X I fl_X6_11 hnm rfl dX6_init_10 rfl rfl h (fun M H locs I h => ?_)
  refine lv_aload_n X.1 X.2.1 dX6_init_13 rfl (lv_at hl 0 rfl) ?_
  refine lv_iconst (v := 3) X.1 X.2.1 dX6_init_14 (by decide) ?_
  refine mm_rnar (t := 1) (N := 3) X NN I (show RX0 ∈ mm_ovs by decide +kernel) (by decide) rfl clk_X6_17 (by decide) (by decide) (by decide) (show _ ≤ 72 by omega) (show _ ≤ 762 by omega) dX6_init_15 h (fun v2 M H I h => ?_)
  refine mm_rprF X I fl_X6_19 hnm rfl dX6_init_18 rfl rfl h (fun M H locs I h => ?_)
  refine lv_aload_n X.1 X.2.1 dX6_init_21 rfl (lv_at hl 0 rfl) ?_
  refine mm_rnew X I nw_X6_23 (show _ ≤ 72 by omega) (show _ ≤ 762 by omega) dX6_init_22 h (fun v3 M H I h => ?_)
  refine lv_dup X.1 X.2.1 dX6_init_25 rfl ?_
  refine mm_cI X NN I hl (As := []) md_X1_init mi_X1_init rfl (Or.inr (by decide +kernel)) (kX1_init (n := n)) (by decide) (show _ ≤ 72 by omega) (show _ ≤ 762 by omega) rfl rfl (Nat.le_of_ble_eq_true rfl) dX6_init_26 h (fun M H locs I h => ?_)
  refine mm_rprF X I fl_X6_26 hnm rfl dX6_init_29 rfl rfl h (fun M H locs I h => ?_)
  refine lv_aload_n X.1 X.2.1 dX6_init_32 rfl (lv_at hl 0 rfl) ?_
  refine lv_bipush (v := 9) X.1 X.2.1 dX6_init_33 (by decide) ?_
  refine mm_rnai (N := 9) X I ac_int (by decide) (by decide) (by decide) (show _ ≤ 72 by omega) (show _ ≤ 762 by omega) dX6_init_35 h (fun v4 M H I h => ?_)
  refine mm_rprF X I fl_X6_30 hnm rfl dX6_init_37 rfl rfl h (fun M H locs I h => ?_)
  refine lv_iconst (v := 0) X.1 X.2.1 dX6_init_40 (by decide) ?_
  refine lv_istore_n (lv' := [(1, .int 0), (0, .ref a0)]) X.1 X.2.1 dX6_init_41 rfl hl (by decide) rfl (fun ls hl => ?_)
  exact wpX6_init_l42 X NN hr hlk hnm n 11 _ _ M _ _ _ _ _ (by omega) (by omega) I (lv_sub hl [1, 0] rfl) h
set_option maxHeartbeats 4000000 in
set_option maxRecDepth 100000 in
theorem kX8_init {l : Launch} {D : va_G} {dA : Nat → ClassId} {lo : Nat} {n : Nat} {M : mm_M} {a0 : Nat} (o : mm_M) (h : pX8_init n M a0 = some o) : mm_MetN l D dA lo yX8_init cX8_init 1 none 1 12 1 240 [.ref a0] M none o := by
  unfold pX8_init at h
  refine mm_enterN (by decide) (Nat.le_of_ble_eq_true rfl) (fun p e s m args below meth c ls X NN hr hlk hnm I hl => ?_)
  have X : mm_C D dA lo cX8_init RX8 1 p s m args c := X
  have hl : lv_has ls 1 [(0, .ref a0)] := hl
  refine lv_aload_n X.1 X.2.1 dX8_init_0 rfl (lv_at hl 0 rfl) ?_
  refine mm_rob X hl ml_X8_3 (by decide) (Nat.le_of_ble_eq_true rfl) dX8_init_1 ?_
  refine lv_aload_n X.1 X.2.1 dX8_init_4 rfl (lv_at hl 0 rfl) ?_
  refine lv_sipush (v := 240) X.1 X.2.1 dX8_init_5 (by decide) ?_
  refine mm_rnai (N := 240) X I ac_int (by decide) (by decide) (by decide) (show _ ≤ 1 by omega) (show _ ≤ 240 by omega) dX8_init_8 h (fun v1 M H I h => ?_)
  refine mm_rprF X I fl_X8_9 hnm rfl dX8_init_10 rfl rfl h (fun M H locs I h => ?_)
  refine W.widen (k := 1) (n := 240) (by omega) (by omega) ?_
  exact mm_xv X I hr hlk dX8_init_13 h
set_option maxHeartbeats 4000000 in
set_option maxRecDepth 100000 in
theorem wpX9_init_l174 {p : Program} {l : Launch} {e : Env} {s : State} {m : MethodId} {args : Array Value} {below : List Frame} {meth : Method} {c : Code} {D : va_G} {dA : Nat → ClassId} {lo : Nat} (X : mm_C D dA lo cX9_init RX9 3 p s m args c) (NN : mm_N s) (hr : meth.sig.returnType = none) (hlk : meth.locks = false) (hnm : meth.name = "<init>") (n : Nat) {o : mm_M} (k : Nat) : ∀ (cells slots : Nat) (M : mm_M) (a0 : Nat) (x2 : Int32) (H : Heap) (locs : List Loc) (ls : Array Slot), cells + 41 * k ≤ 3476 → slots + 352 * k ≤ 36696 → mm_I D dA lo s M H locs → lv_has ls 3 [(0, .ref a0), (2, .int x2)] → pX9_init_l174 n k M a0 x2 = some o → W p l e (mm_rm 5 93 3476 36696) s m args below meth c H locs cells slots (MQ below (mm_Q D dA lo none o) args s 3476 36696 (mm_fr lo)) (F0 m 174 ls []) := by
  induction k with
  | zero =>
    intro cells slots M a0 x2 H locs ls hcc hss I hl h
    have h : (none : Option mm_M) = some o := h
    cases h
  | succ k ih =>
    intro cells slots M a0 x2 H locs ls hcc hss I hl h
    have h : pX9_init_l174b n (pX9_init_l174 n k) M a0 x2 = some o := h
    unfold pX9_init_l174b at h
    refine lv_iload_n X.1 X.2.1 dX9_init_174 rfl (lv_at hl 1 rfl) ?_
    refine lv_aload_n X.1 X.2.1 dX9_init_175 rfl (lv_at hl 0 rfl) ?_
    refine mm_rgr X I fl_X9_52 dX9_init_176 h (fun v1 h => ?_)
    refine mm_rlen X I dX9_init_179 h (fun v2 h => ?_)
    refine mm_kge (tgt := 202) X dX9_init_180 (by decide) h (fun h => ?_) (fun h => ?_)
    · refine W.widen (k := 3476) (n := 36696) (by omega) (by omega) ?_
      refine W.widen (k := 3476) (n := 36696) (by omega) (by omega) ?_
      exact mm_xv X I hr hlk dX9_init_202 h
    · refine lv_aload_n X.1 X.2.1 dX9_init_183 rfl (lv_at hl 0 rfl) ?_
      refine mm_rgr X I fl_X9_52 dX9_init_184 h (fun v3 h => ?_)
      refine lv_iload_n X.1 X.2.1 dX9_init_187 rfl (lv_at hl 1 rfl) ?_
      refine mm_rnew X I nw_X9_50 (show _ ≤ 3476 by omega) (show _ ≤ 36696 by omega) dX9_init_188 h (fun v4 M H I h => ?_)
      refine lv_dup X.1 X.2.1 dX9_init_191 rfl ?_
      refine mm_cI X NN I hl (As := []) md_X4_init mi_X4_init rfl (Or.inl ml_X9_75) (kX4_init (n := n)) (by decide) (show _ ≤ 3476 by omega) (show _ ≤ 36696 by omega) rfl rfl (Nat.le_of_ble_eq_true rfl) dX9_init_192 h (fun M H locs I h => ?_)
      refine mm_rrs X I dX9_init_195 h (fun M H locs I h => ?_)
      refine lv_iinc (v := (x2 + 1)) (lv' := [(2, .int (x2 + 1)), (0, .ref a0)]) X.1 X.2.1 dX9_init_196 hl (k := 1) rfl rfl (by decide) rfl (fun ls hl => ?_)
      refine lv_goto (tgt := 174) X.1 X.2.1 dX9_init_199 (by decide) ?_
      exact ih _ _ M _ _ _ _ _ (by omega) (by omega) I (lv_sub hl [1, 0] rfl) h
set_option maxHeartbeats 4000000 in
set_option maxRecDepth 100000 in
theorem wpX9_init_l144 {p : Program} {l : Launch} {e : Env} {s : State} {m : MethodId} {args : Array Value} {below : List Frame} {meth : Method} {c : Code} {D : va_G} {dA : Nat → ClassId} {lo : Nat} (X : mm_C D dA lo cX9_init RX9 3 p s m args c) (NN : mm_N s) (hr : meth.sig.returnType = none) (hlk : meth.locks = false) (hnm : meth.name = "<init>") (n : Nat) {o : mm_M} (k : Nat) : ∀ (cells slots : Nat) (M : mm_M) (a0 : Nat) (x2 : Int32) (H : Heap) (locs : List Loc) (ls : Array Slot), cells + 73 * k ≤ 3230 → slots + 768 * k ≤ 34584 → mm_I D dA lo s M H locs → lv_has ls 3 [(0, .ref a0), (2, .int x2)] → pX9_init_l144 n k M a0 x2 = some o → W p l e (mm_rm 5 93 3476 36696) s m args below meth c H locs cells slots (MQ below (mm_Q D dA lo none o) args s 3476 36696 (mm_fr lo)) (F0 m 144 ls []) := by
  induction k with
  | zero =>
    intro cells slots M a0 x2 H locs ls hcc hss I hl h
    have h : (none : Option mm_M) = some o := h
    cases h
  | succ k ih =>
    intro cells slots M a0 x2 H locs ls hcc hss I hl h
    have h : pX9_init_l144b n (pX9_init_l144 n k) M a0 x2 = some o := h
    unfold pX9_init_l144b at h
    refine lv_iload_n X.1 X.2.1 dX9_init_144 rfl (lv_at hl 1 rfl) ?_
    refine lv_aload_n X.1 X.2.1 dX9_init_145 rfl (lv_at hl 0 rfl) ?_
    refine mm_rgr X I fl_X9_26 dX9_init_146 h (fun v1 h => ?_)
    refine mm_rlen X I dX9_init_149 h (fun v2 h => ?_)
    refine mm_kge (tgt := 172) X dX9_init_150 (by decide) h (fun h => ?_) (fun h => ?_)
    · refine W.widen (k := 3230) (n := 34584) (by omega) (by omega) ?_
      refine lv_iconst (v := 0) X.1 X.2.1 dX9_init_172 (by decide) ?_
      refine lv_istore_n (lv' := [(2, .int 0), (0, .ref a0)]) X.1 X.2.1 dX9_init_173 rfl hl (by decide) rfl (fun ls hl => ?_)
      exact wpX9_init_l174 X NN hr hlk hnm n 6 _ _ M _ _ _ _ _ (by omega) (by omega) I (lv_sub hl [1, 0] rfl) h
    · refine lv_aload_n X.1 X.2.1 dX9_init_153 rfl (lv_at hl 0 rfl) ?_
      refine mm_rgr X I fl_X9_26 dX9_init_154 h (fun v3 h => ?_)
      refine lv_iload_n X.1 X.2.1 dX9_init_157 rfl (lv_at hl 1 rfl) ?_
      refine mm_rnew X I nw_X9_16 (show _ ≤ 3476 by omega) (show _ ≤ 36696 by omega) dX9_init_158 h (fun v4 M H I h => ?_)
      refine lv_dup X.1 X.2.1 dX9_init_161 rfl ?_
      refine mm_cI X NN I hl (As := []) md_X6_init mi_X6_init rfl (Or.inl ml_X9_18) (kX6_init (n := n)) (by decide) (show _ ≤ 3476 by omega) (show _ ≤ 36696 by omega) rfl rfl (Nat.le_of_ble_eq_true rfl) dX9_init_162 h (fun M H locs I h => ?_)
      refine mm_rrs X I dX9_init_165 h (fun M H locs I h => ?_)
      refine lv_iinc (v := (x2 + 1)) (lv' := [(2, .int (x2 + 1)), (0, .ref a0)]) X.1 X.2.1 dX9_init_166 hl (k := 1) rfl rfl (by decide) rfl (fun ls hl => ?_)
      refine lv_goto (tgt := 144) X.1 X.2.1 dX9_init_169 (by decide) ?_
      exact ih _ _ M _ _ _ _ _ (by omega) (by omega) I (lv_sub hl [1, 0] rfl) h
set_option maxHeartbeats 4000000 in
set_option maxRecDepth 100000 in
theorem kX9_init {l : Launch} {D : va_G} {dA : Nat → ClassId} {lo : Nat} {n : Nat} {M : mm_M} {a0 : Nat} (o : mm_M) (h : pX9_init n M a0 = some o) : mm_MetN l D dA lo yX9_init cX9_init 3 none 5 93 3476 36696 [.ref a0] M none o := by
  unfold pX9_init at h
  refine mm_enterN (by decide) (Nat.le_of_ble_eq_true rfl) (fun p e s m args below meth c ls X NN hr hlk hnm I hl => ?_)
  have X : mm_C D dA lo cX9_init RX9 3 p s m args c := X
  have hl : lv_has ls 3 [(0, .ref a0)] := hl
  refine lv_aload_n X.1 X.2.1 dX9_init_0 rfl (lv_at hl 0 rfl) ?_
  refine mm_rob X hl ml_X9_1 (by decide) (Nat.le_of_ble_eq_true rfl) dX9_init_1 ?_
  refine lv_aload_n X.1 X.2.1 dX9_init_4 rfl (lv_at hl 0 rfl) ?_
  refine mm_rnew X I nw_X9_7 (show _ ≤ 3476 by omega) (show _ ≤ 36696 by omega) dX9_init_5 h (fun v1 M H I h => ?_)
  refine lv_dup X.1 X.2.1 dX9_init_8 rfl ?_
  refine mm_cI X NN I hl (As := []) md_X8_init mi_X8_init rfl (Or.inr (by decide +kernel)) (kX8_init (n := n)) (by decide) (show _ ≤ 3476 by omega) (show _ ≤ 36696 by omega) rfl rfl (Nat.le_of_ble_eq_true rfl) dX9_init_9 h (fun M H locs I h => ?_)
  refine mm_rprF X I fl_X9_10 hnm rfl dX9_init_12 rfl rfl h (fun M H locs I h => ?_)
  refine lv_aload_n X.1 X.2.1 dX9_init_15 rfl (lv_at hl 0 rfl) ?_
  refine mm_rnew X I nw_X9_16 (show _ ≤ 3476 by omega) (show _ ≤ 36696 by omega) dX9_init_16 h (fun v2 M H I h => ?_)
  refine lv_dup X.1 X.2.1 dX9_init_19 rfl ?_
  refine mm_cI X NN I hl (As := []) md_X6_init mi_X6_init rfl (Or.inl ml_X9_18) (kX6_init (n := n)) (by decide) (show _ ≤ 3476 by omega) (show _ ≤ 36696 by omega) rfl rfl (Nat.le_of_ble_eq_true rfl) dX9_init_20 h (fun M H locs I h => ?_)
  refine mm_rprF X I fl_X9_19 hnm rfl dX9_init_23 rfl rfl h (fun M H locs I h => ?_)
  refine lv_aload_n X.1 X.2.1 dX9_init_26 rfl (lv_at hl 0 rfl) ?_
  refine mm_rnew X I nw_X9_16 (show _ ≤ 3476 by omega) (show _ ≤ 36696 by omega) dX9_init_27 h (fun v3 M H I h => ?_)
  refine lv_dup X.1 X.2.1 dX9_init_30 rfl ?_
  refine mm_cI X NN I hl (As := []) md_X6_init mi_X6_init rfl (Or.inl ml_X9_18) (kX6_init (n := n)) (by decide) (show _ ≤ 3476 by omega) (show _ ≤ 36696 by omega) rfl rfl (Nat.le_of_ble_eq_true rfl) dX9_init_31 h (fun M H locs I h => ?_)
  refine mm_rprF X I fl_X9_23 hnm rfl dX9_init_34 rfl rfl h (fun M H locs I h => ?_)
  refine lv_aload_n X.1 X.2.1 dX9_init_37 rfl (lv_at hl 0 rfl) ?_
  refine lv_bipush (v := 40) X.1 X.2.1 dX9_init_38 (by decide) ?_
  refine mm_rnar (t := 2) (N := 40) X NN I (show RX6 ∈ mm_ovs by decide +kernel) (by decide) rfl clk_X9_16 (by decide) (by decide) (by decide) (show _ ≤ 3476 by omega) (show _ ≤ 36696 by omega) dX9_init_40 h (fun v4 M H I h => ?_)
  refine mm_rprF X I fl_X9_26 hnm rfl dX9_init_43 rfl rfl h (fun M H locs I h => ?_)
  refine lv_aload_n X.1 X.2.1 dX9_init_46 rfl (lv_at hl 0 rfl) ?_
  refine mm_rnew X I nw_X9_30 (show _ ≤ 3476 by omega) (show _ ≤ 36696 by omega) dX9_init_47 h (fun v5 M H I h => ?_)
  refine lv_dup X.1 X.2.1 dX9_init_50 rfl ?_
  refine mm_cI X NN I hl (As := []) md_X5_init mi_X5_init rfl (Or.inr (by decide +kernel)) (kX5_init (n := n)) (by decide) (show _ ≤ 3476 by omega) (show _ ≤ 36696 by omega) rfl rfl (Nat.le_of_ble_eq_true rfl) dX9_init_51 h (fun M H locs I h => ?_)
  refine mm_rprF X I fl_X9_33 hnm rfl dX9_init_54 rfl rfl h (fun M H locs I h => ?_)
  refine lv_aload_n X.1 X.2.1 dX9_init_57 rfl (lv_at hl 0 rfl) ?_
  refine mm_rnew X I nw_X9_30 (show _ ≤ 3476 by omega) (show _ ≤ 36696 by omega) dX9_init_58 h (fun v6 M H I h => ?_)
  refine lv_dup X.1 X.2.1 dX9_init_61 rfl ?_
  refine mm_cI X NN I hl (As := []) md_X5_init mi_X5_init rfl (Or.inr (by decide +kernel)) (kX5_init (n := n)) (by decide) (show _ ≤ 3476 by omega) (show _ ≤ 36696 by omega) rfl rfl (Nat.le_of_ble_eq_true rfl) dX9_init_62 h (fun M H locs I h => ?_)
  refine mm_rprF X I fl_X9_37 hnm rfl dX9_init_65 rfl rfl h (fun M H locs I h => ?_)
  refine lv_aload_n X.1 X.2.1 dX9_init_68 rfl (lv_at hl 0 rfl) ?_
  refine mm_rnew X I nw_X9_30 (show _ ≤ 3476 by omega) (show _ ≤ 36696 by omega) dX9_init_69 h (fun v7 M H I h => ?_)
  refine lv_dup X.1 X.2.1 dX9_init_72 rfl ?_
  refine mm_cI X NN I hl (As := []) md_X5_init mi_X5_init rfl (Or.inr (by decide +kernel)) (kX5_init (n := n)) (by decide) (show _ ≤ 3476 by omega) (show _ ≤ 36696 by omega) rfl rfl (Nat.le_of_ble_eq_true rfl) dX9_init_73 h (fun M H locs I h => ?_)
  refine mm_rprF X I fl_X9_40 hnm rfl dX9_init_76 rfl rfl h (fun M H locs I h => ?_)
  refine lv_aload_n X.1 X.2.1 dX9_init_79 rfl (lv_at hl 0 rfl) ?_
  refine mm_rnew X I nw_X9_43 (show _ ≤ 3476 by omega) (show _ ≤ 36696 by omega) dX9_init_80 h (fun v8 M H I h => ?_)
  refine lv_dup X.1 X.2.1 dX9_init_83 rfl ?_
  refine mm_cI X NN I hl (As := []) md_X7_init mi_X7_init rfl (Or.inr (by decide +kernel)) (kX7_init (n := n)) (by decide) (show _ ≤ 3476 by omega) (show _ ≤ 36696 by omega) rfl rfl (Nat.le_of_ble_eq_true rfl) dX9_init_84 h (fun M H locs I h => ?_)
  refine mm_rprF X I fl_X9_46 hnm rfl dX9_init_87 rfl rfl h (fun M H locs I h => ?_)
  refine lv_aload_n X.1 X.2.1 dX9_init_90 rfl (lv_at hl 0 rfl) ?_
  refine lv_iconst (v := 5) X.1 X.2.1 dX9_init_91 (by decide) ?_
  refine mm_rnar (t := 4) (N := 5) X NN I (show RX4 ∈ mm_ovs by decide +kernel) (by decide) rfl clk_X9_50 (by decide) (by decide) (by decide) (show _ ≤ 3476 by omega) (show _ ≤ 36696 by omega) dX9_init_92 h (fun v9 M H I h => ?_)
  refine mm_rprF X I fl_X9_52 hnm rfl dX9_init_95 rfl rfl h (fun M H locs I h => ?_)
  refine lv_aload_n X.1 X.2.1 dX9_init_98 rfl (lv_at hl 0 rfl) ?_
  refine lv_iconst (v := 4) X.1 X.2.1 dX9_init_99 (by decide) ?_
  refine mm_rnai (N := 4) X I ac_int (by decide) (by decide) (by decide) (show _ ≤ 3476 by omega) (show _ ≤ 36696 by omega) dX9_init_100 h (fun v10 M H I h => ?_)
  refine mm_rprF X I fl_X9_56 hnm rfl dX9_init_102 rfl rfl h (fun M H locs I h => ?_)
  refine mm_rnew X I nw_X9_16 (show _ ≤ 3476 by omega) (show _ ≤ 36696 by omega) dX9_init_105 h (fun v11 M H I h => ?_)
  refine lv_dup X.1 X.2.1 dX9_init_108 rfl ?_
  refine mm_cI X NN I hl (As := []) md_X6_init mi_X6_init rfl (Or.inl ml_X9_18) (kX6_init (n := n)) (by decide) (show _ ≤ 3476 by omega) (show _ ≤ 36696 by omega) rfl rfl (Nat.le_of_ble_eq_true rfl) dX9_init_109 h (fun M H locs I h => ?_)
  refine lv_astore_n (lv' := [(1, .ref v11), (0, .ref a0)]) X.1 X.2.1 dX9_init_112 rfl hl (by decide) rfl (fun ls hl => ?_)
  refine lv_aload_n X.1 X.2.1 dX9_init_113 rfl (lv_at hl 1 rfl) ?_
  refine lv_aload_n X.1 X.2.1 dX9_init_114 rfl (lv_at hl 0 rfl) ?_
  refine mm_rprF X I fl_X9_60 hnm rfl dX9_init_115 rfl rfl h (fun M H locs I h => ?_)
  refine lv_aload_n X.1 X.2.1 dX9_init_118 rfl (lv_at hl 1 rfl) ?_
  refine mm_rnew X I nw_X9_63 (show _ ≤ 3476 by omega) (show _ ≤ 36696 by omega) dX9_init_119 h (fun v12 M H I h => ?_)
  refine lv_dup X.1 X.2.1 dX9_init_122 rfl ?_
  refine lv_aload_n X.1 X.2.1 dX9_init_123 rfl (lv_at hl 0 rfl) ?_
  refine mm_cI X NN I hl (As := [.ref v11]) md_X3_init mi_X3_init rfl (Or.inl ml_X9_65) (kX3_init (n := n)) (by decide) (show _ ≤ 3476 by omega) (show _ ≤ 36696 by omega) rfl rfl (Nat.le_of_ble_eq_true rfl) dX9_init_124 h (fun M H locs I h => ?_)
  refine mm_rprF X I fl_X9_68 hnm rfl dX9_init_127 rfl rfl h (fun M H locs I h => ?_)
  refine lv_aload_n X.1 X.2.1 dX9_init_130 rfl (lv_at hl 1 rfl) ?_
  refine mm_rnew X I nw_X9_63 (show _ ≤ 3476 by omega) (show _ ≤ 36696 by omega) dX9_init_131 h (fun v13 M H I h => ?_)
  refine lv_dup X.1 X.2.1 dX9_init_134 rfl ?_
  refine lv_aload_n X.1 X.2.1 dX9_init_135 rfl (lv_at hl 0 rfl) ?_
  refine mm_cI X NN I hl (As := [.ref v11]) md_X3_init mi_X3_init rfl (Or.inl ml_X9_65) (kX3_init (n := n)) (by decide) (show _ ≤ 3476 by omega) (show _ ≤ 36696 by omega) rfl rfl (Nat.le_of_ble_eq_true rfl) dX9_init_136 h (fun M H locs I h => ?_)
  refine mm_rprF X I fl_X9_72 hnm rfl dX9_init_139 rfl rfl h (fun M H locs I h => ?_)
  refine lv_iconst (v := 0) X.1 X.2.1 dX9_init_142 (by decide) ?_
  refine lv_istore_n (lv' := [(2, .int 0), (1, .ref v11), (0, .ref a0)]) X.1 X.2.1 dX9_init_143 rfl hl (by decide) rfl (fun ls hl => ?_)
  exact wpX9_init_l144 X NN hr hlk hnm n 41 _ _ M _ _ _ _ _ (by omega) (by omega) I (lv_sub hl [2, 0] rfl) h
set_option maxHeartbeats 4000000 in
set_option maxRecDepth 100000 in
theorem kX10_init {l : Launch} {D : va_G} {dA : Nat → ClassId} {lo : Nat} {n : Nat} {M : mm_M} {a0 : Nat} (o : mm_M) (h : pX10_init n M a0 = some o) : mm_MetN l D dA lo yX10_init cX10_init 1 none 1 12 16 28886 [.ref a0] M none o := by
  unfold pX10_init at h
  refine mm_enterN (by decide) (Nat.le_of_ble_eq_true rfl) (fun p e s m args below meth c ls X NN hr hlk hnm I hl => ?_)
  have X : mm_C D dA lo cX10_init RX10 1 p s m args c := X
  have hl : lv_has ls 1 [(0, .ref a0)] := hl
  refine lv_aload_n X.1 X.2.1 dX10_init_0 rfl (lv_at hl 0 rfl) ?_
  refine mm_rob X hl ml_X10_3 (by decide) (Nat.le_of_ble_eq_true rfl) dX10_init_1 ?_
  refine lv_aload_n X.1 X.2.1 dX10_init_4 rfl (lv_at hl 0 rfl) ?_
  refine lv_sipush (v := 240) X.1 X.2.1 dX10_init_5 (by decide) ?_
  refine mm_rnai (N := 240) X I ac_int (by decide) (by decide) (by decide) (show _ ≤ 16 by omega) (show _ ≤ 28886 by omega) dX10_init_8 h (fun v1 M H I h => ?_)
  refine mm_rprF X I fl_X10_9 hnm rfl dX10_init_10 rfl rfl h (fun M H locs I h => ?_)
  refine lv_aload_n X.1 X.2.1 dX10_init_13 rfl (lv_at hl 0 rfl) ?_
  refine lv_bipush (v := 8) X.1 X.2.1 dX10_init_14 (by decide) ?_
  refine mm_rnai (N := 8) X I ac_int (by decide) (by decide) (by decide) (show _ ≤ 16 by omega) (show _ ≤ 28886 by omega) dX10_init_16 h (fun v2 M H I h => ?_)
  refine mm_rprF X I fl_X10_13 hnm rfl dX10_init_18 rfl rfl h (fun M H locs I h => ?_)
  refine lv_aload_n X.1 X.2.1 dX10_init_21 rfl (lv_at hl 0 rfl) ?_
  refine lv_sipush (v := 160) X.1 X.2.1 dX10_init_22 (by decide) ?_
  refine mm_rnai (N := 160) X I ac_int (by decide) (by decide) (by decide) (show _ ≤ 16 by omega) (show _ ≤ 28886 by omega) dX10_init_25 h (fun v3 M H I h => ?_)
  refine mm_rprF X I fl_X10_16 hnm rfl dX10_init_27 rfl rfl h (fun M H locs I h => ?_)
  refine lv_aload_n X.1 X.2.1 dX10_init_30 rfl (lv_at hl 0 rfl) ?_
  refine lv_sipush (v := 1440) X.1 X.2.1 dX10_init_31 (by decide) ?_
  refine mm_rnai (N := 1440) X I ac_int (by decide) (by decide) (by decide) (show _ ≤ 16 by omega) (show _ ≤ 28886 by omega) dX10_init_34 h (fun v4 M H I h => ?_)
  refine mm_rprF X I fl_X10_19 hnm rfl dX10_init_36 rfl rfl h (fun M H locs I h => ?_)
  refine lv_aload_n X.1 X.2.1 dX10_init_39 rfl (lv_at hl 0 rfl) ?_
  refine lv_iconst (v := 5) X.1 X.2.1 dX10_init_40 (by decide) ?_
  refine mm_rnai (N := 5) X I ac_int (by decide) (by decide) (by decide) (show _ ≤ 16 by omega) (show _ ≤ 28886 by omega) dX10_init_41 h (fun v5 M H I h => ?_)
  refine mm_rprF X I fl_X10_22 hnm rfl dX10_init_43 rfl rfl h (fun M H locs I h => ?_)
  refine lv_aload_n X.1 X.2.1 dX10_init_46 rfl (lv_at hl 0 rfl) ?_
  refine lv_bipush (v := 20) X.1 X.2.1 dX10_init_47 (by decide) ?_
  refine mm_rnai (N := 20) X I ac_int (by decide) (by decide) (by decide) (show _ ≤ 16 by omega) (show _ ≤ 28886 by omega) dX10_init_49 h (fun v6 M H I h => ?_)
  refine mm_rprF X I fl_X10_25 hnm rfl dX10_init_51 rfl rfl h (fun M H locs I h => ?_)
  refine lv_aload_n X.1 X.2.1 dX10_init_54 rfl (lv_at hl 0 rfl) ?_
  refine lv_sipush (v := 622) X.1 X.2.1 dX10_init_55 (by decide) ?_
  refine mm_rnai (N := 622) X I ac_int (by decide) (by decide) (by decide) (show _ ≤ 16 by omega) (show _ ≤ 28886 by omega) dX10_init_58 h (fun v7 M H I h => ?_)
  refine mm_rprF X I fl_X10_28 hnm rfl dX10_init_60 rfl rfl h (fun M H locs I h => ?_)
  refine lv_aload_n X.1 X.2.1 dX10_init_63 rfl (lv_at hl 0 rfl) ?_
  refine lv_iconst (v := 4) X.1 X.2.1 dX10_init_64 (by decide) ?_
  refine mm_rnai (N := 4) X I ac_int (by decide) (by decide) (by decide) (show _ ≤ 16 by omega) (show _ ≤ 28886 by omega) dX10_init_65 h (fun v8 M H I h => ?_)
  refine mm_rprF X I fl_X10_31 hnm rfl dX10_init_67 rfl rfl h (fun M H locs I h => ?_)
  refine lv_aload_n X.1 X.2.1 dX10_init_70 rfl (lv_at hl 0 rfl) ?_
  refine lv_bipush (v := 6) X.1 X.2.1 dX10_init_71 (by decide) ?_
  refine mm_rnai (N := 6) X I ac_int (by decide) (by decide) (by decide) (show _ ≤ 16 by omega) (show _ ≤ 28886 by omega) dX10_init_73 h (fun v9 M H I h => ?_)
  refine mm_rprF X I fl_X10_34 hnm rfl dX10_init_75 rfl rfl h (fun M H locs I h => ?_)
  refine lv_aload_n X.1 X.2.1 dX10_init_78 rfl (lv_at hl 0 rfl) ?_
  refine lv_sipush (v := 200) X.1 X.2.1 dX10_init_79 (by decide) ?_
  refine mm_rnai (N := 200) X I ac_int (by decide) (by decide) (by decide) (show _ ≤ 16 by omega) (show _ ≤ 28886 by omega) dX10_init_82 h (fun v10 M H I h => ?_)
  refine mm_rprF X I fl_X10_37 hnm rfl dX10_init_84 rfl rfl h (fun M H locs I h => ?_)
  refine lv_aload_n X.1 X.2.1 dX10_init_87 rfl (lv_at hl 0 rfl) ?_
  refine lv_sipush (v := 200) X.1 X.2.1 dX10_init_88 (by decide) ?_
  refine mm_rnai (N := 200) X I ac_int (by decide) (by decide) (by decide) (show _ ≤ 16 by omega) (show _ ≤ 28886 by omega) dX10_init_91 h (fun v11 M H I h => ?_)
  refine mm_rprF X I fl_X10_40 hnm rfl dX10_init_93 rfl rfl h (fun M H locs I h => ?_)
  refine lv_aload_n X.1 X.2.1 dX10_init_96 rfl (lv_at hl 0 rfl) ?_
  refine lv_sipush (v := 24880) X.1 X.2.1 dX10_init_97 (by decide) ?_
  refine mm_rnai (N := 24880) X I ac_int (by decide) (by decide) (by decide) (show _ ≤ 16 by omega) (show _ ≤ 28886 by omega) dX10_init_100 h (fun v12 M H I h => ?_)
  refine mm_rprF X I fl_X10_43 hnm rfl dX10_init_102 rfl rfl h (fun M H locs I h => ?_)
  refine lv_aload_n X.1 X.2.1 dX10_init_105 rfl (lv_at hl 0 rfl) ?_
  refine lv_bipush (v := 20) X.1 X.2.1 dX10_init_106 (by decide) ?_
  refine mm_rnai (N := 20) X I ac_int (by decide) (by decide) (by decide) (show _ ≤ 16 by omega) (show _ ≤ 28886 by omega) dX10_init_108 h (fun v13 M H I h => ?_)
  refine mm_rprF X I fl_X10_46 hnm rfl dX10_init_110 rfl rfl h (fun M H locs I h => ?_)
  refine lv_aload_n X.1 X.2.1 dX10_init_113 rfl (lv_at hl 0 rfl) ?_
  refine lv_bipush (v := 18) X.1 X.2.1 dX10_init_114 (by decide) ?_
  refine mm_rnai (N := 18) X I ac_int (by decide) (by decide) (by decide) (show _ ≤ 16 by omega) (show _ ≤ 28886 by omega) dX10_init_116 h (fun v14 M H I h => ?_)
  refine mm_rprF X I fl_X10_49 hnm rfl dX10_init_118 rfl rfl h (fun M H locs I h => ?_)
  refine lv_aload_n X.1 X.2.1 dX10_init_121 rfl (lv_at hl 0 rfl) ?_
  refine lv_sipush (v := 441) X.1 X.2.1 dX10_init_122 (by decide) ?_
  refine mm_rnai (N := 441) X I ac_int (by decide) (by decide) (by decide) (show _ ≤ 16 by omega) (show _ ≤ 28886 by omega) dX10_init_125 h (fun v15 M H I h => ?_)
  refine mm_rprF X I fl_X10_52 hnm rfl dX10_init_127 rfl rfl h (fun M H locs I h => ?_)
  refine lv_aload_n X.1 X.2.1 dX10_init_130 rfl (lv_at hl 0 rfl) ?_
  refine lv_sipush (v := 622) X.1 X.2.1 dX10_init_131 (by decide) ?_
  refine mm_rnai (N := 622) X I ac_int (by decide) (by decide) (by decide) (show _ ≤ 16 by omega) (show _ ≤ 28886 by omega) dX10_init_134 h (fun v16 M H I h => ?_)
  refine mm_rprF X I fl_X10_55 hnm rfl dX10_init_136 rfl rfl h (fun M H locs I h => ?_)
  refine W.widen (k := 16) (n := 28886) (by omega) (by omega) ?_
  exact mm_xv X I hr hlk dX10_init_139 h
