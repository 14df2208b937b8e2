set_option maxHeartbeats 4000000 in
set_option maxRecDepth 100000 in
theorem lw_loop {p : Program} {l : Launch} {e : Env} {s : State} {m : MethodId} {below : List Frame} {meth : Method} {c : Code} {D : va_G} {dA : Nat → ClassId} {b L : Nat} {xs : Nat → Int32} (hst : l.stackTraces = false) (hL : L ≤ 3072) (X : mm_C D dA s.heap.size cL_law RL 7 p s m #[Value.ref b] c) (XN : mm_XN s.heap.size s s.heap) (hX : va_X b L xs s s.heap) (hbl : b < s.heap.size) {n ax am ao : Nat} {Sim : Nat → mm_M → Prop} (hr : meth.sig.returnType = ret) (hlk : meth.locks = false) (h_feed : lw_s_feed n ax am Sim) (h_end : lw_s_end n ax am Sim) (h_fault : lw_s_fault n ax am Sim) (h_text : lw_s_text n ax am Sim) (h_word : lw_s_word n ax am Sim) (h_rule : lw_s_rule n ax am Sim) (h_sign : lw_s_sign n ax am Sim) (h_hit : lw_s_hit n ax am Sim) (h_rank : lw_s_rank n ax am Sim) (h_all : lw_s_all n ax am Sim) (h_twice : lw_s_twice n ax am Sim) (h_unlike : lw_s_unlike n ax am Sim) (h_frequent : lw_s_frequent n ax am Sim) (h_few : lw_s_few n ax am Sim) (h_beside : lw_s_beside n ax am Sim) (h_set : lw_s_set n ax am Sim) (h_put : lw_s_put n ax am Sim) (h_take : lw_s_take n ax am Sim) (h_swap : lw_s_swap n ax am Sim) (h_lay : lw_s_lay n ax am Sim) (h_page : lw_s_page n ax am Sim) (h_rewind : lw_s_rewind n ax am Sim) (h_cursor : lw_s_cursor n ax am Sim) (h_told : lw_s_told n ax am Sim) (h_split : lw_s_split n ax am Sim) (h_join : lw_s_join n ax am Sim) (h_ways : lw_s_ways n ax am Sim) (h_status : lw_s_status n ax am Sim) (h_undo : lw_s_undo n ax am Sim) (h_log : lw_s_log n ax am Sim) (h_spell : lw_s_spell n ax am Sim) (h_would : lw_s_would n ax am Sim) (h_step : lw_s_step n ax am Sim) (h_run : lw_s_run n ax am Sim) (h_perform : lw_s_perform n ax am Sim) (h_most : lw_s_most n ax am Sim) (h_image : lw_s_image n ax am Sim) (h_back : lw_s_back n ax am Sim) (h_count : lw_s_count n ax am Sim) (h_line : lw_s_line n ax am ao Sim) (h_skip : ∀ t M, t < 512 → Sim t M → Sim (t + 1) M) : ∀ (k t cells slots : Nat) (M : mm_M) (H : Heap) (locs : List Loc) (ls : Array Slot), 6 * t ≤ L → L < 6 * t + 6 * k → cells ≤ 3495 + t → slots ≤ 65634 + 6 * t → mm_I D dA s.heap.size s M H locs → lv_has ls 7 [(0, .ref b), (1, .ref ax), (2, .ref am), (3, .ref ao), (4, .int (nI (6 * t)))] → Sim t M → W p l e room_1 s m #[Value.ref b] below meth c H locs cells slots (lw_Z below #[Value.ref b] s) (F0 m 23 ls []) := by
  have hbA : ¬ mm_fr s.heap.size b := Nat.not_le.mpr hbl
  intro k
  induction k with
  | zero => intro t cells slots M H locs ls h1 h2; omega
  | succ k ih =>
    intro t cells slots M H locs ls h1 h2 hc hs I hl hS
    refine lv_iload X.1 X.2.1 dL_law_23 (lv_at hl 4 rfl) ?_
    refine lv_aload_n X.1 X.2.1 dL_law_25 rfl (lv_at hl 0 rfl) ?_
    refine va_slen X.1 X.2.1 hX hbl hbA I.2 dL_law_26 ?_
    refine lv_bipush (v := 6) X.1 X.2.1 dL_law_27 (by decide) ?_
    refine lv_isub X.1 X.2.1 dL_law_29 ?_
    refine lv_icmp_gt (tgt := 1541) X.1 X.2.1 dL_law_30 (by decide) (fun q => ?_) (fun q => ?_)
    · refine lv_iconst (v := 1) X.1 X.2.1 dL_law_1541 (by decide) ?_
      refine va_forget (fun q hq => I.2.2.2 q hq) ?_
      refine W.widen (k := 601024) (n := 7293034) (by omega) (by omega) ?_
      exact lw_ret X.1 X.2.1 hr hlk dL_law_1542
    · have ht : 6 * t + 6 ≤ L := by
        rcases Nat.lt_or_ge L (6 * t + 6) with z | z
        · exact absurd ((lw_cmp hL (by omega)).mpr z) q
        · exact z
      have i0 : vp_in (nI (6 * t)) L := vp_in_nI (by omega) (by omega)
      have kk : ∀ (cells slots : Nat) (M : mm_M) (H : Heap) (locs : List Loc) (ls : Array Slot), cells ≤ 3495 + t + 1 → slots ≤ 65634 + 6 * t + 6 → mm_I D dA s.heap.size s M H locs → lv_has ls 7 [(0, .ref b), (1, .ref ax), (2, .ref am), (3, .ref ao), (4, .int (nI (6 * t)))] → Sim (t + 1) M → W p l e room_1 s m #[Value.ref b] below meth c H locs cells slots (lw_Z below #[Value.ref b] s) (F0 m 1535 ls []) := by
        intro cells slots M H locs ls hc hs I hl hS
        refine lv_iinc (v := nI (6 * (t + 1))) (lv' := [(4, .int (nI (6 * (t + 1)))), (0, .ref b), (1, .ref ax), (2, .ref am), (3, .ref ao)]) X.1 X.2.1 dL_law_1535 hl (k := 4) rfl (show nI (6 * t) + 6 = nI (6 * (t + 1)) from (lw_ix (6 * t) 6).trans (by rw [Nat.mul_succ])) (by decide) rfl (fun ls hl => ?_)
        refine lv_goto (tgt := 23) X.1 X.2.1 dL_law_1538 (by decide) ?_
        exact ih (t + 1) cells slots M H locs ls (by omega) (by omega) (by omega) (by omega) I (lv_sub hl [1, 2, 3, 4, 0] rfl) hS
      refine lv_aload_n X.1 X.2.1 dL_law_33 rfl (lv_at hl 0 rfl) ?_
      refine lv_iload X.1 X.2.1 dL_law_34 (lv_at hl 4 rfl) ?_
      refine va_sld X.1 X.2.1 hX hbl hbA I.2 i0 dL_law_36 ?_
      refine lv_bipush (v := 63) X.1 X.2.1 dL_law_37 (by decide) ?_
      refine lv_iand X.1 X.2.1 dL_law_39 ?_
      generalize (xs (nI (6 * t)).toNatClampNeg &&& 63) = x
      by_cases z0 : x = 0
      · refine lv_tableIn (tgt := 216) (off := 176) X.1 X.2.1 dL_law_40 (by rw [z0]; decide) (by rw [z0]; decide) (by rw [z0]; rfl) (by decide) ?_
        exact lw_case_0 hst hL X XN hX hbl h_feed ht hc hs I hl hS kk
      by_cases z1 : x = 1
      · refine lv_tableIn (tgt := 289) (off := 249) X.1 X.2.1 dL_law_40 (by rw [z1]; decide) (by rw [z1]; decide) (by rw [z1]; rfl) (by decide) ?_
        exact lw_case_1 hst hL X XN hX hbl h_end ht hc hs I hl hS kk
      by_cases z2 : x = 2
      · refine lv_tableIn (tgt := 314) (off := 274) X.1 X.2.1 dL_law_40 (by rw [z2]; decide) (by rw [z2]; decide) (by rw [z2]; rfl) (by decide) ?_
        exact lw_case_2 hst hL X XN hX hbl h_fault ht hc hs I hl hS kk
      by_cases z3 : x = 3
      · refine lv_tableIn (tgt := 339) (off := 299) X.1 X.2.1 dL_law_40 (by rw [z3]; decide) (by rw [z3]; decide) (by rw [z3]; rfl) (by decide) ?_
        exact lw_case_3 hst hL X XN hX hbl h_text ht hc hs I hl hS kk
      by_cases z4 : x = 4
      · refine lv_tableIn (tgt := 364) (off := 324) X.1 X.2.1 dL_law_40 (by rw [z4]; decide) (by rw [z4]; decide) (by rw [z4]; rfl) (by decide) ?_
        exact lw_case_4 hst hL X XN hX hbl h_word ht hc hs I hl hS kk
      by_cases z5 : x = 5
      · refine lv_tableIn (tgt := 377) (off := 337) X.1 X.2.1 dL_law_40 (by rw [z5]; decide) (by rw [z5]; decide) (by rw [z5]; rfl) (by decide) ?_
        exact lw_case_5 hst hL X XN hX hbl h_rule ht hc hs I hl hS kk
      by_cases z6 : x = 6
      · refine lv_tableIn (tgt := 402) (off := 362) X.1 X.2.1 dL_law_40 (by rw [z6]; decide) (by rw [z6]; decide) (by rw [z6]; rfl) (by decide) ?_
        exact lw_case_6 hst hL X XN hX hbl h_line ht hc hs I hl hS kk
      by_cases z7 : x = 7
      · refine lv_tableIn (tgt := 470) (off := 430) X.1 X.2.1 dL_law_40 (by rw [z7]; decide) (by rw [z7]; decide) (by rw [z7]; rfl) (by decide) ?_
        exact lw_case_7 hst hL X XN hX hbl h_sign ht hc hs I hl hS kk
      by_cases z8 : x = 8
      · refine lv_tableIn (tgt := 507) (off := 467) X.1 X.2.1 dL_law_40 (by rw [z8]; decide) (by rw [z8]; decide) (by rw [z8]; rfl) (by decide) ?_
        exact lw_case_8 hst hL X XN hX hbl h_hit ht hc hs I hl hS kk
      by_cases z9 : x = 9
      · refine lv_tableIn (tgt := 544) (off := 504) X.1 X.2.1 dL_law_40 (by rw [z9]; decide) (by rw [z9]; decide) (by rw [z9]; rfl) (by decide) ?_
        exact lw_case_9 hst hL X XN hX hbl h_rank ht hc hs I hl hS kk
      by_cases z10 : x = 10
      · refine lv_tableIn (tgt := 581) (off := 541) X.1 X.2.1 dL_law_40 (by rw [z10]; decide) (by rw [z10]; decide) (by rw [z10]; rfl) (by decide) ?_
        exact lw_case_10 hst hL X XN hX hbl h_all ht hc hs I hl hS kk
      by_cases z11 : x = 11
      · refine lv_tableIn (tgt := 618) (off := 578) X.1 X.2.1 dL_law_40 (by rw [z11]; decide) (by rw [z11]; decide) (by rw [z11]; rfl) (by decide) ?_
        exact lw_case_11 hst hL X XN hX hbl h_twice ht hc hs I hl hS kk
      by_cases z12 : x = 12
      · refine lv_tableIn (tgt := 643) (off := 603) X.1 X.2.1 dL_law_40 (by rw [z12]; decide) (by rw [z12]; decide) (by rw [z12]; rfl) (by decide) ?_
        exact lw_case_12 hst hL X XN hX hbl h_unlike ht hc hs I hl hS kk
      by_cases z13 : x = 13
      · refine lv_tableIn (tgt := 668) (off := 628) X.1 X.2.1 dL_law_40 (by rw [z13]; decide) (by rw [z13]; decide) (by rw [z13]; rfl) (by decide) ?_
        exact lw_case_13 hst hL X XN hX hbl h_frequent ht hc hs I hl hS kk
      by_cases z14 : x = 14
      · refine lv_tableIn (tgt := 705) (off := 665) X.1 X.2.1 dL_law_40 (by rw [z14]; decide) (by rw [z14]; decide) (by rw [z14]; rfl) (by decide) ?_
        exact lw_case_14 hst hL X XN hX hbl h_few ht hc hs I hl hS kk
      by_cases z15 : x = 15
      · refine lv_tableIn (tgt := 742) (off := 702) X.1 X.2.1 dL_law_40 (by rw [z15]; decide) (by rw [z15]; decide) (by rw [z15]; rfl) (by decide) ?_
        exact lw_case_15 hst hL X XN hX hbl h_beside ht hc hs I hl hS kk
      by_cases z16 : x = 16
      · refine lv_tableIn (tgt := 795) (off := 755) X.1 X.2.1 dL_law_40 (by rw [z16]; decide) (by rw [z16]; decide) (by rw [z16]; rfl) (by decide) ?_
        exact lw_case_16 hst hL X XN hX hbl h_set ht hc hs I hl hS kk
      by_cases z17 : x = 17
      · refine lv_tableIn (tgt := 820) (off := 780) X.1 X.2.1 dL_law_40 (by rw [z17]; decide) (by rw [z17]; decide) (by rw [z17]; rfl) (by decide) ?_
        exact lw_case_17 hst hL X XN hX hbl h_put ht hc hs I hl hS kk
      by_cases z18 : x = 18
      · refine lv_tableIn (tgt := 845) (off := 805) X.1 X.2.1 dL_law_40 (by rw [z18]; decide) (by rw [z18]; decide) (by rw [z18]; rfl) (by decide) ?_
        exact lw_case_18 hst hL X XN hX hbl h_take ht hc hs I hl hS kk
      by_cases z19 : x = 19
      · refine lv_tableIn (tgt := 870) (off := 830) X.1 X.2.1 dL_law_40 (by rw [z19]; decide) (by rw [z19]; decide) (by rw [z19]; rfl) (by decide) ?_
        exact lw_case_19 hst hL X XN hX hbl h_swap ht hc hs I hl hS kk
      by_cases z20 : x = 20
      · refine lv_tableIn (tgt := 907) (off := 867) X.1 X.2.1 dL_law_40 (by rw [z20]; decide) (by rw [z20]; decide) (by rw [z20]; rfl) (by decide) ?_
        exact lw_case_20 hst hL X XN hX hbl h_lay ht hc hs I hl hS kk
      by_cases z21 : x = 21
      · refine lv_tableIn (tgt := 944) (off := 904) X.1 X.2.1 dL_law_40 (by rw [z21]; decide) (by rw [z21]; decide) (by rw [z21]; rfl) (by decide) ?_
        exact lw_case_21 hst hL X XN hX hbl h_page ht hc hs I hl hS kk
      by_cases z22 : x = 22
      · refine lv_tableIn (tgt := 969) (off := 929) X.1 X.2.1 dL_law_40 (by rw [z22]; decide) (by rw [z22]; decide) (by rw [z22]; rfl) (by decide) ?_
        exact lw_case_22 hst hL X XN hX hbl h_rewind ht hc hs I hl hS kk
      by_cases z23 : x = 23
      · refine lv_tableIn (tgt := 994) (off := 954) X.1 X.2.1 dL_law_40 (by rw [z23]; decide) (by rw [z23]; decide) (by rw [z23]; rfl) (by decide) ?_
        exact lw_case_23 hst hL X XN hX hbl h_cursor ht hc hs I hl hS kk
      by_cases z24 : x = 24
      · refine lv_tableIn (tgt := 1031) (off := 991) X.1 X.2.1 dL_law_40 (by rw [z24]; decide) (by rw [z24]; decide) (by rw [z24]; rfl) (by decide) ?_
        exact lw_case_24 hst hL X XN hX hbl h_told ht hc hs I hl hS kk
      by_cases z25 : x = 25
      · refine lv_tableIn (tgt := 1080) (off := 1040) X.1 X.2.1 dL_law_40 (by rw [z25]; decide) (by rw [z25]; decide) (by rw [z25]; rfl) (by decide) ?_
        exact lw_case_25 hst hL X XN hX hbl h_split ht hc hs I hl hS kk
      by_cases z26 : x = 26
      · refine lv_tableIn (tgt := 1117) (off := 1077) X.1 X.2.1 dL_law_40 (by rw [z26]; decide) (by rw [z26]; decide) (by rw [z26]; rfl) (by decide) ?_
        exact lw_case_26 hst hL X XN hX hbl h_join ht hc hs I hl hS kk
      by_cases z27 : x = 27
      · refine lv_tableIn (tgt := 1142) (off := 1102) X.1 X.2.1 dL_law_40 (by rw [z27]; decide) (by rw [z27]; decide) (by rw [z27]; rfl) (by decide) ?_
        exact lw_case_27 hst hL X XN hX hbl h_ways ht hc hs I hl hS kk
      by_cases z28 : x = 28
      · refine lv_tableIn (tgt := 1211) (off := 1171) X.1 X.2.1 dL_law_40 (by rw [z28]; decide) (by rw [z28]; decide) (by rw [z28]; rfl) (by decide) ?_
        exact lw_case_28 hst hL X XN hX hbl h_status ht hc hs I hl hS kk
      by_cases z29 : x = 29
      · refine lv_tableIn (tgt := 1236) (off := 1196) X.1 X.2.1 dL_law_40 (by rw [z29]; decide) (by rw [z29]; decide) (by rw [z29]; rfl) (by decide) ?_
        exact lw_case_29 hst hL X XN hX hbl h_undo ht hc hs I hl hS kk
      by_cases z30 : x = 30
      · refine lv_tableIn (tgt := 1249) (off := 1209) X.1 X.2.1 dL_law_40 (by rw [z30]; decide) (by rw [z30]; decide) (by rw [z30]; rfl) (by decide) ?_
        exact lw_case_30 hst hL X XN hX hbl h_log ht hc hs I hl hS kk
      by_cases z31 : x = 31
      · refine lv_tableIn (tgt := 1286) (off := 1246) X.1 X.2.1 dL_law_40 (by rw [z31]; decide) (by rw [z31]; decide) (by rw [z31]; rfl) (by decide) ?_
        exact lw_case_31 hst hL X XN hX hbl h_spell ht hc hs I hl hS kk
      by_cases z32 : x = 32
      · refine lv_tableIn (tgt := 1323) (off := 1283) X.1 X.2.1 dL_law_40 (by rw [z32]; decide) (by rw [z32]; decide) (by rw [z32]; rfl) (by decide) ?_
        exact lw_case_32 hst hL X XN hX hbl h_would ht hc hs I hl hS kk
      by_cases z33 : x = 33
      · refine lv_tableIn (tgt := 1348) (off := 1308) X.1 X.2.1 dL_law_40 (by rw [z33]; decide) (by rw [z33]; decide) (by rw [z33]; rfl) (by decide) ?_
        exact lw_case_33 hst hL X XN hX hbl h_step ht hc hs I hl hS kk
      by_cases z34 : x = 34
      · refine lv_tableIn (tgt := 1397) (off := 1357) X.1 X.2.1 dL_law_40 (by rw [z34]; decide) (by rw [z34]; decide) (by rw [z34]; rfl) (by decide) ?_
        exact lw_case_34 hst hL X XN hX hbl h_run ht hc hs I hl hS kk
      by_cases z35 : x = 35
      · refine lv_tableIn (tgt := 1434) (off := 1394) X.1 X.2.1 dL_law_40 (by rw [z35]; decide) (by rw [z35]; decide) (by rw [z35]; rfl) (by decide) ?_
        exact lw_case_35 hst hL X XN hX hbl h_perform ht hc hs I hl hS kk
      by_cases z36 : x = 36
      · refine lv_tableIn (tgt := 1459) (off := 1419) X.1 X.2.1 dL_law_40 (by rw [z36]; decide) (by rw [z36]; decide) (by rw [z36]; rfl) (by decide) ?_
        exact lw_case_36 hst hL X XN hX hbl h_most ht hc hs I hl hS kk
      by_cases z37 : x = 37
      · refine lv_tableIn (tgt := 1484) (off := 1444) X.1 X.2.1 dL_law_40 (by rw [z37]; decide) (by rw [z37]; decide) (by rw [z37]; rfl) (by decide) ?_
        exact lw_case_37 hst hL X XN hX hbl h_image ht hc hs I hl hS kk
      by_cases z38 : x = 38
      · refine lv_tableIn (tgt := 1497) (off := 1457) X.1 X.2.1 dL_law_40 (by rw [z38]; decide) (by rw [z38]; decide) (by rw [z38]; rfl) (by decide) ?_
        exact lw_case_38 hst hL X XN hX hbl h_back ht hc hs I hl hS kk
      by_cases z39 : x = 39
      · refine lv_tableIn (tgt := 1510) (off := 1470) X.1 X.2.1 dL_law_40 (by rw [z39]; decide) (by rw [z39]; decide) (by rw [z39]; rfl) (by decide) ?_
        exact lw_case_39 hst hL X XN hX hbl h_count ht hc hs I hl hS kk
      have q0 : ¬ Int32.toInt x = 0 := fun q => z0 (Int32.toInt_inj.mp q)
      have q1 : ¬ Int32.toInt x = 1 := fun q => z1 (Int32.toInt_inj.mp q)
      have q2 : ¬ Int32.toInt x = 2 := fun q => z2 (Int32.toInt_inj.mp q)
      have q3 : ¬ Int32.toInt x = 3 := fun q => z3 (Int32.toInt_inj.mp q)
      have q4 : ¬ Int32.toInt x = 4 := fun q => z4 (Int32.toInt_inj.mp q)
      have q5 : ¬ Int32.toInt x = 5 := fun q => z5 (Int32.toInt_inj.mp q)
      have q6 : ¬ Int32.toInt x = 6 := fun q => z6 (Int32.toInt_inj.mp q)
      have q7 : ¬ Int32.toInt x = 7 := fun q => z7 (Int32.toInt_inj.mp q)
      have q8 : ¬ Int32.toInt x = 8 := fun q => z8 (Int32.toInt_inj.mp q)
      have q9 : ¬ Int32.toInt x = 9 := fun q => z9 (Int32.toInt_inj.mp q)
      have q10 : ¬ Int32.toInt x = 10 := fun q => z10 (Int32.toInt_inj.mp q)
      have q11 : ¬ Int32.toInt x = 11 := fun q => z11 (Int32.toInt_inj.mp q)
      have q12 : ¬ Int32.toInt x = 12 := fun q => z12 (Int32.toInt_inj.mp q)
      have q13 : ¬ Int32.toInt x = 13 := fun q => z13 (Int32.toInt_inj.mp q)
      have q14 : ¬ Int32.toInt x = 14 := fun q => z14 (Int32.toInt_inj.mp q)
      have q15 : ¬ Int32.toInt x = 15 := fun q => z15 (Int32.toInt_inj.mp q)
      have q16 : ¬ Int32.toInt x = 16 := fun q => z16 (Int32.toInt_inj.mp q)
      have q17 : ¬ Int32.toInt x = 17 := fun q => z17 (Int32.toInt_inj.mp q)
      have q18 : ¬ Int32.toInt x = 18 := fun q => z18 (Int32.toInt_inj.mp q)
      have q19 : ¬ Int32.toInt x = 19 := fun q => z19 (Int32.toInt_inj.mp q)
      have q20 : ¬ Int32.toInt x = 20 := fun q => z20 (Int32.toInt_inj.mp q)
      have q21 : ¬ Int32.toInt x = 21 := fun q => z21 (Int32.toInt_inj.mp q)
      have q22 : ¬ Int32.toInt x = 22 := fun q => z22 (Int32.toInt_inj.mp q)
      have q23 : ¬ Int32.toInt x = 23 := fun q => z23 (Int32.toInt_inj.mp q)
      have q24 : ¬ Int32.toInt x = 24 := fun q => z24 (Int32.toInt_inj.mp q)
      have q25 : ¬ Int32.toInt x = 25 := fun q => z25 (Int32.toInt_inj.mp q)
      have q26 : ¬ Int32.toInt x = 26 := fun q => z26 (Int32.toInt_inj.mp q)
      have q27 : ¬ Int32.toInt x = 27 := fun q => z27 (Int32.toInt_inj.mp q)
      have q28 : ¬ Int32.toInt x = 28 := fun q => z28 (Int32.toInt_inj.mp q)
      have q29 : ¬ Int32.toInt x = 29 := fun q => z29 (Int32.toInt_inj.mp q)
      have q30 : ¬ Int32.toInt x = 30 := fun q => z30 (Int32.toInt_inj.mp q)
      have q31 : ¬ Int32.toInt x = 31 := fun q => z31 (Int32.toInt_inj.mp q)
      have q32 : ¬ Int32.toInt x = 32 := fun q => z32 (Int32.toInt_inj.mp q)
      have q33 : ¬ Int32.toInt x = 33 := fun q => z33 (Int32.toInt_inj.mp q)
      have q34 : ¬ Int32.toInt x = 34 := fun q => z34 (Int32.toInt_inj.mp q)
      have q35 : ¬ Int32.toInt x = 35 := fun q => z35 (Int32.toInt_inj.mp q)
      have q36 : ¬ Int32.toInt x = 36 := fun q => z36 (Int32.toInt_inj.mp q)
      have q37 : ¬ Int32.toInt x = 37 := fun q => z37 (Int32.toInt_inj.mp q)
      have q38 : ¬ Int32.toInt x = 38 := fun q => z38 (Int32.toInt_inj.mp q)
      have q39 : ¬ Int32.toInt x = 39 := fun q => z39 (Int32.toInt_inj.mp q)
      refine mm_tdef (tgt := 1535) X dL_law_40 (by decide) (fun i hi hq => ?_) (by decide) ?_
      · exfalso
        simp at hi
        omega
      · exact kk cells slots M H locs ls (by omega) (by omega) I hl (h_skip t M (by omega) hS)
