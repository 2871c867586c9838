set_option maxHeartbeats 8000000 in
set_option maxRecDepth 100000 in
theorem law_loop {p : Program} {l : Launch} {e : Env} {s : State} {m : MethodId} {below : List Frame} {meth : Method} {c : Code} {b L : Nat} {xs : Nat → Int32} {K : vGl} {q : Nat → Nat} {Rel : CS → CS → Prop} (hL : L ≤ 3072) (C0 : lw_At p s m meth c b L xs) (hX : vX K (fun z : Nat => s.heap.size ≤ z) s) (ST : vSteps Rel) : ∀ (n i : Nat) (x3 : Int32), x3 = nI i → i ≤ L + 6 → L + 7 ≤ i + 6 * n → ∀ (cs ms : CS), Rel cs ms → ∀ (H : Heap) (locs : List Loc), va_P K.1 vwCl (vWc K q cs ++ vWm K q ms) H → va_D (fun z : Nat => s.heap.size ≤ z) (vWc K q cs ++ vWm K q ms) → va_S (fun z : Nat => s.heap.size ≤ z) s.heap H locs → ∀ (ls : Array Slot), lv_has ls 4 [(0, .ref b), (1, .ref (q 0)), (2, .ref (q 78)), (3, .int x3)] → W p l e room_1 s m #[Value.ref b] below meth c H locs 93 2357 (lw_Z below #[Value.ref b] s) (F0 m 18 ls []) := by
  obtain ⟨hx, hb, hr, hml, hown, hts0, hXs, hbl, hlocks, hgv⟩ := id C0
  have hts : ∀ w ∈ vT, w.before #[Value.ref b] s = true := fun w hw => hts0 w (List.mem_filter.mp hw).1
  have hbA : ¬ (fun z : Nat => s.heap.size ≤ z) b := Nat.not_le.mpr hbl
  obtain ⟨S0, S1, S2, S3, S4, S5, S6, S7, S8, S9, S10, S11, S12, S13, S14, S15, S16, S17, S18, S19, S20, S21, S22, S23, S24, S25, S26, S27, S28, S29, S30, S31, S32, S33, S34, S35, S36, S37, S38, S39, S40, S41⟩ := ST
  intro n
  induction n with
  | zero => intro i x3 hi h1 h2; omega
  | succ n ih =>
    intro i x3 hi h1 h2 cs ms hRel H locs hP hD hS ls hl
    refine lv_iload_n hx hb dL_law_18 rfl (lv_at hl 3 rfl) ?_
    refine lv_aload_n hx hb dL_law_19 rfl (lv_at hl 0 rfl) ?_
    refine va_slen hx hb hXs hbl hbA hS dL_law_20 ?_
    refine lv_bipush (v := (6 : Int32)) hx hb dL_law_21 (by decide) ?_
    refine lv_isub hx hb dL_law_23 ?_
    refine lv_icmp_gt (tgt := 1548) hx hb dL_law_24 (by decide) (fun _ => ?_) (fun hc => ?_)
    · refine lv_iconst (v := 1) hx hb dL_law_1548 (by decide) ?_
      refine va_forget (fun q hq => hS.2.2 q hq) ?_
      refine W.widen (k := 600000) (n := 7302250) (Nat.le_of_ble_eq_true rfl) (Nat.le_of_ble_eq_true rfl) ?_
      exact lw_ret hx hb hr hlocks dL_law_1549
    rw [hi] at hc
    have hi6 : i + 6 ≤ L := law_ge hL (by omega) hc
    have go : ∀ (cs ms : CS), Rel cs ms → ∀ (H : Heap) (locs : List Loc), va_P K.1 vwCl (vWc K q cs ++ vWm K q ms) H → va_D (fun z : Nat => s.heap.size ≤ z) (vWc K q cs ++ vWm K q ms) → va_S (fun z : Nat => s.heap.size ≤ z) s.heap H locs → ∀ (ls : Array Slot), lv_has ls 4 [(0, .ref b), (1, .ref (q 0)), (2, .ref (q 78)), (3, .int (x3 + (6 : Int32)))] → W p l e room_1 s m #[Value.ref b] below meth c H locs 93 2357 (lw_Z below #[Value.ref b] s) (F0 m 18 ls []) := ih (i + 6) (x3 + (6 : Int32)) (by rw [hi, show (6 : Int32) = nI 6 from rfl, nI_add]) (by omega) (by omega)
    refine lv_aload_n hx hb dL_law_27 rfl (lv_at hl 0 rfl) ?_
    refine lv_iload_n hx hb dL_law_28 rfl (lv_at hl 3 rfl) ?_
    refine va_sld hx hb hXs hbl hbA hS (by rw [hi]; exact vp_in_nI (by omega) (by omega)) dL_law_29 ?_
    refine lv_bipush (v := (63 : Int32)) hx hb dL_law_30 (by decide) ?_
    refine lv_iand hx hb dL_law_32 ?_
    generalize (xs x3.toNatClampNeg &&& (63 : Int32)) = sel
    rcases Classical.em (sel = (0 : Int32)) with c0 | c0
    · refine lv_tableIn (tgt := 216) hx hb dL_law_33 (by rw [c0]; decide) (by rw [c0]; decide) (by rw [c0]; rfl) (by decide) ?_
      exact law_case_0 hL C0 hX S0 hi hi6 go cs ms hRel H locs hP hD hS ls hl
    rcases Classical.em (sel = (1 : Int32)) with c1 | c1
    · refine lv_tableIn (tgt := 249) hx hb dL_law_33 (by rw [c1]; decide) (by rw [c1]; decide) (by rw [c1]; rfl) (by decide) ?_
      exact law_case_1 hL C0 hX S1 hi hi6 go cs ms hRel H locs hP hD hS ls hl
    rcases Classical.em (sel = (2 : Int32)) with c2 | c2
    · refine lv_tableIn (tgt := 282) hx hb dL_law_33 (by rw [c2]; decide) (by rw [c2]; decide) (by rw [c2]; rfl) (by decide) ?_
      exact law_case_2 hL C0 hX S2 hi hi6 go cs ms hRel H locs hP hD hS ls hl
    rcases Classical.em (sel = (3 : Int32)) with c3 | c3
    · refine lv_tableIn (tgt := 315) hx hb dL_law_33 (by rw [c3]; decide) (by rw [c3]; decide) (by rw [c3]; rfl) (by decide) ?_
      exact law_case_3 hL C0 hX S3 hi hi6 go cs ms hRel H locs hP hD hS ls hl
    rcases Classical.em (sel = (4 : Int32)) with c4 | c4
    · refine lv_tableIn (tgt := 328) hx hb dL_law_33 (by rw [c4]; decide) (by rw [c4]; decide) (by rw [c4]; rfl) (by decide) ?_
      exact law_case_4 hL C0 hX S4 hi hi6 go cs ms hRel H locs hP hD hS ls hl
    rcases Classical.em (sel = (5 : Int32)) with c5 | c5
    · refine lv_tableIn (tgt := 361) hx hb dL_law_33 (by rw [c5]; decide) (by rw [c5]; decide) (by rw [c5]; rfl) (by decide) ?_
      exact law_case_5 hL C0 hX S5 hi hi6 go cs ms hRel H locs hP hD hS ls hl
    rcases Classical.em (sel = (6 : Int32)) with c6 | c6
    · refine lv_tableIn (tgt := 394) hx hb dL_law_33 (by rw [c6]; decide) (by rw [c6]; decide) (by rw [c6]; rfl) (by decide) ?_
      exact law_case_6 hL C0 hX S6 hi hi6 go cs ms hRel H locs hP hD hS ls hl
    rcases Classical.em (sel = (7 : Int32)) with c7 | c7
    · refine lv_tableIn (tgt := 427) hx hb dL_law_33 (by rw [c7]; decide) (by rw [c7]; decide) (by rw [c7]; rfl) (by decide) ?_
      exact law_case_7 hL C0 hX S7 hi hi6 go cs ms hRel H locs hP hD hS ls hl
    rcases Classical.em (sel = (8 : Int32)) with c8 | c8
    · refine lv_tableIn (tgt := 470) hx hb dL_law_33 (by rw [c8]; decide) (by rw [c8]; decide) (by rw [c8]; rfl) (by decide) ?_
      exact law_case_8 hL C0 hX S8 hi hi6 go cs ms hRel H locs hP hD hS ls hl
    rcases Classical.em (sel = (9 : Int32)) with c9 | c9
    · refine lv_tableIn (tgt := 503) hx hb dL_law_33 (by rw [c9]; decide) (by rw [c9]; decide) (by rw [c9]; rfl) (by decide) ?_
      exact law_case_9 hL C0 hX S9 hi hi6 go cs ms hRel H locs hP hD hS ls hl
    rcases Classical.em (sel = (10 : Int32)) with c10 | c10
    · refine lv_tableIn (tgt := 536) hx hb dL_law_33 (by rw [c10]; decide) (by rw [c10]; decide) (by rw [c10]; rfl) (by decide) ?_
      exact law_case_10 hL C0 hX S10 hi hi6 go cs ms hRel H locs hP hD hS ls hl
    rcases Classical.em (sel = (11 : Int32)) with c11 | c11
    · refine lv_tableIn (tgt := 599) hx hb dL_law_33 (by rw [c11]; decide) (by rw [c11]; decide) (by rw [c11]; rfl) (by decide) ?_
      exact law_case_11 hL C0 hX S11 hi hi6 go cs ms hRel H locs hP hD hS ls hl
    rcases Classical.em (sel = (12 : Int32)) with c12 | c12
    · refine lv_tableIn (tgt := 622) hx hb dL_law_33 (by rw [c12]; decide) (by rw [c12]; decide) (by rw [c12]; rfl) (by decide) ?_
      exact law_case_12 hL C0 hX S12 hi hi6 go cs ms hRel H locs hP hD hS ls hl
    rcases Classical.em (sel = (13 : Int32)) with c13 | c13
    · refine lv_tableIn (tgt := 675) hx hb dL_law_33 (by rw [c13]; decide) (by rw [c13]; decide) (by rw [c13]; rfl) (by decide) ?_
      exact law_case_13 hL C0 hX S13 hi hi6 go cs ms hRel H locs hP hD hS ls hl
    rcases Classical.em (sel = (14 : Int32)) with c14 | c14
    · refine lv_tableIn (tgt := 698) hx hb dL_law_33 (by rw [c14]; decide) (by rw [c14]; decide) (by rw [c14]; rfl) (by decide) ?_
      exact law_case_14 hL C0 hX S14 hi hi6 go cs ms hRel H locs hP hD hS ls hl
    rcases Classical.em (sel = (15 : Int32)) with c15 | c15
    · refine lv_tableIn (tgt := 721) hx hb dL_law_33 (by rw [c15]; decide) (by rw [c15]; decide) (by rw [c15]; rfl) (by decide) ?_
      exact law_case_15 hL C0 hX S15 hi hi6 go cs ms hRel H locs hP hD hS ls hl
    rcases Classical.em (sel = (16 : Int32)) with c16 | c16
    · refine lv_tableIn (tgt := 754) hx hb dL_law_33 (by rw [c16]; decide) (by rw [c16]; decide) (by rw [c16]; rfl) (by decide) ?_
      exact law_case_16 hL C0 hX S16 hi hi6 go cs ms hRel H locs hP hD hS ls hl
    rcases Classical.em (sel = (17 : Int32)) with c17 | c17
    · refine lv_tableIn (tgt := 787) hx hb dL_law_33 (by rw [c17]; decide) (by rw [c17]; decide) (by rw [c17]; rfl) (by decide) ?_
      exact law_case_17 hL C0 hX S17 hi hi6 go cs ms hRel H locs hP hD hS ls hl
    rcases Classical.em (sel = (18 : Int32)) with c18 | c18
    · refine lv_tableIn (tgt := 820) hx hb dL_law_33 (by rw [c18]; decide) (by rw [c18]; decide) (by rw [c18]; rfl) (by decide) ?_
      exact law_case_18 hL C0 hX S18 hi hi6 go cs ms hRel H locs hP hD hS ls hl
    rcases Classical.em (sel = (19 : Int32)) with c19 | c19
    · refine lv_tableIn (tgt := 853) hx hb dL_law_33 (by rw [c19]; decide) (by rw [c19]; decide) (by rw [c19]; rfl) (by decide) ?_
      exact law_case_19 hL C0 hX S19 hi hi6 go cs ms hRel H locs hP hD hS ls hl
    rcases Classical.em (sel = (20 : Int32)) with c20 | c20
    · refine lv_tableIn (tgt := 896) hx hb dL_law_33 (by rw [c20]; decide) (by rw [c20]; decide) (by rw [c20]; rfl) (by decide) ?_
      exact law_case_20 hL C0 hX S20 hi hi6 go cs ms hRel H locs hP hD hS ls hl
    rcases Classical.em (sel = (21 : Int32)) with c21 | c21
    · refine lv_tableIn (tgt := 929) hx hb dL_law_33 (by rw [c21]; decide) (by rw [c21]; decide) (by rw [c21]; rfl) (by decide) ?_
      exact law_case_21 hL C0 hX S21 hi hi6 go cs ms hRel H locs hP hD hS ls hl
    rcases Classical.em (sel = (22 : Int32)) with c22 | c22
    · refine lv_tableIn (tgt := 972) hx hb dL_law_33 (by rw [c22]; decide) (by rw [c22]; decide) (by rw [c22]; rfl) (by decide) ?_
      exact law_case_22 hL C0 hX S22 hi hi6 go cs ms hRel H locs hP hD hS ls hl
    rcases Classical.em (sel = (23 : Int32)) with c23 | c23
    · refine lv_tableIn (tgt := 1005) hx hb dL_law_33 (by rw [c23]; decide) (by rw [c23]; decide) (by rw [c23]; rfl) (by decide) ?_
      exact law_case_23 hL C0 hX S23 hi hi6 go cs ms hRel H locs hP hD hS ls hl
    rcases Classical.em (sel = (24 : Int32)) with c24 | c24
    · refine lv_tableIn (tgt := 1038) hx hb dL_law_33 (by rw [c24]; decide) (by rw [c24]; decide) (by rw [c24]; rfl) (by decide) ?_
      exact law_case_24 hL C0 hX S24 hi hi6 go cs ms hRel H locs hP hD hS ls hl
    rcases Classical.em (sel = (25 : Int32)) with c25 | c25
    · refine lv_tableIn (tgt := 1061) hx hb dL_law_33 (by rw [c25]; decide) (by rw [c25]; decide) (by rw [c25]; rfl) (by decide) ?_
      exact law_case_25 hL C0 hX S25 hi hi6 go cs ms hRel H locs hP hD hS ls hl
    rcases Classical.em (sel = (26 : Int32)) with c26 | c26
    · refine lv_tableIn (tgt := 1084) hx hb dL_law_33 (by rw [c26]; decide) (by rw [c26]; decide) (by rw [c26]; rfl) (by decide) ?_
      exact law_case_26 hL C0 hX S26 hi hi6 go cs ms hRel H locs hP hD hS ls hl
    rcases Classical.em (sel = (27 : Int32)) with c27 | c27
    · refine lv_tableIn (tgt := 1107) hx hb dL_law_33 (by rw [c27]; decide) (by rw [c27]; decide) (by rw [c27]; rfl) (by decide) ?_
      exact law_case_27 hL C0 hX S27 hi hi6 go cs ms hRel H locs hP hD hS ls hl
    rcases Classical.em (sel = (28 : Int32)) with c28 | c28
    · refine lv_tableIn (tgt := 1150) hx hb dL_law_33 (by rw [c28]; decide) (by rw [c28]; decide) (by rw [c28]; rfl) (by decide) ?_
      exact law_case_28 hL C0 hX S28 hi hi6 go cs ms hRel H locs hP hD hS ls hl
    rcases Classical.em (sel = (29 : Int32)) with c29 | c29
    · refine lv_tableIn (tgt := 1173) hx hb dL_law_33 (by rw [c29]; decide) (by rw [c29]; decide) (by rw [c29]; rfl) (by decide) ?_
      exact law_case_29 hL C0 hX S29 hi hi6 go cs ms hRel H locs hP hD hS ls hl
    rcases Classical.em (sel = (30 : Int32)) with c30 | c30
    · refine lv_tableIn (tgt := 1216) hx hb dL_law_33 (by rw [c30]; decide) (by rw [c30]; decide) (by rw [c30]; rfl) (by decide) ?_
      exact law_case_30 hL C0 hX S30 hi hi6 go cs ms hRel H locs hP hD hS ls hl
    rcases Classical.em (sel = (31 : Int32)) with c31 | c31
    · refine lv_tableIn (tgt := 1239) hx hb dL_law_33 (by rw [c31]; decide) (by rw [c31]; decide) (by rw [c31]; rfl) (by decide) ?_
      exact law_case_31 hL C0 hX S31 hi hi6 go cs ms hRel H locs hP hD hS ls hl
    rcases Classical.em (sel = (32 : Int32)) with c32 | c32
    · refine lv_tableIn (tgt := 1282) hx hb dL_law_33 (by rw [c32]; decide) (by rw [c32]; decide) (by rw [c32]; rfl) (by decide) ?_
      exact law_case_32 hL C0 hX S32 hi hi6 go cs ms hRel H locs hP hD hS ls hl
    rcases Classical.em (sel = (33 : Int32)) with c33 | c33
    · refine lv_tableIn (tgt := 1325) hx hb dL_law_33 (by rw [c33]; decide) (by rw [c33]; decide) (by rw [c33]; rfl) (by decide) ?_
      exact law_case_33 hL C0 hX S33 hi hi6 go cs ms hRel H locs hP hD hS ls hl
    rcases Classical.em (sel = (34 : Int32)) with c34 | c34
    · refine lv_tableIn (tgt := 1388) hx hb dL_law_33 (by rw [c34]; decide) (by rw [c34]; decide) (by rw [c34]; rfl) (by decide) ?_
      exact law_case_34 hL C0 hX S34 hi hi6 go cs ms hRel H locs hP hD hS ls hl
    rcases Classical.em (sel = (35 : Int32)) with c35 | c35
    · refine lv_tableIn (tgt := 1411) hx hb dL_law_33 (by rw [c35]; decide) (by rw [c35]; decide) (by rw [c35]; rfl) (by decide) ?_
      exact law_case_35 hL C0 hX S35 hi hi6 go cs ms hRel H locs hP hD hS ls hl
    rcases Classical.em (sel = (36 : Int32)) with c36 | c36
    · refine lv_tableIn (tgt := 1434) hx hb dL_law_33 (by rw [c36]; decide) (by rw [c36]; decide) (by rw [c36]; rfl) (by decide) ?_
      exact law_case_36 hL C0 hX S36 hi hi6 go cs ms hRel H locs hP hD hS ls hl
    rcases Classical.em (sel = (37 : Int32)) with c37 | c37
    · refine lv_tableIn (tgt := 1447) hx hb dL_law_33 (by rw [c37]; decide) (by rw [c37]; decide) (by rw [c37]; rfl) (by decide) ?_
      exact law_case_37 hL C0 hX S37 hi hi6 go cs ms hRel H locs hP hD hS ls hl
    rcases Classical.em (sel = (38 : Int32)) with c38 | c38
    · refine lv_tableIn (tgt := 1460) hx hb dL_law_33 (by rw [c38]; decide) (by rw [c38]; decide) (by rw [c38]; rfl) (by decide) ?_
      exact law_case_38 hL C0 hX S38 hi hi6 go cs ms hRel H locs hP hD hS ls hl
    rcases Classical.em (sel = (39 : Int32)) with c39 | c39
    · refine lv_tableIn (tgt := 1483) hx hb dL_law_33 (by rw [c39]; decide) (by rw [c39]; decide) (by rw [c39]; rfl) (by decide) ?_
      exact law_case_39 hL C0 hX S39 hi hi6 go cs ms hRel H locs hP hD hS ls hl
    rcases Classical.em (sel = (40 : Int32)) with c40 | c40
    · refine lv_tableIn (tgt := 1496) hx hb dL_law_33 (by rw [c40]; decide) (by rw [c40]; decide) (by rw [c40]; rfl) (by decide) ?_
      exact law_case_40 hL C0 hX S40 hi hi6 go cs ms hRel H locs hP hD hS ls hl
    rcases Classical.em (sel = (41 : Int32)) with c41 | c41
    · refine lv_tableIn (tgt := 1519) hx hb dL_law_33 (by rw [c41]; decide) (by rw [c41]; decide) (by rw [c41]; rfl) (by decide) ?_
      exact law_case_41 hL C0 hX S41 hi hi6 go cs ms hRel H locs hP hD hS ls hl
    refine lv_tableOut (tgt := 1542) hx hb dL_law_33 (by have i0 := vI_ne (z := 0) c0 (by decide +kernel); have i1 := vI_ne (z := 1) c1 (by decide +kernel); have i2 := vI_ne (z := 2) c2 (by decide +kernel); have i3 := vI_ne (z := 3) c3 (by decide +kernel); have i4 := vI_ne (z := 4) c4 (by decide +kernel); have i5 := vI_ne (z := 5) c5 (by decide +kernel); have i6 := vI_ne (z := 6) c6 (by decide +kernel); have i7 := vI_ne (z := 7) c7 (by decide +kernel); have i8 := vI_ne (z := 8) c8 (by decide +kernel); have i9 := vI_ne (z := 9) c9 (by decide +kernel); have i10 := vI_ne (z := 10) c10 (by decide +kernel); have i11 := vI_ne (z := 11) c11 (by decide +kernel); have i12 := vI_ne (z := 12) c12 (by decide +kernel); have i13 := vI_ne (z := 13) c13 (by decide +kernel); have i14 := vI_ne (z := 14) c14 (by decide +kernel); have i15 := vI_ne (z := 15) c15 (by decide +kernel); have i16 := vI_ne (z := 16) c16 (by decide +kernel); have i17 := vI_ne (z := 17) c17 (by decide +kernel); have i18 := vI_ne (z := 18) c18 (by decide +kernel); have i19 := vI_ne (z := 19) c19 (by decide +kernel); have i20 := vI_ne (z := 20) c20 (by decide +kernel); have i21 := vI_ne (z := 21) c21 (by decide +kernel); have i22 := vI_ne (z := 22) c22 (by decide +kernel); have i23 := vI_ne (z := 23) c23 (by decide +kernel); have i24 := vI_ne (z := 24) c24 (by decide +kernel); have i25 := vI_ne (z := 25) c25 (by decide +kernel); have i26 := vI_ne (z := 26) c26 (by decide +kernel); have i27 := vI_ne (z := 27) c27 (by decide +kernel); have i28 := vI_ne (z := 28) c28 (by decide +kernel); have i29 := vI_ne (z := 29) c29 (by decide +kernel); have i30 := vI_ne (z := 30) c30 (by decide +kernel); have i31 := vI_ne (z := 31) c31 (by decide +kernel); have i32 := vI_ne (z := 32) c32 (by decide +kernel); have i33 := vI_ne (z := 33) c33 (by decide +kernel); have i34 := vI_ne (z := 34) c34 (by decide +kernel); have i35 := vI_ne (z := 35) c35 (by decide +kernel); have i36 := vI_ne (z := 36) c36 (by decide +kernel); have i37 := vI_ne (z := 37) c37 (by decide +kernel); have i38 := vI_ne (z := 38) c38 (by decide +kernel); have i39 := vI_ne (z := 39) c39 (by decide +kernel); have i40 := vI_ne (z := 40) c40 (by decide +kernel); have i41 := vI_ne (z := 41) c41 (by decide +kernel); omega) (by decide) ?_
    refine lv_iinc (v := (x3 + (6 : Int32))) (lv' := [(3, .int (x3 + (6 : Int32))), (0, .ref b), (1, .ref (q 0)), (2, .ref (q 78))]) hx hb dL_law_1542 hl (k := 3) rfl rfl (by decide) rfl (fun ls hl => ?_)
    refine lv_goto (tgt := 18) hx hb dL_law_1545 (by decide) ?_
    exact go _ _ hRel _ _ hP hD hS _ (lv_sub hl [1, 2, 3, 0] rfl)
