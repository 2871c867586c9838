/-! PURE 36: images; bytes fed; what a law gives; what is checked -/
theorem TM_all {d d' : Nat → Int32} {t : TT} (hI : TI t) (h : TM d t) (k : ∀ i, i < 229 → d' i = d i) : TM d' t := ⟨RD_ag h.1 (fun j h1 _ _ _ => k j (by omega)), (k 57 (by omega)).trans h.2.1, (k 58 (by omega)).trans h.2.2.1, fun i hi => (k _ (by have := hI.2.2.1; omega)).trans (h.2.2.2.1 i hi), fun i hi => (k _ (by have := hI.2.2.2.1; omega)).trans (h.2.2.2.2 i hi)⟩
theorem TO_all {zz wuse guse tm wtm : Int32} {tn wtn tn' wtn' : Nat → Int32} {a b : Nat} {d d' : Nat → Int32} (h : TO zz wuse guse tm wtm tn wtn a b d) {wu gu : Int32} (hw : wu = 0) (hg : gu = 1) (ht : ∀ i, i < a → tn' i = tn i) (hwt : ∀ i, i < b → wtn' i = wtn i) (k : ∀ i, i < 229 → d' i = d i) : TO zz wu gu tm wtm tn' wtn' a b d' := by
  obtain ⟨⟨h1, h2, h3⟩, ⟨g1, g2, g3, g4⟩, f1, f2, f3, f4⟩ := h
  exact ⟨⟨hw, hg, h3.trans (k 5 (by omega)).symm⟩, ⟨g1, g2, (k 6 (by omega)).trans g3, fun i hi => ⟨(ht i hi).trans ((g4 i hi).1.trans (k _ (by omega)).symm), by obtain ⟨v, q1, q2⟩ := (g4 i hi).2; exact ⟨v, q1, (k _ (by omega)).trans q2⟩⟩⟩, f1, f2, (k 7 (by omega)).trans f3, fun i hi => (hwt i hi).trans ((f4 i hi).trans (k _ (by omega)).symm)⟩
theorem st_image : ST_image Rel := by
  intro cs ms h
  obtain ⟨hT, hK, hC, hE, hV, s0, s1, s2, s3⟩ := id h
  obtain ⟨t, a, b, i1, i2, i3, i4, i5, i6, i7⟩ := id hT
  have iO : TO _ _ _ _ _ _ _ a b _ := ⟨i5, i6, i7⟩
  unfold wp_X7_image
  refine s5_copyFrom i1 i3 i6.1 i7.1 i6.2.1 i7.2.1 (fun heat' km' cell' warm' tn' wtn' wn' gn' hT' ht hw => ?_)
  unfold wp_X8_image
  refine lpU (σ := Nat → Int32) (fun f x s => wp_X8_image_b2 (ms.2.1 0) _ f x (ms.1 0) s) (fun i s => ∀ j, j < i → s j = (ms.2.1 0) j) 229 0 (ms.2.1 1) (by omega) (fun j hj => absurd hj (Nat.not_lt_zero _)) (fun f s hI => br_t (by decide) ?_) (fun f i s hi hI ih => ?_)
  · exact ⟨congrArg (· + 1) hK.1, hT, ⟨congrArg (· + 1) hK.1, fun _ => ⟨t, a, b, i1, i2, hT', TM_all i1 i4 hI, TO_all iO hK.2.2.1 hK.2.2.2.1 ht hw hI⟩, hK.2.2.1, hK.2.2.2.1, hK.2.2.2.2.1, hK.2.2.2.2.2⟩, hC, hE, hV, s0, s1, s2, s3⟩
  · refine br_f (nI_ge (b := 229) hi (by omega)) ⟨ix hi (by omega), ix hi (by omega), ?_⟩
    rw [nI_clamp (n := i) (by omega)]
    refine ih _ (fun j hj => ?_)
    unfold upd
    by_cases w : j = i
    · rw [if_pos w, w]
    · rw [if_neg w]; exact hI j (by omega)
theorem st_restore : ST_restore Rel := by
  intro cs ms h
  obtain ⟨hT, hK, hC, hE, hV, s0, s1, s2, s3⟩ := id h
  have er2 := er_up hE (k := 2) (by omega)
  by_cases g : (cs.1 0) = 0
  · exact br_t g (e7 2 (by omega) (br_t (hK.1.symm.trans g) (e8 2 (by omega) ⟨rfl, hT, hK, hC, er2, hV, s0, s1, s2, s3⟩)))
  · have g' : ¬ (ms.1 0) = 0 := fun z => g (hK.1.trans z)
    refine br_f g ?_
    obtain ⟨u, u', uo, uo'⟩ : (cs.1 9) = 0 ∧ (cs.1 11) = 1 ∧ True ∧ True := by
      obtain ⟨t, a, b, i1, i2, i3, i4, i5, i6, i7⟩ := id hT
      exact ⟨i5.1, i5.2.1, trivial, trivial⟩
    obtain ⟨t, a, b, i1, i2, i3, i4, i5, i6, i7⟩ := hK.2.1 g
    have iO : TO _ _ _ _ _ _ _ a b _ := ⟨i5, i6, i7⟩
    refine s5_copyFrom i1 i3 i6.1 i7.1 i6.2.1 i7.2.1 (fun heat' km' cell' warm' tn' wtn' wn' gn' hT' ht hw => br_f g' ?_)
    refine lpU (σ := Nat → Int32) (fun f x s => wp_X8_restore_b15 (ms.2.1 1) _ f x s (ms.2.1 3)) (fun i s => ∀ j, j < i → s j = (ms.2.1 1) j) 229 0 (ms.2.1 0) (by omega) (fun j hj => absurd hj (Nat.not_lt_zero _)) (fun f s hI => br_t (by decide) ?_) (fun f i s hi hI ih => ?_)
    · rw [k1c]
      exact ⟨i3.2.2.2.2.1.trans ((hI 1 (by omega)).trans i4.1.2.1).symm, ⟨t, a, b, i1, i2, hT', TM_all i1 i4 hI, TO_all iO u u' ht hw hI⟩, hK, hC, hE, hV, s0, s1, s2, s3⟩
    · refine br_f (nI_ge (b := 229) hi (by omega)) ⟨ix hi (by omega), ix hi (by omega), ?_⟩
      rw [nI_clamp (n := i) (by omega)]
      refine ih _ (fun j hj => ?_)
      unfold upd
      by_cases w : j = i
      · rw [if_pos w, w]
      · rw [if_neg w]; exact hI j (by omega)
theorem st_law : ST_law Rel := by
  intro cs ms h a1 a2 a3 a4
  obtain ⟨hT, hK, hC, hE, hV, s0, s1, s2, s3⟩ := id h
  have er := er_up hE (k := 1) (by omega)
  obtain ⟨t, a, b, i1, i2, i3, i4, i5, i6, i7⟩ := id hT
  obtain ⟨z1, z2, w3, w4, w5, w6, w7, w8⟩ := id i1
  obtain ⟨e1, e2, e3, e4, e5, e6, e7', e8', e9, e10, e11, e12, e13, e14, e15⟩ := id i3
  unfold wp_X7_law wp_X7_isUse
  by_cases g0 : a1 = 0
  · subst g0
    refine br_t rfl (yes (br_t rfl ?_))
    rw [show (cs.1 9) = nI 0 from i5.1, e12]
    refine s7_gives (u := 0) (by omega) w3 w5 a2 a3 a4 e14 (fun pile' => w8t 0 1 (by decide) (yes ?_))
    exact s8_textGives (u := 0) (by omega) w3 w5 a2 a3 a4 i4.2.1 (fun i hi => i4.2.2.2.1 i hi) (fun _ _ => ⟨rfl, hT, hK, hC, hE, hV, s0, s1, s2, s3⟩)
  · refine br_f g0 ?_
    by_cases g1 : a1 = 1
    · subst g1
      refine br_t rfl (yes (br_f (by decide) ?_))
      rw [show (cs.1 11) = nI 1 from i5.2.1, e13]
      refine s7_gives (u := 1) (by omega) w4 w6 a2 a3 a4 e15 (fun pile' => w8t 0 1 (by decide) (yes ?_))
      exact s8_textGives (u := 1) (by omega) w4 w6 a2 a3 a4 i4.2.2.1 (fun i hi => i4.2.2.2.2 i hi) (fun _ _ => ⟨rfl, hT, hK, hC, hE, hV, s0, s1, s2, s3⟩)
    · have g : ¬ (0 ≤ a1 ∧ a1 ≤ 1) := fun z => by
        obtain ⟨j, hj, e⟩ := rg (m := 1) (by omega) z
        have q : j = 0 ∨ j = 1 := by omega
        rcases q with rfl | rfl
        · exact g0 e
        · exact g1 e
      exact br_f g1 (no (e7 1 (by omega) (w8f 0 1 g (no (e8 1 (by omega) ⟨rfl, hT, hK, hC, er, hV, s0, s1, s2, s3⟩)))))
theorem b255 (n i : Nat) (hn : 8 ≤ n) : (BitVec.ofNat n 255).getLsbD i = decide (i < 8) := by
  rw [BitVec.getLsbD_ofNat, show (255 : Nat) = 2 ^ 8 - 1 from rfl, Nat.testBit_two_pow_sub_one]
  by_cases h : i < 8
  · rw [decide_eq_true h, decide_eq_true (show i < n by omega)]; rfl
  · rw [decide_eq_false h, Bool.and_false]
theorem fb_bit (x : BitVec 64) (s i : Nat) : (BitVec.ofNat 32 (x.toNat / 2 ^ s % 256)).getLsbD i = (decide (i < 8) && x.getLsbD (s + i)) := by
  rw [BitVec.getLsbD_ofNat, show (256 : Nat) = 2 ^ 8 from rfl, Nat.testBit_mod_two_pow, Nat.testBit_div_two_pow]
  by_cases h : i < 8
  · rw [decide_eq_true h, decide_eq_true (show i < 32 by omega), Bool.true_and, Bool.true_and, Bool.true_and, Nat.add_comm]; rfl
  · rw [decide_eq_false h, Bool.false_and, Bool.and_false, Bool.false_and]
theorem fb_8 (x : BitVec 64) (s : Nat) (hs : s ≤ 56) : ((x.sshiftRight s) &&& BitVec.ofNat 64 255).signExtend 32 = BitVec.ofNat 32 (x.toNat / 2 ^ s % 256) := by
  refine BitVec.eq_of_getLsbD_eq (fun i hi => ?_)
  rw [fb_bit, BitVec.signExtend_eq_setWidth_of_le _ (by omega), BitVec.getLsbD_setWidth, BitVec.getLsbD_and, BitVec.getLsbD_sshiftRight, b255 64 i (by omega)]
  by_cases h : i < 8
  · rw [if_pos (show s + i < 64 by omega), decide_eq_true h, decide_eq_true hi, decide_eq_false (show ¬ 64 ≤ i by omega)]
    simp
  · rw [decide_eq_false h, Bool.and_false, Bool.and_false, Bool.false_and]
theorem fb_7 (x : BitVec 64) (s : Nat) (hs : s ≤ 56) : ((x >>> s).signExtend 32 &&& BitVec.ofNat 32 255) = BitVec.ofNat 32 (x.toNat / 2 ^ s % 256) := by
  refine BitVec.eq_of_getLsbD_eq (fun i hi => ?_)
  rw [fb_bit, BitVec.getLsbD_and, BitVec.signExtend_eq_setWidth_of_le _ (by omega), BitVec.getLsbD_setWidth, BitVec.getLsbD_ushiftRight, b255 32 i (by omega), decide_eq_true hi, Bool.true_and, Bool.and_comm]
def fB (w : Int64) (k : Nat) : Nat := w.toBitVec.toNat / 2 ^ (8 * k) % 256
theorem fB_lt (w : Int64) (k : Nat) : fB w k < 256 := Nat.mod_lt _ (by omega)
theorem fB7 (w : Int64) {k : Nat} (hk : k < 8) : (((w.toUInt64 >>> (((8 : Int32) * nI k).toInt64.toUInt64 &&& Int64.toUInt64 63)).toInt64).toInt32 &&& (255 : Int32)) = nI (fB w k) := by
  have e : ∀ k, k < 8 → ((((8 : Int32) * nI k).toInt64.toUInt64 &&& Int64.toUInt64 63).toBitVec % BitVec.ofNat 64 64).toNat = 8 * k := by decide +kernel
  apply Int32.toBitVec_inj.mp
  have g := fb_7 w.toBitVec ((((8 : Int32) * nI k).toInt64.toUInt64 &&& Int64.toUInt64 63).toBitVec % BitVec.ofNat 64 64).toNat (by rw [e k hk]; omega)
  refine Eq.trans ?_ (g.trans (by rw [e k hk]; rfl))
  rfl
theorem fB8 (w : Int64) {k : Nat} (hk : k < 8) : ((w >>> (((8 : Int32) * nI k).toInt64 &&& 63)) &&& (255 : Int64)).toInt32 = nI (fB w k) := by
  have e : ∀ k, k < 8 → ((((8 : Int32) * nI k).toInt64 &&& 63).toBitVec.smod 64).toNat = 8 * k := by decide +kernel
  apply Int32.toBitVec_inj.mp
  have g := fb_8 w.toBitVec ((((8 : Int32) * nI k).toInt64 &&& 63).toBitVec.smod 64).toNat (by rw [e k hk]; omega)
  refine Eq.trans ?_ (g.trans (by rw [e k hk]; rfl))
  rfl
theorem st_feed : ST_feed Rel := by
  intro cs ms h a1 a2
  obtain ⟨hT, hK, hC, hE, hV, s0, s1, s2, s3⟩ := id h
  have er := er_up hE (k := 1) (by omega)
  have er4 := er_up hE (k := 4) (by omega)
  obtain ⟨t, a, b, i1, i2, i3, i4, i5, ⟨j1, j2, j3, j4⟩, i7⟩ := id hT
  by_cases g1 : 1 ≤ a2 ∧ a2 ≤ 8
  · obtain ⟨n, n1, hn, rfl⟩ := rg1 (l := 1) (m := 8) (by omega) (by omega) g1
    refine w7t g1 (yes ?_)
    have room : Int32.ofNat 50 - (cs.1 13) = nI (50 - a) := by rw [j2]; exact pk_sub (a := 50) j1
    by_cases g : a + n ≤ 50
    · refine (show ∀ {A B : Prop}, A → (nI n ≤ Int32.ofNat 50 - (cs.1 13) → A) ∧ (¬ nI n ≤ Int32.ofNat 50 - (cs.1 13) → B) from fun x => br_t (by rw [room]; exact nI_le (by omega) (by omega)) x) ?_
      refine lpU (σ := Int32 × (Nat → Int32)) (fun f x s => wp_X7_feed_b39 a1 (nI n) _ f x (cs.2.1 41) s.1 s.2) (fun i s => s.1 = nI (a + i) ∧ ∀ j, s.2 j = if a ≤ j ∧ j < a + i then nI (fB a1 (j - a)) else (cs.2.1 9) j) n 0 ((cs.1 13), (cs.2.1 9)) (by omega) ⟨j2, fun j => by rw [if_neg (by omega)]⟩ (fun f s hI => ?_) (fun f i s hi hI ih => ?_)
      · obtain ⟨e1, e2⟩ := hI
        rw [e1]
        refine br_t (nI_le (Nat.le_refl _) (by omega)) (w8t 1 8 g1 (yes ?_))
        refine br_t (by rw [kc6, j3, nI_add]; exact nI_le (b := 50) g (by omega)) ?_
        refine lpU (σ := Nat → Int32) (fun f x u => wp_X8_feed_b41 a1 (nI n) _ f x u (ms.2.1 3)) (fun i u => u 6 = nI (a + i) ∧ ∀ j, j ≠ 6 → u j = if 179 + a ≤ j ∧ j < 179 + a + i then nI (fB a1 (j - 179 - a)) else (ms.2.1 0) j) n 0 (ms.2.1 0) (by omega) ⟨j3, fun j _ => by rw [if_neg (by omega)]⟩ (fun f u hJ => ?_) (fun f i u hi hJ ih => ?_)
        · obtain ⟨u1, u2⟩ := hJ
          show (_ ≤ _ → _) ∧ _
          rw [kc6, u1]
          have uk : ∀ j, j ≠ 6 → ¬ (179 + a ≤ j ∧ j < 179 + a + n) → u j = (ms.2.1 0) j := fun j h6 hj => by rw [u2 j h6, if_neg hj]
          refine br_t (nI_le (Nat.le_refl _) (by omega)) ⟨rfl, ⟨t, a + n, b, i1, i2, i3, ⟨RD_ag i4.1 (fun j h1 h5 h6 h7 => uk j h6 (by omega)), (uk 57 (by omega) (by omega)).trans i4.2.1, (uk 58 (by omega) (by omega)).trans i4.2.2.1, fun i hi => (uk _ (by omega) (by have := i1.2.2.1; omega)).trans (i4.2.2.2.1 i hi), fun i hi => (uk _ (by omega) (by have := i1.2.2.2.1; omega)).trans (i4.2.2.2.2 i hi)⟩, ⟨i5.1, i5.2.1, i5.2.2.trans (uk 5 (by omega) (by omega)).symm⟩, ⟨g, rfl, u1, fun i hi => ?_⟩, ⟨i7.1, i7.2.1, (uk 7 (by omega) (by omega)).trans i7.2.2.1, fun i hi => (i7.2.2.2 i hi).trans (uk _ (by omega) (by omega)).symm⟩⟩, hK, hC, hE, hV, s0, s1, s2, s3⟩
          show s.2 i = u (179 + i) ∧ ∃ v, v < 256 ∧ u (179 + i) = nI v
          rw [e2 i, u2 (179 + i) (by omega)]
          by_cases w : a ≤ i
          · rw [if_pos (by omega), if_pos (by omega)]
            have ei : 179 + i - 179 - a = i - a := by omega
            rw [ei]
            exact ⟨rfl, _, fB_lt _ _, rfl⟩
          · rw [if_neg (by omega), if_neg (by omega)]
            exact j4 i (by omega)
        · obtain ⟨u1, u2⟩ := hJ
          have ei : ((179 : Int32) + nI (a + i)) = nI (179 + (a + i)) := nI_add 179 (a + i)
          refine br_f (nI_ge hi (by omega)) ?_
          rw [kc6, u1, ei, nI_clamp (n := 179 + (a + i)) (by omega), fB8 a1 (show i < 8 by omega)]
          refine ⟨ix (by omega) (by omega), ?_⟩
          rw [upd_ne (show 6 ≠ 179 + (a + i) by omega), u1, nI_1 (a + i)]
          refine ih _ ⟨upd_eq, fun j h6 => ?_⟩
          rw [upd_ne h6]
          by_cases w : j = 179 + (a + i)
          · rw [w, upd_eq, if_pos (by omega)]
            congr 2; omega
          · rw [upd_ne w, u2 j h6]
            by_cases w' : 179 + a ≤ j ∧ j < 179 + a + i
            · rw [if_pos w', if_pos (by omega)]
            · rw [if_neg w', if_neg (by omega)]
      · obtain ⟨e1, e2⟩ := hI
        rw [e1]
        refine br_f (nI_ge hi (by omega)) ?_
        rw [fB7 a1 (show i < 8 by omega)]
        refine p3_add (by omega) (by omega) (ih (_, _) ⟨rfl, fun j => ?_⟩)
        show upd _ _ _ j = _
        by_cases w : j = a + i
        · rw [w, upd_eq, if_pos (by omega)]
          congr 2; omega
        · rw [upd_ne w, e2 j]
          by_cases w' : a ≤ j ∧ j < a + i
          · rw [if_pos w', if_pos (by omega)]
          · rw [if_neg w', if_neg (by omega)]
    · refine (show ∀ {A B : Prop}, B → (nI n ≤ Int32.ofNat 50 - (cs.1 13) → A) ∧ (¬ nI n ≤ Int32.ofNat 50 - (cs.1 13) → B) from fun x => br_f (by rw [room]; exact nI_ge (by omega) (by omega)) x) ?_
      refine e7 4 (by omega) (w8t 1 8 g1 (yes (br_f ?_ (e8 4 (by omega) ⟨rfl, hT, hK, hC, er4, hV, s0, s1, s2, s3⟩))))
      rw [kc6, j3, nI_add]
      exact nI_ge (a := 50) (by omega) (by omega)
  · exact w7f g1 (no (e7 1 (by omega) (w8f 1 8 g1 (no (e8 1 (by omega) ⟨rfl, hT, hK, hC, er, hV, s0, s1, s2, s3⟩)))))
