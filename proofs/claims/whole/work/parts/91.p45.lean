/-! PURE 45: the step text -/
theorem nn1 {x : Int32} : ¬ (0 : Int32) ≤ cond true (-1) x := by
  show ¬ (0 : Int32) ≤ (-1 : Int32)
  decide
theorem nn2 {x : Int32} : cond true (-1) x < (0 : Int32) := by
  show (-1 : Int32) < (0 : Int32)
  decide
theorem text8 {b : Nat → Nat} {m : Nat} {bn d : Nat → Int32} {u : Nat} (hu : u ≤ 1) {ok : Bool} {at1 k1 : Nat} {c1 : Nat → Nat} (hm : m ≤ 50) (r : RP 1 m 0 0 (fun _ => 0) ok at1 k1 c1) (s8 : S8 (E8 45 0 m (nI u) (upd d 6 0)) (nI 0) 0 0 (fun _ => 0) ok at1 k1 c1) (h6 : d 6 = nI m)
    {base at0 size fault opened isG coded : Int32} {found code : Nat → Int32} {P : Int32 → Int32 → Int32 → Int32 → Int32 → Int32 → Int32 → Int32 → (Nat → Int32) → (Nat → Int32) → (Nat → Int32) → Prop}
    (pt : ok = true → at1 = m → ∀ (ba a sz f op g cd : Int32) (d' co : Nat → Int32), (∀ j, d' j = if j = 57 + u then nI k1 else if 79 + 50 * u ≤ j ∧ j < 79 + 50 * u + k1 then nI (c1 (j - (79 + 50 * u))) else if j = 6 then 0 else d j) → P 1 ba a sz f op g cd d' found co)
    (pf : ¬ (ok = true ∧ at1 = m) → ∀ (ba a sz f op g cd : Int32) (co : Nat → Int32), P ((-10 : Int32) - nI at1) ba a sz f op g cd (upd d 6 0) found co) : wp_X8_text (nI u) base at0 size fault opened isG coded d found code P := by
  obtain ⟨r1, r2, r3⟩ := r
  have q : u = 0 ∨ u = 1 := by omega
  have gu : 0 ≤ nI u ∧ nI u ≤ 1 := few_in (m := 1) (by omega) hu
  have lo : ∀ (ba a sz f op g : Int32) (co : Nat → Int32), ok = true → at1 = m → (∀ i, i < k1 → co i = nI (c1 i)) → vp_in ((57 : Int32) + nI u) 229 ∧ (∃ k, wp_X8_text_b71 (nI u) P k (0 : Int32) ba a sz f op g (nI k1) (upd (upd d 6 0) ((57 : Int32) + nI u).toNatClampNeg (nI k1)) found co) := fun ba a sz f op g co e1 e2 hc => by
    obtain ⟨r4, r5, r6, r7⟩ := r3 e1
    have e57 : (57 : Int32) + nI u = nI (57 + u) := nI_add 57 u
    rw [e57, nI_clamp (n := 57 + u) (by omega)]
    refine ⟨ix (by omega) (by omega), ?_⟩
    refine lpU (σ := Nat → Int32) (fun fu x s => wp_X8_text_b71 (nI u) P fu x ba a sz f op g (nI k1) s found co) (fun i s => ∀ j, s j = if j = 57 + u then nI k1 else if 79 + 50 * u ≤ j ∧ j < 79 + 50 * u + i then nI (c1 (j - (79 + 50 * u))) else if j = 6 then 0 else d j) k1 0 _ (by omega) (fun j => ?_) (fun fu s hI => br_t (nI_le (Nat.le_refl _) (by omega)) (pt e1 e2 _ _ _ _ _ _ _ s co hI)) (fun fu i s hi hI ih => ?_)
    · unfold upd
      by_cases w : j = 57 + u
      · rw [if_pos w, if_pos w]
      · rw [if_neg w, if_neg w, if_neg (show ¬ (79 + 50 * u ≤ j ∧ j < 79 + 50 * u + 0) by omega)]
    · have ej : ((79 : Int32) + ((50 : Int32) * nI u)) + nI i = nI (79 + 50 * u + i) := by
        rw [show (50 : Int32) * nI u = nI (50 * u) from pk_mul 50 u, show (79 : Int32) + nI (50 * u) = nI (79 + 50 * u) from nI_add 79 (50 * u), nI_add]
      refine br_f (nI_ge hi (by omega)) ⟨ix (by omega) (by omega), ?_⟩
      rw [ej, nI_clamp (n := 79 + 50 * u + i) (by omega), nI_clamp (n := i) (by omega), hc i hi]
      refine ⟨ix (by omega) (by omega), ih _ (fun j => ?_)⟩
      unfold upd
      by_cases w : j = 79 + 50 * u + i
      · rw [if_pos w, if_neg (by omega), if_pos (by omega), w, show 79 + 50 * u + i - (79 + 50 * u) = i by omega]
      · rw [if_neg w, hI j]
        by_cases w1 : j = 57 + u
        · rw [if_pos w1, if_pos w1]
        · rw [if_neg w1, if_neg w1]
          by_cases w2 : 79 + 50 * u ≤ j ∧ j < 79 + 50 * u + i
          · rw [if_pos w2, if_pos (by omega)]
          · rw [if_neg w2, if_neg (show ¬ (79 + 50 * u ≤ j ∧ j < 79 + 50 * u + (i + 1)) by omega)]
  unfold wp_X8_text
  rw [kc6, h6]
  refine w8t 0 1 gu (yes ?_)
  unfold wp_X8_reads
  cases ok with
  | false =>
    have pf' := pf (fun z => absurd z.1 (by decide))
    rcases q with rfl | rfl
    · exact br_f (by decide) (s8 code _ (fun i hi => absurd hi (Nat.not_lt_zero _)) (fun coded' code' _ => br_t (nI_pos' (by omega)) (br_f (nI_pos (by omega)) (pf' _ _ _ _ _ _ _ _))))
    · exact br_t rfl (s8 code _ (fun i hi => absurd hi (Nat.not_lt_zero _)) (fun coded' code' _ => br_t (nI_pos' (by omega)) (br_f (nI_pos (by omega)) (pf' _ _ _ _ _ _ _ _))))
  | true =>
    by_cases e : at1 = m
    · rcases q with rfl | rfl
      · refine br_f (by decide) (s8 code _ (fun i hi => absurd hi (Nat.not_lt_zero _)) (fun coded' code' z => ?_))
        obtain ⟨z1, z2⟩ := z rfl
        rw [z1]
        exact br_f nn1 (br_t (nI_le (by omega) (by omega)) (br_t nn2 (lo _ _ _ _ _ _ _ rfl e z2)))
      · refine br_t rfl (s8 code _ (fun i hi => absurd hi (Nat.not_lt_zero _)) (fun coded' code' z => ?_))
        obtain ⟨z1, z2⟩ := z rfl
        rw [z1]
        exact br_f nn1 (br_t (nI_le (by omega) (by omega)) (br_t nn2 (lo _ _ _ _ _ _ _ rfl e z2)))
    · have pf' := pf (fun z => e z.2)
      rcases q with rfl | rfl
      · exact br_f (by decide) (s8 code _ (fun i hi => absurd hi (Nat.not_lt_zero _)) (fun coded' code' _ => br_f nn1 (br_f (nI_ge (by omega) (by omega)) (wrong8 (br_f (nI_pos (by omega)) (pf' _ _ _ _ _ _ _ _))))))
      · exact br_t rfl (s8 code _ (fun i hi => absurd hi (Nat.not_lt_zero _)) (fun coded' code' _ => br_f nn1 (br_f (nI_ge (by omega) (by omega)) (wrong8 (br_f (nI_pos (by omega)) (pf' _ _ _ _ _ _ _ _))))))
theorem st_text : ST_text Rel := by
  intro cs ms h a1
  obtain ⟨hT, hK, hC, hE, hV, s0, s1, s2, s3⟩ := id h
  have er := er_up hE (k := 1) (by omega)
  obtain ⟨t, a, b', i1, i2, i3, i4, i5, ⟨j1, j2, j3, j4⟩, ⟨l1, l2, l3, l4⟩⟩ := id hT
  obtain ⟨⟨z1, z2, z3, z4, z5, z6, z7, z8⟩, y, w3, w4, w5, w6, w7, w8⟩ := id i1
  obtain ⟨e1, e2, e3, e4, e5, e6, e7', e8', e9, e10, e11, e12, e13, e14, e15⟩ := id i3
  obtain ⟨m0, m57, m58, m79, m129⟩ := id i4
  let b : Nat → Nat := fun i => ((ms.2.1 0) (179 + i)).toNatClampNeg
  have hb : ∀ i, i < a → b i < 256 ∧ (ms.2.1 0) (179 + i) = nI (b i) := fun i hi => by
    obtain ⟨v, q1, q2⟩ := (j4 i hi).2
    have : b i = v := by
      show ((ms.2.1 0) (179 + i)).toNatClampNeg = v
      rw [q2, nI_clamp (by omega)]
    rw [this]
    exact ⟨q1, q2⟩
  have u6 : ∀ j, j ≠ 6 → upd (ms.2.1 0) 6 (0 : Int32) j = (ms.2.1 0) j := fun j hj => upd_ne hj
  have hBY : ∀ bn : Nat → Int32, (∀ i, i < a → bn i = (cs.2.1 9) i) → BY b a bn (upd (ms.2.1 0) 6 0) := fun bn hbn => ⟨j1, fun i hi => (hb i hi).1, fun i hi => (hbn i hi).trans ((j4 i hi).1.trans (hb i hi).2), fun i hi => (u6 _ (by omega)).trans (hb i hi).2⟩
  have bad : TR (cs.1 1) (cs.1 2) (cs.1 3) (cs.1 4) (cs.1 5) (cs.1 6) (cs.1 7) (cs.1 8) (cs.1 9) (cs.1 10) (cs.1 11) (cs.1 12) (0 : Int32) (cs.1 14) (cs.2.1 0) (cs.2.1 1) (cs.2.1 2) (cs.2.1 3) (cs.2.1 5) (cs.2.1 7) (cs.2.1 9) (cs.2.1 10) (upd (ms.2.1 0) 6 (0 : Int32)) :=
    ⟨t, 0, b', i1, i2, i3, ⟨RD_ag m0 (fun j _ _ h6 _ => u6 j h6), (u6 57 (by omega)).trans m57, (u6 58 (by omega)).trans m58, fun i hi => (u6 _ (by omega)).trans (m79 i hi), fun i hi => (u6 _ (by omega)).trans (m129 i hi)⟩, ⟨i5.1, i5.2.1, i5.2.2.trans (u6 5 (by omega)).symm⟩, ⟨by omega, rfl, upd_eq, fun i hi => absurd hi (Nat.not_lt_zero _)⟩, ⟨l1, l2, (u6 7 (by omega)).trans l3, fun i hi => (l4 i hi).trans (u6 _ (by omega)).symm⟩⟩
  unfold wp_X7_text wp_X7_isUse
  by_cases g0 : a1 = 0
  · subst g0
    refine br_t rfl (yes (br_t rfl ?_))
    unfold wp_X7_text_b34_1
    refine br_t rfl ?_
    unfold wp_X2_reads
    rw [j2]
    refine p3_copyFrom (by omega) j1 (fun bn hbn => ?_)
    obtain ⟨ok, at1, k1, c1, r, u7, u8⟩ := readL (hBY bn hbn) (u := 0) (by omega)
    have k50 : ok = true → k1 ≤ 50 ∧ WFc c1 k1 := fun z => by
      have := r.2.2 z
      exact ⟨by have := r.2.1; omega, this.2.2.1⟩
    refine u7 _ _ (fun i hi => absurd hi (Nat.not_lt_zero _)) (fun many' nums' hz => ?_)
    have fail : ¬ (ok = true ∧ at1 = a) → ∀ {P : _}, (∀ (ba a sz f op g cd : Int32) (co : Nat → Int32), P ((-10 : Int32) - nI at1) ba a sz f op g cd (upd (ms.2.1 0) 6 0) (ms.2.1 3) co) → wp_X8_text (nI 0) (ms.1 1) (ms.1 2) (ms.1 3) (ms.1 4) (ms.1 5) (ms.1 6) (ms.1 7) (ms.2.1 0) (ms.2.1 3) (ms.2.1 5) P := fun z P p => text8 (b := b) (bn := bn) (by omega) j1 r u8 j3 (fun z1 z2 => absurd ⟨z1, z2⟩ z) (fun _ => p)
    cases ok with
    | false => exact br_t rfl (br_t rfl (fail (fun z => absurd z.1 (by decide)) (fun _ _ _ _ _ _ _ _ => ⟨rfl, bad, hK, hC, hE, hV, s0, s1, s2, s3⟩)))
    | true =>
      obtain ⟨k5, kw⟩ := k50 rfl
      obtain ⟨x1, x2⟩ := hz rfl
      by_cases e : at1 = a
      · refine br_f (by decide) (br_t (by rw [e]) (br_f (by decide) ?_))
        rw [x1]
        refine p3_copyFrom (by omega) k5 (fun wn' hwn => ?_)
        refine text8 (u := 0) (b := b) (bn := bn) (by omega) j1 r u8 j3 (fun _ _ ba a' sz f op g cd d' co hd' => ?_) (fun z => absurd ⟨rfl, e⟩ z)
        have dk : ∀ j, j ≠ 6 → j ≠ 57 → ¬ (79 ≤ j ∧ j < 129) → d' j = (ms.2.1 0) j := fun j q6 q57 q79 => by rw [hd' j, if_neg (by omega), if_neg (by omega), if_neg q6]
        refine ⟨rfl, ⟨((t.1.1, t.1.2.1, t.1.2.2.1, t.1.2.2.2.1, t.1.2.2.2.2.1, t.1.2.2.2.2.2.1, gF 0 k1 c1, t.1.2.2.2.2.2.2.2), t.2.1, k1, t.2.2.2.1, c1, t.2.2.2.2.2), 0, b', ⟨⟨z1, z2, z3, z4, z5, z6, fun _ _ _ => gN_le, z8⟩, y, k5, w4, kw, w6, rfl, w8⟩, i2, ⟨e1, e2, e3, e4, e5, e6, e7', e8', e9, e10, e11, rfl, e13, fun i hi => (hwn i hi).trans (x2 i hi), e15⟩, ⟨RD_ag m0 (fun j h57 _ h6 _ => dk j h6 (by omega) (by omega)), ?_, (dk 58 (by omega) (by omega) (by omega)).trans m58, fun i hi => ?_, fun i hi => (dk _ (by omega) (by omega) (by omega)).trans (m129 i hi)⟩, ⟨i5.1, i5.2.1, i5.2.2.trans (dk 5 (by omega) (by omega) (by omega)).symm⟩, ⟨by omega, rfl, ?_, fun i hi => absurd hi (Nat.not_lt_zero _)⟩, ⟨l1, l2, (dk 7 (by omega) (by omega) (by omega)).trans l3, fun i hi => (l4 i hi).trans (dk _ (by omega) (by omega) (by omega)).symm⟩⟩, hK, hC, hE, hV, s0, s1, s2, s3⟩
        · exact (hd' 57).trans (if_pos rfl)
        · show d' (79 + i) = nI (c1 i)
          have hi' : i < k1 := hi
          rw [hd' (79 + i), if_neg (by omega), if_pos (by omega), show 79 + i - (79 + 50 * 0) = i by omega]
        · exact (hd' 6).trans (by rw [if_neg (by omega), if_neg (by omega), if_pos rfl]; rfl)
      · refine br_f (by decide) (br_f (fun z => e ((nI_eq (by have := r.2.1; omega) (by omega)).mp z)) (br_t rfl ?_))
        exact fail (fun z => e z.2) (fun _ _ _ _ _ _ _ _ => ⟨rfl, bad, hK, hC, hE, hV, s0, s1, s2, s3⟩)
  · refine br_f g0 ?_
    by_cases g1 : a1 = 1
    · subst g1
      refine br_t rfl (yes (br_f (by decide) ?_))
      unfold wp_X7_text_b34
      refine br_f (by decide) ?_
      unfold wp_X2_reads
      rw [j2]
      refine p3_copyFrom (by omega) j1 (fun bn hbn => ?_)
      obtain ⟨ok, at1, k1, c1, r, u7, u8⟩ := readL (hBY bn hbn) (u := 1) (by omega)
      have k50 : ok = true → k1 ≤ 50 ∧ WFc c1 k1 := fun z => by
        have := r.2.2 z
        exact ⟨by have := r.2.1; omega, this.2.2.1⟩
      refine u7 _ _ (fun i hi => absurd hi (Nat.not_lt_zero _)) (fun many' nums' hz => ?_)
      have fail : ¬ (ok = true ∧ at1 = a) → ∀ {P : _}, (∀ (ba a sz f op g cd : Int32) (co : Nat → Int32), P ((-10 : Int32) - nI at1) ba a sz f op g cd (upd (ms.2.1 0) 6 0) (ms.2.1 3) co) → wp_X8_text (nI 1) (ms.1 1) (ms.1 2) (ms.1 3) (ms.1 4) (ms.1 5) (ms.1 6) (ms.1 7) (ms.2.1 0) (ms.2.1 3) (ms.2.1 5) P := fun z P p => text8 (b := b) (bn := bn) (by omega) j1 r u8 j3 (fun z1 z2 => absurd ⟨z1, z2⟩ z) (fun _ => p)
      cases ok with
      | false => exact br_t rfl (br_t rfl (fail (fun z => absurd z.1 (by decide)) (fun _ _ _ _ _ _ _ _ => ⟨rfl, bad, hK, hC, hE, hV, s0, s1, s2, s3⟩)))
      | true =>
        obtain ⟨k5, kw⟩ := k50 rfl
        obtain ⟨x1, x2⟩ := hz rfl
        by_cases e : at1 = a
        · refine br_f (by decide) (br_t (by rw [e]) (br_f (by decide) ?_))
          rw [x1]
          refine p3_copyFrom (by omega) k5 (fun wn' hwn => ?_)
          refine text8 (u := 1) (b := b) (bn := bn) (by omega) j1 r u8 j3 (fun _ _ ba a' sz f op g cd d' co hd' => ?_) (fun z => absurd ⟨rfl, e⟩ z)
          have dk : ∀ j, j ≠ 6 → j ≠ 58 → ¬ (129 ≤ j ∧ j < 179) → d' j = (ms.2.1 0) j := fun j q6 q57 q79 => by rw [hd' j, if_neg (by omega), if_neg (by omega), if_neg q6]
          refine ⟨rfl, ⟨((t.1.1, t.1.2.1, t.1.2.2.1, t.1.2.2.2.1, t.1.2.2.2.2.1, t.1.2.2.2.2.2.1, t.1.2.2.2.2.2.2.1, gF 1 k1 c1), t.2.1, t.2.2.1, k1, t.2.2.2.2.1, c1), 0, b', ⟨⟨z1, z2, z3, z4, z5, z6, z7, fun _ _ _ => gN_le⟩, y, w3, k5, w5, kw, w7, rfl⟩, i2, ⟨e1, e2, e3, e4, e5, e6, e7', e8', e9, e10, e11, e12, rfl, e14, fun i hi => (hwn i hi).trans (x2 i hi)⟩, ⟨RD_ag m0 (fun j h57 _ h6 _ => dk j h6 (by omega) (by omega)), (dk 57 (by omega) (by omega) (by omega)).trans m57, ?_, fun i hi => (dk _ (by omega) (by omega) (by have hi' : i < t.2.2.1 := hi; omega)).trans (m79 i hi), fun i hi => ?_⟩, ⟨i5.1, i5.2.1, i5.2.2.trans (dk 5 (by omega) (by omega) (by omega)).symm⟩, ⟨by omega, rfl, ?_, fun i hi => absurd hi (Nat.not_lt_zero _)⟩, ⟨l1, l2, (dk 7 (by omega) (by omega) (by omega)).trans l3, fun i hi => (l4 i hi).trans (dk _ (by omega) (by omega) (by omega)).symm⟩⟩, hK, hC, hE, hV, s0, s1, s2, s3⟩
          · exact (hd' 58).trans (if_pos rfl)
          · show d' (129 + i) = nI (c1 i)
            have hi' : i < k1 := hi
            rw [hd' (129 + i), if_neg (by omega), if_pos (by omega), show 129 + i - (79 + 50 * 1) = i by omega]
          · exact (hd' 6).trans (by rw [if_neg (by omega), if_neg (by omega), if_pos rfl]; rfl)
        · refine br_f (by decide) (br_f (fun z => e ((nI_eq (by have := r.2.1; omega) (by omega)).mp z)) (br_t rfl ?_))
          exact fail (fun z => e z.2) (fun _ _ _ _ _ _ _ _ => ⟨rfl, bad, hK, hC, hE, hV, s0, s1, s2, s3⟩)
    · have g : ¬ (0 ≤ a1 ∧ a1 ≤ 1) := fun z => by
        obtain ⟨j, hj, e⟩ := rg (m := 1) (by omega) z
        have q : j = 0 ∨ j = 1 := by omega
        rcases q with rfl | rfl
        · exact g0 e
        · exact g1 e
      exact br_f g1 (no (e7 1 (by omega) (w8f 0 1 g (no (e8 1 (by omega) ⟨rfl, hT, hK, hC, er, hV, s0, s1, s2, s3⟩)))))
