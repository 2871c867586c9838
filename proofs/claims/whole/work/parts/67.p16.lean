/-! PURE 16: steps: cells, doors -/
theorem shl0 {i : Nat} (h : i < 32) : (nI 0) <<< (nI i &&& 31) = nI 0 := by
  have : ∀ i, i < 32 → (nI 0) <<< (nI i &&& 31) = nI 0 := by decide +kernel
  exact this i h
theorem m1N : (-1 : Int32) = nI (2 ^ 32 - 1) := by decide +kernel
theorem door_bits {D i : Nat} (hD : D < 4096) (hi : i < 12) : (D &&& (2 ^ i ^^^ (2 ^ 32 - 1))) = (if D.testBit i = true then D ^^^ 2 ^ i else D) := by
  apply Nat.eq_of_testBit_eq
  intro j
  rw [Nat.testBit_and, Nat.testBit_xor, Nat.testBit_two_pow, Nat.testBit_two_pow_sub_one]
  have big : ¬ j < 32 → D.testBit j = false := fun h => Nat.testBit_lt_two_pow (Nat.lt_of_lt_of_le hD (Nat.le_trans (show 4096 ≤ 2 ^ 32 by decide) (Nat.pow_le_pow_right (by decide) (by omega))))
  by_cases h32 : j < 32
  · by_cases e : i = j
    · subst e
      by_cases q : D.testBit i = true
      · rw [if_pos q, Nat.testBit_xor, Nat.testBit_two_pow]; simp [q, h32]
      · rw [if_neg q]; simp [Bool.eq_false_iff.mpr q, h32]
    · by_cases q : D.testBit i = true
      · rw [if_pos q, Nat.testBit_xor, Nat.testBit_two_pow]; simp [e, h32]
      · rw [if_neg q]; simp [e, h32]
  · have e : ¬ i = j := by omega
    by_cases q : D.testBit i = true
    · rw [if_pos q, Nat.testBit_xor, Nat.testBit_two_pow]; simp [e, h32, big h32]
    · rw [if_neg q]; simp [e, h32, big h32]
theorem door_or {D i : Nat} : ((if D.testBit i = true then D ^^^ 2 ^ i else D) ||| 2 ^ i) = (if D.testBit i = true then D else D ^^^ 2 ^ i) := by
  apply Nat.eq_of_testBit_eq
  intro j
  by_cases q : D.testBit i = true
  · rw [if_pos q, if_pos q, Nat.testBit_or, Nat.testBit_xor, Nat.testBit_two_pow]
    by_cases e : i = j
    · subst e; simp [q]
    · simp [e]
  · rw [if_neg q, if_neg q, Nat.testBit_or, Nat.testBit_xor, Nat.testBit_two_pow]
    by_cases e : i = j
    · subst e; simp [Bool.eq_false_iff.mpr q]
    · simp [e]
theorem door_set {D i b : Nat} (hD : D < 4096) (hi : i < 12) (hb : b ≤ 1) : ((nI D &&& (((1 : Int32) <<< (nI i &&& 31)) ^^^ (-1 : Int32))) ||| (nI b <<< (nI i &&& 31))) = nI (if D / 2 ^ i % 2 = b then D else D ^^^ 2 ^ i) := by
  have tb : D.testBit i = decide (D / 2 ^ i % 2 = 1) := Nat.testBit_eq_decide_div_mod_eq
  rw [nI_shl1 (by omega), m1N, nI_xor, nI_and, door_bits hD hi]
  have hb' : b = 0 ∨ b = 1 := by omega
  rcases hb' with rfl | rfl
  · rw [shl0 (by omega), nI_or, Nat.or_zero]
    congr 1
    by_cases q : D / 2 ^ i % 2 = 0
    · rw [if_pos q, if_neg (by rw [tb, q]; decide)]
    · rw [if_neg q, if_pos (by rw [tb]; exact decide_eq_true (by omega))]
  · rw [show nI 1 <<< (nI i &&& 31) = nI (2 ^ i) from nI_shl1 (by omega), nI_or, door_or]
    congr 1
    by_cases q : D / 2 ^ i % 2 = 1
    · rw [if_pos q, if_pos (by rw [tb, q]; rfl)]
    · rw [if_neg q, if_neg (by rw [tb]; simp [q])]
theorem st_door : ST_door Rel := by
  intro cs ms h a1 a2
  obtain ⟨hT, hK, hC, hE, hV, s0, s1, s2, s3⟩ := id h
  have er := er_up hE (k := 1) (by omega)
  by_cases g1 : 0 ≤ a1 ∧ a1 ≤ 11
  · by_cases g2 : 0 ≤ a2 ∧ a2 ≤ 1
    · obtain ⟨t, a, b, i1, i2, i3, i4, i5, i6, i7⟩ := id hT
      have iO : TO _ _ _ _ _ _ _ a b _ := ⟨i5, i6, i7⟩
      obtain ⟨f1, f2, f3, f4, f5, f6, f7, f8, f9⟩ := id i3
      have m := i4.1
      refine d7t g1 (yes (w7t g2 (yes ?_)))
      obtain ⟨i, hi, rfl⟩ := rg (m := 11) (by omega) g1
      obtain ⟨v, hv, rfl⟩ := rg (m := 1) (by omega) g2
      have hD := i1.1.1
      have hx : t.1.1 ^^^ 2 ^ i < 4096 := xor_lt hD (Nat.lt_of_le_of_lt (Nat.pow_le_pow_right (by decide) hi) (by decide : 2 ^ 11 < 4096))
      have r8 : (ms.2.1 0) 8 = nI t.1.1 := m.2.2.2.2.2.1
      rw [f1, nI_bit (by omega) (by omega), nI_shl1 (by omega), nI_xor]
      have ref : ∀ {P : Int32 → (Nat → Int32) → (Nat → Int32) → Prop}, P (nI (t.1.1 / 2 ^ i % 2)) (upd (ms.2.1 0) 8 (nI (if t.1.1 / 2 ^ i % 2 = v then t.1.1 else t.1.1 ^^^ 2 ^ i))) (ms.2.1 3) → wp_X8_door (nI i) (nI v) (ms.2.1 0) (ms.2.1 3) P := fun p => by
        refine d8t g1 (yes (w8t 0 1 g2 (yes ?_)))
        rw [kc8, r8, door_set hD (by omega) hv, nI_bit (by omega) (by omega)]
        exact p
      have k2 : ∀ x, kp (ms.2.1 0) (upd (ms.2.1 0) 8 x) := fun x => kp_up (by omega) (by omega) (by omega) (by omega)
      refine ⟨fun e => ref ?_, fun e => ref ?_⟩
      · have e' : t.1.1 / 2 ^ i % 2 = v := (nI_eq (by omega) (by omega)).mp e
        rw [if_pos e']
        exact ⟨rfl, ⟨t, a, b, i1, i2, ⟨rfl, f2, f3, f4, f5, f6, f7, f8, f9⟩, TM_kp i4 (k2 _) (RD_8 m t.1.1), TO_kp iO (k2 _)⟩, hK, hC, hE, hV, s0, s1, s2, s3⟩
      · have e' : ¬ t.1.1 / 2 ^ i % 2 = v := fun q => e (by rw [q])
        rw [if_neg e']
        exact ⟨rfl, ⟨((t.1.1 ^^^ 2 ^ i, t.1.2), t.2), a, b, ⟨⟨hx, i1.1.2⟩, i1.2⟩, i2, ⟨rfl, f2, f3, f4, f5, f6, f7, f8, f9⟩, TM_kp i4 (k2 _) (RD_8 m _), TO_kp iO (k2 _)⟩, hK, hC, hE, hV, s0, s1, s2, s3⟩
    · exact d7t g1 (yes (w7f g2 (no (e7 1 (by omega) (d8t g1 (yes (w8f 0 1 g2 (no (e8 1 (by omega) ⟨rfl, hT, hK, hC, er, hV, s0, s1, s2, s3⟩)))))))))
  · exact d7f g1 (no (e7 1 (by omega) (d8f g1 (no (e8 1 (by omega) ⟨rfl, hT, hK, hC, er, hV, s0, s1, s2, s3⟩)))))
/-- the houses in a cell, as bits -/
def hIn (cl : Nat → Nat) (c : Nat) : Nat → Nat
  | 0 => 0
  | n + 1 => if cl n = c then hIn cl c n ||| 2 ^ n else hIn cl c n
theorem s7_housesIn {c n : Nat} {cl : Nat → Nat} {cell : Nat → Int32} (hc : c < 16) (hn : n ≤ 8) (b : ∀ i, i < 8 → cl i < 16) (e : ∀ i, i < 8 → cell i = nI (cl i)) {P : Int32 → Prop} (h : P (nI (hIn cl c n))) : wp_X5_housesIn (nI c) (nI n) cell P := by
  unfold wp_X5_housesIn
  refine lpU (σ := Int32) (fun f x s => wp_X5_housesIn_b4 (nI c) (nI n) cell P f s x) (fun i s => s = nI (hIn cl c i)) n 0 0 (by omega) rfl (fun f s hI => ?_) (fun f i s hi hI ih => ?_)
  · refine br_t (nI_le (Nat.le_refl n) (by omega)) ?_
    rw [hI]; exact h
  · refine br_f (nI_ge hi (by omega)) (br_f (nI_ge (a := i) (b := 8) (by omega) (by omega)) ⟨ix (by omega) (by omega), ?_⟩)
    rw [nI_clamp (by omega), e i (by omega), nI_shl1 (by omega), hI, nI_or]
    have b' := b i (by omega)
    refine ⟨fun q => ih _ ?_, fun q => ih _ ?_⟩
    · have q' : cl i = c := (nI_eq (by omega) (by omega)).mp q
      show _ = nI (if cl i = c then _ else _)
      rw [if_pos q']
    · show _ = nI (if cl i = c then _ else _)
      rw [if_neg (fun z => q (by rw [z]))]
theorem st_ofCell : ST_ofCell Rel := by
  intro cs ms h a1 a2
  obtain ⟨hT, hK, hC, hE, hV, s0, s1, s2, s3⟩ := id h
  have er := er_up hE (k := 1) (by omega)
  by_cases g1 : 0 ≤ a1 ∧ a1 ≤ 15
  · obtain ⟨t, a, b, i1, i2, i3, i4, i5, i6, i7⟩ := id hT
    obtain ⟨f1, f2, f3, f4, f5, f6, f7, f8, f9, f10, f11⟩ := id i3
    obtain ⟨m1, m2, m3, m4, m5, m6, m7, m8⟩ := i4.1
    obtain ⟨c, hc, rfl⟩ := rg (m := 15) (by omega) g1
    refine c7t g1 (yes ?_)
    rcases Classical.em (a2 = 0) with z0 | z0
    · subst z0
      refine ⟨fun _ => ⟨ix (by omega) (by omega), c8t g1 (yes (w8t 0 2 (by decide) (yes (br_f (by decide) (br_t rfl ⟨v9 (by omega), ?_⟩)))))⟩, fun e => absurd e (by decide), fun e => absurd e (by decide), fun e => absurd rfl e⟩
      rw [i9 (by omega), nI_clamp (by omega)]
      exact ⟨(f8 c (by omega)).trans (m7 c (by omega)).symm, h⟩
    · rcases Classical.em (a2 = 1) with z1 | z1
      · subst z1
        exact ⟨fun e => absurd e (by decide), fun _ => c8t g1 (yes (w8t 0 2 (by decide) (yes (br_f (by decide) (br_f (by decide) ⟨rfl, h⟩))))), fun e => absurd e (by decide), fun _ e => absurd rfl e⟩
      · rcases Classical.em (a2 = 2) with z2 | z2
        · subst z2
          refine ⟨fun e => absurd e (by decide), fun e => absurd e (by decide), fun _ => ?_, fun _ _ e => absurd rfl e⟩
          rw [f6]
          refine s7_housesIn (by omega) i1.1.2.2.1 i1.1.2.2.2.2.2.1 f10 (c8t g1 (yes (w8t 0 2 (by decide) (yes (br_t (by decide) ?_)))))
          have hn := i1.1.2.2.1
          refine lpU (σ := Int32 × (Nat → Int32)) (fun f x s => wp_X8_ofCell_b55 (nI c) (ms.2.1 0) _ f s.1 x s.2) (fun i s => s.1 = nI (hIn t.1.2.2.2.2.2.1 c i) ∧ s.2 = (ms.2.1 3)) t.1.2.2.1 0 (0, (ms.2.1 3)) (by omega) ⟨rfl, rfl⟩ (fun f s hI => ?_) (fun f i s hi hI ih => ?_)
          · obtain ⟨e1, e2⟩ := hI
            show (_ ≤ _ → _) ∧ _
            rw [kc0, m1]
            refine br_t (nI_le (Nat.le_refl _) (by omega)) ?_
            rw [e1, e2]
            exact ⟨rfl, h⟩
          · obtain ⟨e1, e2⟩ := hI
            show (_ ≤ _ → _) ∧ _
            rw [kc0, m1]
            refine br_f (nI_ge hi (by omega)) (p8_of (w := 2) (by omega) (by omega) ?_)
            rw [(m8 i (by omega)).2.2.1, nI_shl1 (by omega), e1, e2, nI_or, show (0 : Int32) = nI 0 from rfl, nI_or, Nat.or_zero]
            have b' := i1.1.2.2.2.2.2.1 i (by omega)
            refine ⟨fun q => ih (_, _) ⟨?_, rfl⟩, fun q => ih (_, _) ⟨?_, rfl⟩⟩
            · have q' : t.1.2.2.2.2.2.1 i = c := (nI_eq (by omega) (by omega)).mp q
              show _ = nI (if t.1.2.2.2.2.2.1 i = c then _ else _)
              rw [if_pos q']
              rfl
            · show _ = nI (if t.1.2.2.2.2.2.1 i = c then _ else _)
              rw [if_neg (fun z => q (by rw [z]))]
              rfl
        · have g2 : ¬ (0 ≤ a2 ∧ a2 ≤ 2) := fun q => by
            obtain ⟨j, hj, rfl⟩ := rg (m := 2) (by omega) q
            have : j = 0 ∨ j = 1 ∨ j = 2 := by omega
            rcases this with rfl | rfl | rfl
            · exact z0 rfl
            · exact z1 rfl
            · exact z2 rfl
          exact ⟨fun e => absurd e z0, fun e => absurd e z1, fun e => absurd e z2, fun _ _ _ => e7 1 (by omega) (c8t g1 (yes (w8f 0 2 g2 (no (e8 1 (by omega) ⟨rfl, hT, hK, hC, er, hV, s0, s1, s2, s3⟩)))))⟩
  · exact c7f g1 (no (e7 1 (by omega) (c8f g1 (no (e8 1 (by omega) ⟨rfl, hT, hK, hC, er, hV, s0, s1, s2, s3⟩)))))
