/-! PURE 15: steps: doors, the fire, what is told -/
theorem kc0 : (0 : Int32).toNatClampNeg = 0 := nI_clamp (n := 0) (by omega)
theorem kc2 : (2 : Int32).toNatClampNeg = 2 := nI_clamp (n := 2) (by omega)
theorem kc3 : (3 : Int32).toNatClampNeg = 3 := nI_clamp (n := 3) (by omega)
theorem kc4 : (4 : Int32).toNatClampNeg = 4 := nI_clamp (n := 4) (by omega)
theorem kc5 : (5 : Int32).toNatClampNeg = 5 := nI_clamp (n := 5) (by omega)
theorem kc6 : (6 : Int32).toNatClampNeg = 6 := nI_clamp (n := 6) (by omega)
theorem kc7 : (7 : Int32).toNatClampNeg = 7 := nI_clamp (n := 7) (by omega)
theorem kc8 : (8 : Int32).toNatClampNeg = 8 := nI_clamp (n := 8) (by omega)
theorem st_doorsNow : ST_doorsNow Rel := by
  intro cs ms h
  obtain ⟨⟨t, a, b, i1, i2, i3, i4, iO⟩, hK, hC, hE, hV, s0, s1, s2, s3⟩ := id h
  unfold wp_X7_doorsNow wp_X8_doorsNow
  rw [kc8]
  exact ⟨i3.1.trans i4.1.2.2.2.2.2.1.symm, h⟩
theorem rg1 {a : Int32} {l m : Nat} (hl : l < 2 ^ 31) (hm : m < 2 ^ 31) (h : nI l ≤ a ∧ a ≤ nI m) : ∃ j : Nat, l ≤ j ∧ j ≤ m ∧ a = nI j := by
  obtain ⟨j, hj, rfl⟩ := rg hm ⟨Int32.le_trans (nI_pos' hl) h.1, h.2⟩
  exact ⟨j, (nI_leI hl (by omega)).mp h.1, hj, rfl⟩
theorem st_told : ST_told Rel := by
  intro cs ms h a1
  obtain ⟨hT, hK, hC, hE, hV, s0, s1, s2, s3⟩ := id h
  have er := er_up hE (k := 1) (by omega)
  by_cases g1 : 1 ≤ a1 ∧ a1 ≤ 5
  · refine w7t g1 (yes ?_)
    obtain ⟨k, k1, k5, rfl⟩ := rg1 (l := 1) (m := 5) (by omega) (by omega) g1
    refine ⟨ix (by omega) (by omega), w8t 1 5 g1 (yes ⟨ix (by omega) (by omega), ?_, hT, hK, hC, hE, hV, s0, s1, s2, s3⟩)⟩
    rw [nI_clamp (n := k) (by omega)]
    exact hE k (by omega)
  · exact w7f g1 (no (e7 1 (by omega) (w8f 1 5 g1 (no (e8 1 (by omega) ⟨rfl, hT, hK, hC, er, hV, s0, s1, s2, s3⟩)))))
theorem st_seed : ST_seed Rel := by
  intro cs ms h a1
  obtain ⟨⟨t, a, b, i1, i2, i3, i4, i5, i6, i7⟩, hK, hC, hE, hV, s0, s1, s2, s3⟩ := id h
  unfold wp_X7_seed
  unfold wp_X8_seed wp_X8_becomes
  rw [kc5]
  have ud : ∀ j, j ≠ 5 → upd (ms.2.1 0) 5 a1 j = (ms.2.1 0) j := fun j hj => by unfold upd; rw [if_neg hj]
  refine ⟨ix (i := 5) (by omega) (by omega), ix (i := 5) (by omega) (by omega), i5.2.2, ⟨t, a, b, i1, i2, i3, ⟨RD_ag i4.1 (fun j _ h5 _ _ => ud j h5), (ud 57 (by omega)).trans i4.2.1, (ud 58 (by omega)).trans i4.2.2.1, fun i hi => (ud _ (by omega)).trans (i4.2.2.2.1 i hi), fun i hi => (ud _ (by omega)).trans (i4.2.2.2.2 i hi)⟩, ⟨i5.1, i5.2.1, ?_⟩, ⟨i6.1, i6.2.1, (ud 6 (by omega)).trans i6.2.2.1, fun i hi => ⟨(i6.2.2.2 i hi).1.trans (ud _ (by omega)).symm, ?_⟩⟩, ⟨i7.1, i7.2.1, (ud 7 (by omega)).trans i7.2.2.1, fun i hi => (i7.2.2.2 i hi).trans (ud _ (by omega)).symm⟩⟩, hK, hC, hE, hV, s0, s1, s2, s3⟩
  · show a1 = upd (ms.2.1 0) 5 a1 5
    unfold upd; rw [if_pos rfl]
  · obtain ⟨v, q1, q2⟩ := (i6.2.2.2 i hi).2
    exact ⟨v, q1, (ud _ (by omega)).trans q2⟩
theorem p8_becomes {k : Nat} (hk : k < 229) {i x : Int32} (hi : i = nI k) {d : Nat → Int32} {P : Int32 → (Nat → Int32) → Prop} (h : P (d k) (upd d k x)) : wp_X8_becomes i x d P := by
  subst hi
  unfold wp_X8_becomes
  rw [nI_clamp (n := k) (by omega)]
  exact ⟨ix hk (by omega), ix hk (by omega), h⟩
theorem st_fire : ST_fire Rel := by
  intro cs ms h a1 a2
  obtain ⟨hT, hK, hC, hE, hV, s0, s1, s2, s3⟩ := id h
  have er := er_up hE (k := 1) (by omega)
  obtain ⟨t, a, b, i1, i2, i3, i4, i5, i6, i7⟩ := id hT
  have iO : TO _ _ _ _ _ _ _ a b _ := ⟨i5, i6, i7⟩
  obtain ⟨f1, f2, f3, f4, f5, f6, f7, f8, f9⟩ := id i3
  have m := i4.1
  rcases Classical.em (a1 = 0) with z0 | z0
  · subst z0
    by_cases g2 : 0 ≤ a2 ∧ a2 ≤ 99
    · obtain ⟨v, hv, rfl⟩ := rg (m := 99) (by omega) g2
      refine br_t rfl (w7t g2 (yes (w8t 0 2 (by decide) (yes (br_t rfl (w8t 0 99 g2 (yes (p8_becomes (k := 2) (by omega) (by decide) ?_))))))))
      have k2 : kp (ms.2.1 0) (upd (ms.2.1 0) 2 (nI v)) := kp_up (by omega) (by omega) (by omega) (by omega)
      exact ⟨f2.trans m.2.2.1.symm, ⟨((t.1.1, v, t.1.2.2), t.2), a, b, ⟨ZB_f i1.1 hv, i1.2⟩, i2, ⟨f1, rfl, f3, f4, f5, f6, f7, f8, f9⟩, TM_kp i4 k2 (RD_2 m v), TO_kp iO k2⟩, hK, hC, hE, hV, s0, s1, s2, s3⟩
    · exact br_t rfl (w7f g2 (no (br_f (by decide) (br_f (by decide) (e7 1 (by omega) (w8t 0 2 (by decide) (yes (br_t rfl (w8f 0 99 g2 (no (e8 1 (by omega) ⟨rfl, hT, hK, hC, er, hV, s0, s1, s2, s3⟩)))))))))))
  · rcases Classical.em (a1 = 1) with z1 | z1
    · subst z1
      by_cases g2 : 0 ≤ a2 ∧ a2 ≤ 9999
      · obtain ⟨v, hv, rfl⟩ := rg (m := 9999) (by omega) g2
        refine br_f z0 (br_t rfl (w7t g2 (yes (w8t 0 2 (by decide) (yes (br_f z0 (br_t rfl (w8t 0 9999 g2 (yes (p8_becomes (k := 3) (by omega) (by decide) ?_))))))))))
        have k2 : kp (ms.2.1 0) (upd (ms.2.1 0) 3 (nI v)) := kp_up (by omega) (by omega) (by omega) (by omega)
        exact ⟨f3.trans m.2.2.2.1.symm, ⟨(t.1, (t.2.1.1, t.2.1.2.1, v, t.2.1.2.2.2), t.2.2), a, b, ⟨i1.1, ⟨i1.2.1.1, i1.2.1.2.1, hv, i1.2.1.2.2.2⟩, i1.2.2⟩, i2, ⟨f1, f2, rfl, f4, f5, f6, f7, f8, f9⟩, TM_kp i4 k2 (RD_3 m v), TO_kp iO k2⟩, hK, hC, hE, hV, s0, s1, s2, s3⟩
      · exact br_f z0 (br_t rfl (w7f g2 (no (br_f (by decide) (e7 1 (by omega) (w8t 0 2 (by decide) (yes (br_f z0 (br_t rfl (w8f 0 9999 g2 (no (e8 1 (by omega) ⟨rfl, hT, hK, hC, er, hV, s0, s1, s2, s3⟩))))))))))))
    · rcases Classical.em (a1 = 2) with z2 | z2
      · subst z2
        by_cases g2 : 0 ≤ a2 ∧ a2 ≤ 99999
        · obtain ⟨v, hv, rfl⟩ := rg (m := 99999) (by omega) g2
          refine br_f z0 (br_f z1 (br_t rfl (w7t g2 (yes (w8t 0 2 (by decide) (yes (br_f z0 (br_f z1 (w8t 0 99999 g2 (yes (p8_becomes (k := 4) (by omega) (by decide) ?_)))))))))))
          have k2 : kp (ms.2.1 0) (upd (ms.2.1 0) 4 (nI v)) := kp_up (by omega) (by omega) (by omega) (by omega)
          exact ⟨f4.trans m.2.2.2.2.1.symm, ⟨(t.1, (t.2.1.1, t.2.1.2.1, t.2.1.2.2.1, v, t.2.1.2.2.2.2), t.2.2), a, b, ⟨i1.1, ⟨i1.2.1.1, i1.2.1.2.1, i1.2.1.2.2.1, hv, i1.2.1.2.2.2.2⟩, i1.2.2⟩, i2, ⟨f1, f2, f3, rfl, f5, f6, f7, f8, f9⟩, TM_kp i4 k2 (RD_4 m v), TO_kp iO k2⟩, hK, hC, hE, hV, s0, s1, s2, s3⟩
        · exact br_f z0 (br_f z1 (br_t rfl (w7f g2 (no (e7 1 (by omega) (w8t 0 2 (by decide) (yes (br_f z0 (br_f z1 (w8f 0 99999 g2 (no (e8 1 (by omega) ⟨rfl, hT, hK, hC, er, hV, s0, s1, s2, s3⟩))))))))))))
      · have g1 : ¬ (0 ≤ a1 ∧ a1 ≤ 2) := fun q => by
          obtain ⟨j, hj, rfl⟩ := rg (m := 2) (by omega) q
          have : j = 0 ∨ j = 1 ∨ j = 2 := by omega
          rcases this with rfl | rfl | rfl
          · exact z0 rfl
          · exact z1 rfl
          · exact z2 rfl
        exact br_f z0 (br_f z1 (br_f z2 (e7 1 (by omega) (w8f 0 2 g1 (no (e8 1 (by omega) ⟨rfl, hT, hK, hC, er, hV, s0, s1, s2, s3⟩))))))
