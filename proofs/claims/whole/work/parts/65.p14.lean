/-! PURE 14: steps: cells, doors, the fire -/
theorem st_heat : ST_heat Rel := by
  intro cs ms h a1 a2
  obtain ⟨hT, hK, hC, hE, hV, s0, s1, s2, s3⟩ := id h
  have er := er_up hE (k := 1) (by omega)
  by_cases g1 : 0 ≤ a1 ∧ a1 ≤ 15
  · by_cases g2 : 0 ≤ a2 ∧ a2 ≤ 999
    · refine c7t g1 (yes (w7t g2 (yes ?_)))
      obtain ⟨c, hc, rfl⟩ := rg (m := 15) (by omega) g1
      obtain ⟨v, hv, rfl⟩ := rg (m := 999) (by omega) g2
      refine ⟨ix (by omega) (by omega), ix (by omega) (by omega), c8t g1 (yes (w8t 0 999 g2 (yes ⟨v9 (by omega), v9 (by omega), ?_⟩)))⟩
      rw [i9 (by omega), nI_clamp (n := c) (by omega)]
      obtain ⟨t, a, b, i1, i2, i3, i4, i5, i6, i7⟩ := hT
      obtain ⟨e1, e2, e3, e4, e5, e6, e7, e8, e9⟩ := id i3
      obtain ⟨⟨m1, m2, m3, m4, m5, m6, m7, m8⟩, m9⟩ := id i4
      have ud : ∀ j, ¬ (9 ≤ j ∧ j < 25) → upd (ms.2.1 0) (9 + c) (nI v) j = (ms.2.1 0) j := fun j hj => by unfold upd; rw [if_neg (by omega)]
      refine ⟨(e8 c (by omega)).trans (m7 c (by omega)).symm, ⟨(t.1, (va_up t.2.1.1 c v, t.2.1.2), t.2.2), a, b, ⟨i1.1, ⟨fun j hj => ?_, i1.2.1.2⟩, i1.2.2⟩, i2, ⟨e1, e2, e3, e4, e5, e6, e7, fun j hj => ?_, e9⟩, ⟨⟨?_, ?_, ?_, ?_, ?_, ?_, fun j hj => ?_, fun j hj => ⟨?_, ?_, ?_, ?_⟩⟩, ?_, ?_, fun j hj => ?_, fun j hj => ?_⟩, ⟨i5.1, i5.2.1, ?_⟩, ⟨i6.1, i6.2.1, ?_, fun j hj => ?_⟩, ⟨i7.1, i7.2.1, ?_, fun j hj => ?_⟩⟩, hK, hC, hE, hV, s0, s1, s2, s3⟩
      · show va_up _ _ _ j ≤ 999
        unfold va_up
        by_cases q : j = c
        · rw [if_pos q]; omega
        · rw [if_neg q]; exact i1.2.1.1 j hj
      · show upd _ c (nI v) j = nI (va_up _ _ _ j)
        unfold upd va_up
        by_cases q : j = c
        · rw [if_pos q, if_pos q]
        · rw [if_neg q, if_neg q]; exact e8 j hj
      · exact (ud 0 (by omega)).trans m1
      · exact (ud 1 (by omega)).trans m2
      · exact (ud 2 (by omega)).trans m3
      · exact (ud 3 (by omega)).trans m4
      · exact (ud 4 (by omega)).trans m5
      · exact (ud 8 (by omega)).trans m6
      · show upd _ (9 + c) (nI v) (9 + j) = nI (va_up _ _ _ j)
        unfold upd va_up
        by_cases q : j = c
        · rw [if_pos (by omega), if_pos q]
        · rw [if_neg (by omega), if_neg q]; exact m7 j hj
      · exact (ud _ (by omega)).trans (m8 j hj).1
      · exact (ud _ (by omega)).trans (m8 j hj).2.1
      · exact (ud _ (by omega)).trans (m8 j hj).2.2.1
      · exact (ud _ (by omega)).trans (m8 j hj).2.2.2
      · exact (ud _ (by omega)).trans m9.1
      · exact (ud _ (by omega)).trans m9.2.1
      · exact (ud _ (by omega)).trans (m9.2.2.1 j hj)
      · exact (ud _ (by omega)).trans (m9.2.2.2 j hj)
      · exact i5.2.2.trans (ud 5 (by omega)).symm
      · exact (ud 6 (by omega)).trans i6.2.2.1
      · obtain ⟨q1, q2⟩ := i6.2.2.2 j hj
        exact ⟨q1.trans (ud _ (by omega)).symm, by obtain ⟨w, q3, q4⟩ := q2; exact ⟨w, q3, (ud _ (by omega)).trans q4⟩⟩
      · exact (ud 7 (by omega)).trans i7.2.2.1
      · exact (i7.2.2.2 j hj).trans (ud _ (by omega)).symm
    · exact c7t g1 (yes (w7f g2 (no (e7 1 (by omega) (c8t g1 (yes (w8f 0 999 g2 (no (e8 1 (by omega) ⟨rfl, hT, hK, hC, er, hV, s0, s1, s2, s3⟩)))))))))
  · exact c7f g1 (no (e7 1 (by omega) (c8f g1 (no (e8 1 (by omega) ⟨rfl, hT, hK, hC, er, hV, s0, s1, s2, s3⟩)))))
