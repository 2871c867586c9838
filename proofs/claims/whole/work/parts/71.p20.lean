/-! PURE 20: steps: then, hours -/
theorem tB0 {t : TT} {n : Nat} : tB t 0 n = (t.1, hrN t.1 t.2.1 n, t.2.2) := by unfold tB; rw [Nat.xor_zero]
theorem n9 (c : Nat) : ((9 : Int32) + nI c) = nI (9 + c) := nI_add 9 c
theorem st_then : ST_then Rel := by
  intro cs ms h a1 a2
  obtain ⟨hT, hK, hC, hE, hV, s0, s1, s2, s3⟩ := id h
  have er := er_up hE (k := 1) (by omega)
  obtain ⟨t, a, b, i1, i2, i3, i4, i5, i6, i7⟩ := id hT
  obtain ⟨ct, bc, hct⟩ := hC
  by_cases g1 : 0 ≤ a1 ∧ a1 ≤ 60
  · by_cases g2 : 0 ≤ a2 ∧ a2 ≤ 15
    · obtain ⟨n, hn, rfl⟩ := rg (m := 60) (by omega) g1
      obtain ⟨c, hc, rfl⟩ := rg (m := 15) (by omega) g2
      refine w7t g1 (yes (c7t g2 (yes (s7_behind (set := 0) i1 i3 (by omega) (by omega) (by omega) hK.2.2.2.2.1 hK.2.2.2.2.2 i6.1 i7.1 i6.2.1 i7.2.1 (fun _ _ _ _ _ _ _ _ _ _ _ _ _ _ _ _ _ _ _ _ _ _ _ hT' => ?_)))))
      refine ⟨ix (by omega) (by omega), w8t 0 60 g1 (yes (c8t g2 (yes (s8_keepAside (fun a' ha => ?_)))))⟩
      rw [n9]
      refine s8_behind (dA := (ms.2.1 0)) i1 i4 (by omega) (by omega) hct bc (by omega) ha (fun _ _ => rfl) (fun c' dn _ _ _ hdn hc' => ⟨?_, hT, hK, ⟨c', hc', rfl⟩, hE, hV, s0, s1, s2, s3⟩)
      rw [nI_clamp (by omega)]
      rw [tB0] at hT'
      exact (hT'.2.2.2.2.2.2.2.1 c (by omega)).trans (hdn.1.2.2.2.2.2.2.1 c (by omega)).symm
    · exact w7t g1 (yes (c7f g2 (no (e7 1 (by omega) (w8t 0 60 g1 (yes (c8f g2 (no (e8 1 (by omega) ⟨rfl, hT, hK, ⟨ct, bc, hct⟩, er, hV, s0, s1, s2, s3⟩)))))))))
  · exact w7f g1 (no (e7 1 (by omega) (w8f 0 60 g1 (no (e8 1 (by omega) ⟨rfl, hT, hK, ⟨ct, bc, hct⟩, er, hV, s0, s1, s2, s3⟩)))))
theorem st_hours : ST_hours Rel := by
  intro cs ms h a1
  obtain ⟨hT, hK, hC, hE, hV, s0, s1, s2, s3⟩ := id h
  have er := er_up hE (k := 1) (by omega)
  have er3 := er_up hE (k := 3) (by omega)
  obtain ⟨t, a, b, i1, i2, i3, i4, i5, i6, i7⟩ := id hT
  have iO : TO _ _ _ _ _ _ _ a b _ := ⟨i5, i6, i7⟩
  obtain ⟨f1, f2, f3, f4, f5, f6, f7, f8, f9⟩ := id i3
  obtain ⟨ct, bc, hct⟩ := hC
  by_cases g1 : 1 ≤ a1 ∧ a1 ≤ 60
  · obtain ⟨n, n1, hn, rfl⟩ := rg1 (l := 1) (m := 60) (by omega) (by omega) g1
    refine w7t g1 (yes ?_)
    by_cases g : t.2.1.2.2.2.2.1 + n ≤ 9999
    · refine br_t (by rw [f5, nI_add]; exact nI_le (b := 9999) g (by omega)) (s5_passT i1 i3 i5.1 i5.2.1 (by omega) (by omega) (fun wants' burnt' hour' content' heat' warm' going' wp' gp' h' => ?_))
      refine s7_heatOfAll h'.2.2.2.2.2.2.2.1 (w8t 1 60 g1 (yes (br_t ?_ ?_)))
      · rw [k1c, i4.1.2.1, nI_add]; exact nI_le (b := 9999) g (by omega)
      · refine s8_hoursT i1 i4 (by omega) (by omega) hct bc (fun c' d' _ _ _ hd' k2 hc' _ => s8_allHeat hd'.1.2.2.2.2.2.2.1 ⟨rfl, ?_⟩)
        refine ⟨⟨(t.1, hrN t.1 t.2.1 n, t.2.2), a, b, ⟨i1.1, hrN_b i1.1 i1.2.1 n, i1.2.2⟩, ?_, h', hd', TO_kp iO k2⟩, hK, ⟨c', hc', rfl⟩, hE, hV, s0, s1, s2, s3⟩
        show (hrN t.1 t.2.1 n).2.2.2.2.1 ≤ 9999
        rw [hrN_o]; exact g
    · refine br_f (fun z => g ?_) (e7 3 (by omega) (w8t 1 60 g1 (yes (br_f (fun z => g ?_) (e8 3 (by omega) ⟨rfl, hT, hK, ⟨ct, bc, hct⟩, er3, hV, s0, s1, s2, s3⟩)))))
      · rw [f5, nI_add] at z; exact (nI_leI (b := 9999) (by omega) (by omega)).mp z
      · rw [k1c, i4.1.2.1, nI_add] at z; exact (nI_leI (b := 9999) (by omega) (by omega)).mp z
  · exact w7f g1 (no (e7 1 (by omega) (w8f 1 60 g1 (no (e8 1 (by omega) ⟨rfl, hT, hK, ⟨ct, bc, hct⟩, er, hV, s0, s1, s2, s3⟩)))))
