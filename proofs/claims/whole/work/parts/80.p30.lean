/-! PURE 30: what is burnt, who is glad -/
theorem st_fuel : ST_fuel Rel := by
  intro cs ms h a1
  obtain ⟨hT, hK, hC, hE, hV, s0, s1, s2, s3⟩ := id h
  have er := er_up hE (k := 1) (by omega)
  obtain ⟨t, a, b, i1, i2, i3, i4, i5, i6, i7⟩ := id hT
  obtain ⟨ct, bc, hct⟩ := id hC
  by_cases g1 : 0 ≤ a1 ∧ a1 ≤ 60
  · obtain ⟨n, hn, rfl⟩ := rg (m := 60) (by omega) g1
    refine w7t g1 (yes (s7_behind (set := 0) i1 i3 (by omega) (by omega) (by omega) hK.2.2.2.2.1 hK.2.2.2.2.2 i6.1 i7.1 i6.2.1 i7.2.1 (fun _ _ _ _ _ _ _ _ _ _ _ _ _ _ _ _ _ _ _ _ _ _ _ hT' => ?_)))
    refine w8t 0 60 g1 (yes (s8_keepAside (fun a' ha => ?_)))
    refine s8_behind (w := 4) (dA := (ms.2.1 0)) i1 i4 (by omega) (by omega) hct bc (by omega) ha (fun _ _ => rfl) (fun c' dn _ _ _ hdn hc' => ⟨?_, hT, hK, ⟨c', hc', rfl⟩, hE, hV, s0, s1, s2, s3⟩)
    rw [tB0] at hT'
    rw [kc4]
    exact congr (congrArg HSub.hSub (hT'.2.2.2.1.trans hdn.1.2.2.2.2.1.symm)) (i3.2.2.2.1.trans i4.1.2.2.2.2.1.symm)
  · exact w7f g1 (no (e7 1 (by omega) (w8f 0 60 g1 (no (e8 1 (by omega) ⟨rfl, hT, hK, hC, er, hV, s0, s1, s2, s3⟩)))))
theorem st_glad : ST_glad Rel := by
  intro cs ms h a1
  obtain ⟨hT, hK, hC, hE, hV, s0, s1, s2, s3⟩ := id h
  have er := er_up hE (k := 1) (by omega)
  obtain ⟨t, a, b, i1, i2, i3, i4, i5, i6, i7⟩ := id hT
  obtain ⟨ct, bc, hct⟩ := id hC
  have hN := i1.1.2.2.1
  have f6 := i3.2.2.2.2.2.1
  by_cases g1 : 0 ≤ a1 ∧ a1 ≤ 60
  · obtain ⟨n, hn, rfl⟩ := rg (m := 60) (by omega) g1
    refine w7t g1 (yes (s7_behind (set := 0) i1 i3 (by omega) (by omega) (by omega) hK.2.2.2.2.1 hK.2.2.2.2.2 i6.1 i7.1 i6.2.1 i7.2.1 (fun o1 o2 o3 o4 o5 o6 o7 o8 r1 r2 r3 r4 r5 o9 o10 o11 r6 o12 r7 r8 r9 r10 r11 hT' => ?_)))
    rw [tB0] at hT'
    have e6 : o6 = nI t.1.2.2.1 := hT'.2.2.2.2.2.1
    have e11 : ∀ j, j < 8 → r4 j = nI ((hrN t.1 t.2.1 n).2.1 j) := hT'.2.2.2.2.2.2.2.2.2.2.1
    rw [e6]
    refine s7_warmOfAll hN e11 ?_
    refine (by rw [f6]; exact id : wp_X5_warmOfAll (nI t.1.2.2.1) (cs.2.1 3) _ → wp_X5_warmOfAll (cs.1 6) (cs.2.1 3) _) (s7_warmOfAll hN i3.2.2.2.2.2.2.2.2.2.2.1 ?_)
    refine w8t 0 60 g1 (yes (s8_keepAside (fun a' ha => ?_)))
    refine s8_hoursT i1 i4 (by omega) (by omega) hct bc (fun c' d' _ _ _ hd' k2 hc' _ => ?_)
    refine s8_allWarm hN hd'.1.1 (fun c hc => (hd'.1.2.2.2.2.2.2.2 c hc).2.2.2) ?_
    refine s8_back ha k2.2.2.2 ?_
    exact s8_allWarm hN i4.1.1 (fun c hc => (i4.1.2.2.2.2.2.2.2 c hc).2.2.2) ⟨rfl, hT, hK, ⟨c', hc', rfl⟩, hE, hV, s0, s1, s2, s3⟩
  · exact w7f g1 (no (e7 1 (by omega) (w8f 0 60 g1 (no (e8 1 (by omega) ⟨rfl, hT, hK, hC, er, hV, s0, s1, s2, s3⟩)))))
