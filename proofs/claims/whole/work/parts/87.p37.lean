/-! PURE 37: what is checked -/
def hSum (t : TT) (k : Nat) : Int32 := smI (fun c => nI ((hrN t.1 t.2.1 k).1 c)) 16
theorem s7_checkLoop {b : Nat} (hb : b ≤ 20) {wuse guse : Int32} {wtn : Nat → Int32} {t : TT} (hI : TI t) (ho : t.2.1.2.2.2.2.1 ≤ 9999) (hw : wuse = 0) (hg : guse = 1) (post : _)
    (h1 : ∀ i, i < b → (∀ j, j < i → wtn j = hSum t (j + 1)) → ¬ wtn i = hSum t (i + 1) → ∀ (o1 o2 o3 o4 o5 o6 o7 o8 : Int32) (r1 r2 r3 r4 r5 : Nat → Int32) (o9 o10 o11 : Int32) (r6 : Nat → Int32) (o12 : Int32) (r7 r8 r9 r10 r11 : Nat → Int32), post (nI (1 + i)) o1 o2 o3 o4 o5 o6 o7 o8 (0 : Int32) r1 r2 r3 r4 r5 o9 o10 o11 r6 o12 r7 r8 r9 r10 r11)
    (h0 : (∀ j, j < b → wtn j = hSum t (j + 1)) → ∀ (o1 o2 o3 o4 o5 o6 o7 o8 : Int32) (r1 r2 r3 r4 r5 : Nat → Int32) (o9 o10 o11 : Int32) (r6 : Nat → Int32) (o12 : Int32) (r7 r8 r9 r10 r11 : Nat → Int32), post (0 : Int32) o1 o2 o3 o4 o5 o6 o7 o8 (0 : Int32) r1 r2 r3 r4 r5 o9 o10 o11 r6 o12 r7 r8 r9 r10 r11) :
    ∀ k i, i + k = b → (∀ j, j < i → wtn j = hSum t (j + 1)) → ∀ (o1 o2 o3 o4 o5 o6 o7 o8 : Int32) (r1 r2 r3 r4 r5 : Nat → Int32) (o9 o10 o11 : Int32) (r6 : Nat → Int32) (o12 : Int32) (r7 r8 r9 r10 r11 : Nat → Int32), TC o1 o2 o3 o4 o5 o6 o7 r1 r2 r3 r4 o11 o12 r10 r11 (tH t i) → wp_X7_check_b20 wuse guse wtn post (k + 1) (0 : Int32) (nI i) o1 o2 o3 o4 o5 o6 o7 o8 (nI b) r1 r2 r3 r4 r5 o9 o10 o11 r6 o12 r7 r8 r9 r10 r11 := by
  intro k
  induction k with
  | zero =>
    intro i hi hz o1 o2 o3 o4 o5 o6 o7 o8 r1 r2 r3 r4 r5 o9 o10 o11 r6 o12 r7 r8 r9 r10 r11 hT
    have e : i = b := by omega
    subst e
    exact br_t (nI_le (Nat.le_refl _) (by omega)) (h0 hz o1 o2 o3 o4 o5 o6 o7 o8 r1 r2 r3 r4 r5 o9 o10 o11 r6 o12 r7 r8 r9 r10 r11)
  | succ k ih =>
    intro i hi hz o1 o2 o3 o4 o5 o6 o7 o8 r1 r2 r3 r4 r5 o9 o10 o11 r6 o12 r7 r8 r9 r10 r11 hT
    refine br_f (nI_ge (by omega) (by omega)) (br_t rfl (s5_passT (n := 1) (TI_H hI i) hT hw hg (by omega) (by rw [tH_o]; omega) (fun p1 p2 p3 p4 q1 q2 q3 q4 q5 h' => p3_at (N := 20) (by omega) (show i < b by omega) hb (s7_heatOfAll (f := fun c => nI ((hrN t.1 t.2.1 (i + 1)).1 c)) h'.2.2.2.2.2.2.2.1 ⟨fun w => ?_, fun w => ?_⟩))))
    · rw [nI_1]
      refine ih (i + 1) (by omega) (fun j hj => ?_) _ _ _ _ _ _ _ _ _ _ _ _ _ _ _ _ _ _ _ _ _ _ _ h'
      by_cases z : j = i
      · rw [z]; exact w
      · exact hz j (by omega)
    · have a := h1 i (by omega) hz w
      have e1 : (1 : Int32) + nI i = nI (1 + i) := nI_add 1 i
      have ne : ¬ nI (1 + i) = 0 := fun z => by
        have := (nI_eq (a := 1 + i) (b := 0) (by omega) (by omega)).mp z
        omega
      rw [nI_1, e1]
      refine ⟨fun _ => a _ _ _ _ _ _ _ _ _ _ _ _ _ _ _ _ _ _ _ _ _ _ _, fun _ => br_f ne (a _ _ _ _ _ _ _ _ _ _ _ _ _ _ _ _ _ _ _ _ _ _ _)⟩
theorem s8_checkLoop {b : Nat} (hb : b ≤ 20) {wtn : Nat → Int32} {t : TT} (hI : TI t) (ho : t.2.1.2.2.2.2.1 ≤ 9999) {dA aside : Nat → Int32} (hA : ∀ i, i < 57 → aside i = dA i) (hwn : ∀ i, i < b → wtn i = dA (59 + i)) (post : _)
    (h1 : ∀ i, i < b → (∀ j, j < i → wtn j = hSum t (j + 1)) → ¬ wtn i = hSum t (i + 1) → ∀ (ct : Nat) (na pi fl : Nat → Int32), ct < 256 → post (nI (1 + i)) (nI ct) dA aside na pi fl)
    (h0 : (∀ j, j < b → wtn j = hSum t (j + 1)) → ∀ (ct : Nat) (na pi fl : Nat → Int32), ct < 256 → post (0 : Int32) (nI ct) dA aside na pi fl) :
    ∀ k i, i + k = b → (∀ j, j < i → wtn j = hSum t (j + 1)) → ∀ (ct : Nat) (d na pi fl : Nat → Int32), ct < 256 → TM d (tH t i) → (∀ i, 57 ≤ i → d i = dA i) → wp_X8_check_b24 post (k + 1) (nI b) (0 : Int32) (nI i) (nI ct) d aside na pi fl := by
  intro k
  induction k with
  | zero =>
    intro i hi hz ct d na pi fl hct hd hk
    have e : i = b := by omega
    subst e
    exact br_t (nI_le (Nat.le_refl _) (by omega)) (s8_back hA hk (h0 hz ct na pi fl hct))
  | succ k ih =>
    intro i hi hz ct d na pi fl hct hd hk
    have hb' := hrN_b hI.1 hI.2.1 (i + 1)
    refine br_f (nI_ge (by omega) (by omega)) (br_t rfl (s8_hourT (TI_H hI i) hd (by rw [tH_o]; omega) (fun d' na' pi' fl' hd' k2 => ?_)))
    rw [i59 (show i < 20 by omega), nI_clamp (n := 59 + i) (by omega)]
    have hk' : ∀ i, 57 ≤ i → d' i = dA i := fun i hi => (k2.2.2.2 i hi).trans (hk i hi)
    refine ⟨ix (by omega) (by omega), s8_allHeat (f := fun c => nI ((hrN t.1 t.2.1 (i + 1)).1 c)) hd'.1.2.2.2.2.2.2.1 ?_⟩
    rw [hk' (59 + i) (by omega), ← hwn i (by omega)]
    refine ⟨fun w => ?_, fun w => ?_⟩
    · rw [nI_1]
      refine ih (i + 1) (by omega) (fun j hj => ?_) _ d' na' pi' fl' hb'.2.2.2.2 hd' hk'
      by_cases z : j = i
      · rw [z]; exact w
      · exact hz j (by omega)
    · have a := h1 i (by omega) hz w
      have e1 : (1 : Int32) + nI i = nI (1 + i) := nI_add 1 i
      have ne : ¬ nI (1 + i) = 0 := fun z => by
        have := (nI_eq (a := 1 + i) (b := 0) (by omega) (by omega)).mp z
        omega
      rw [nI_1, e1]
      exact ⟨fun _ => s8_back hA hk' (a _ _ _ _ hb'.2.2.2.2), fun _ => br_f ne (s8_back hA hk' (a _ _ _ _ hb'.2.2.2.2))⟩
theorem st_check : ST_check Rel := by
  intro cs ms h
  obtain ⟨hT, hK, hC, hE, hV, s0, s1, s2, s3⟩ := id h
  obtain ⟨t, a, b, i1, i2, i3, i4, i5, i6, ⟨j1, j2, j3, j4⟩⟩ := id hT
  obtain ⟨ct, bc, hct⟩ := id hC
  have u7 : ∀ j, j ≠ 7 → upd (ms.2.1 0) 7 (0 : Int32) j = (ms.2.1 0) j := fun j hj => upd_ne hj
  have hM : TM (upd (ms.2.1 0) 7 (0 : Int32)) (tH t 0) := ⟨RD_ag i4.1 (fun j _ _ _ h7 => u7 j h7), (u7 57 (by omega)).trans i4.2.1, (u7 58 (by omega)).trans i4.2.2.1, fun i hi => (u7 _ (by omega)).trans (i4.2.2.2.1 i hi), fun i hi => (u7 _ (by omega)).trans (i4.2.2.2.2 i hi)⟩
  have hR : TR (cs.1 1) (cs.1 2) (cs.1 3) (cs.1 4) (cs.1 5) (cs.1 6) (cs.1 7) (cs.1 8) (cs.1 9) (cs.1 10) (cs.1 11) (cs.1 12) (cs.1 13) (0 : Int32) (cs.2.1 0) (cs.2.1 1) (cs.2.1 2) (cs.2.1 3) (cs.2.1 5) (cs.2.1 7) (cs.2.1 9) (cs.2.1 10) (upd (ms.2.1 0) 7 (0 : Int32)) :=
    ⟨t, a, 0, i1, i2, i3, hM, ⟨i5.1, i5.2.1, i5.2.2.trans (u7 5 (by omega)).symm⟩, ⟨i6.1, i6.2.1, (u7 6 (by omega)).trans i6.2.2.1, fun i hi => ⟨(i6.2.2.2 i hi).1.trans (u7 _ (by omega)).symm, by
      obtain ⟨v, q1, q2⟩ := (i6.2.2.2 i hi).2
      exact ⟨v, q1, (u7 _ (by omega)).trans q2⟩⟩⟩, ⟨by omega, rfl, upd_eq, fun i hi => absurd hi (Nat.not_lt_zero _)⟩⟩
  have hwn : ∀ i, i < b → (cs.2.1 10) i = upd (ms.2.1 0) 7 (0 : Int32) (59 + i) := fun i hi => (j4 i hi).trans (u7 _ (by omega)).symm
  have ref : ∀ {P : _}, (∀ i, i < b → (∀ j, j < i → (cs.2.1 10) j = hSum t (j + 1)) → ¬ (cs.2.1 10) i = hSum t (i + 1) → ∀ (as : Nat → Int32) (ct : Nat) (na pi fl : Nat → Int32), ct < 256 → P (nI (1 + i)) (nI ct) (upd (ms.2.1 0) 7 (0 : Int32)) as na pi fl) → ((∀ j, j < b → (cs.2.1 10) j = hSum t (j + 1)) → ∀ (as : Nat → Int32) (ct : Nat) (na pi fl : Nat → Int32), ct < 256 → P (0 : Int32) (nI ct) (upd (ms.2.1 0) 7 (0 : Int32)) as na pi fl) → wp_X8_check (ms.1 8) (ms.2.1 0) (ms.2.1 2) (ms.2.1 4) (ms.2.1 6) (ms.2.1 7) P := fun {P} p1 p0 => by
    unfold wp_X8_check
    rw [kc7, j3, hct]
    exact s8_keepAside (fun a' hA => ⟨b + 1, s8_checkLoop j1 i1 i2 hA hwn P (fun i hi hz hw ct na pi fl h => p1 i hi hz hw a' ct na pi fl h) (fun hz ct na pi fl h => p0 hz a' ct na pi fl h) b 0 (by omega) (fun j hj => absurd hj (Nat.not_lt_zero _)) ct _ _ _ _ bc hM (fun _ _ => rfl)⟩)
  unfold wp_X7_check
  refine s7_behind (set := 0) (n := 0) i1 i3 (by omega) (by omega) (by omega) hK.2.2.2.2.1 hK.2.2.2.2.2 i6.1 j1 i6.2.1 j2 (fun o1 o2 o3 o4 o5 o6 o7 o8 r1 r2 r3 r4 r5 o9 o10 o11 r6 o12 r7 r8 r9 r10 r11 hT' => ⟨b + 1, ?_⟩)
  rw [tB0] at hT'
  rw [j2]
  refine s7_checkLoop j1 i1 i2 hK.2.2.2.2.1 hK.2.2.2.2.2 _ (fun i hi hz hw _ _ _ _ _ _ _ _ _ _ _ _ _ _ _ _ _ _ _ _ _ _ _ => ?_) (fun hz _ _ _ _ _ _ _ _ _ _ _ _ _ _ _ _ _ _ _ _ _ _ _ => ?_) b 0 (by omega) (fun j hj => absurd hj (Nat.not_lt_zero _)) o1 o2 o3 o4 o5 o6 o7 o8 r1 r2 r3 r4 r5 o9 o10 o11 r6 o12 r7 r8 r9 r10 r11 hT'
  · exact ref (fun i' hi' hz' hw' as ct' na pi fl hct' => by
      have e : i' = i := by
        rcases Nat.lt_trichotomy i' i with z | z | z
        · exact absurd (hz i' z) hw'
        · exact z
        · exact absurd (hz' i z) hw
      subst e
      exact ⟨rfl, hR, hK, ⟨ct', hct', rfl⟩, hE, hV, s0, s1, s2, s3⟩) (fun hz' => absurd (hz' i hi) hw)
  · exact ref (fun i' hi' hz' hw' => absurd (hz i' hi') hw') (fun hz' as ct' na pi fl hct' => ⟨rfl, hR, hK, ⟨ct', hct', rfl⟩, hE, hV, s0, s1, s2, s3⟩)
