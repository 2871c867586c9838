/-! PURE 26: how long a cell keeps its heat -/
def tF0 (t : TT) : TT := ((t.1.1, 0, t.1.2.2), t.2)
theorem TI_F0 {t : TT} (h : TI t) : TI (tF0 t) := ⟨ZB_f h.1 (by omega), h.2⟩
def kH (t : TT) (c i : Nat) : Nat := (tH (tF0 t) i).2.1.1 c
theorem kH_b {t : TT} (hI : TI t) {c : Nat} (hc : c < 16) (i : Nat) : kH t c i ≤ 999 := (TI_H (TI_F0 hI) i).2.1.1 c hc
theorem s7_keepsLoop {c x : Nat} (hc : c < 16) (hx : x ≤ 999) {wuse guse : Int32} {t : TT} (hI : TI t) (ho : t.2.1.2.2.2.2.1 ≤ 9999) (hw : wuse = 0) (hg : guse = 1) (errors : Nat → Int32) (post : _)
    (h1 : ∀ i, i ≤ 60 → (∀ j, j < i → x ≤ kH t c j) → kH t c i < x → ∀ (o1 o2 o3 o4 o5 o6 o7 o8 : Int32) (r1 r2 r3 r4 r5 : Nat → Int32) (o9 o10 o11 : Int32) (r6 : Nat → Int32) (o12 : Int32) (r7 r8 r9 r10 r11 : Nat → Int32), post (nI i) o1 o2 o3 o4 o5 o6 o7 o8 errors r1 r2 r3 r4 r5 o9 o10 o11 r6 o12 r7 r8 r9 r10 r11)
    (h0 : (∀ j, j ≤ 60 → x ≤ kH t c j) → ∀ (o1 o2 o3 o4 o5 o6 o7 o8 : Int32) (r1 r2 r3 r4 r5 : Nat → Int32) (o9 o10 o11 : Int32) (r6 : Nat → Int32) (o12 : Int32) (r7 r8 r9 r10 r11 : Nat → Int32), post ((-1000000000 : Int32) - nI 2) o1 o2 o3 o4 o5 o6 o7 o8 (upd errors 2 (errors 2 + 1)) r1 r2 r3 r4 r5 o9 o10 o11 r6 o12 r7 r8 r9 r10 r11) :
    ∀ k i, i + k = 61 → (∀ j, j < i → x ≤ kH t c j) → ∀ (o1 o2 o3 o4 o5 o6 o7 o8 : Int32) (r1 r2 r3 r4 r5 : Nat → Int32) (o9 o10 o11 : Int32) (r6 : Nat → Int32) (o12 : Int32) (r7 r8 r9 r10 r11 : Nat → Int32), TC o1 o2 o3 o4 o5 o6 o7 r1 r2 r3 r4 o11 o12 r10 r11 (tH (tF0 t) i) → wp_X7_keeps_b40 (nI c) wuse guse post (k + 1) (nI x) (nI i) o1 o2 o3 o4 o5 o6 o7 o8 errors r1 r2 r3 r4 r5 o9 o10 o11 r6 o12 r7 r8 r9 r10 r11 := by
  intro k
  induction k with
  | zero =>
    intro i hi hz o1 o2 o3 o4 o5 o6 o7 o8 r1 r2 r3 r4 r5 o9 o10 o11 r6 o12 r7 r8 r9 r10 r11 hT
    exact br_t (nI_lt (a := 60) (by omega) (by omega)) (e7 2 (by omega) (h0 (fun j hj => hz j (by omega)) o1 o2 o3 o4 o5 o6 o7 o8 r1 r2 r3 r4 r5 o9 o10 o11 r6 o12 r7 r8 r9 r10 r11))
  | succ k ih =>
    intro i hi hz o1 o2 o3 o4 o5 o6 o7 o8 r1 r2 r3 r4 r5 o9 o10 o11 r6 o12 r7 r8 r9 r10 r11 hT
    have hb := kH_b hI hc i
    have e : r1 c = nI (kH t c i) := hT.2.2.2.2.2.2.2.1 c hc
    refine br_f (fun z => ?_) ⟨ix hc (by omega), ?_⟩
    · have := (nI_ltI (a := 60) (b := i) (by omega) (by omega)).mp z
      omega
    · rw [nI_clamp (n := c) (by omega), e]
      refine ⟨fun q => s5_passT (n := 1) (TI_H (TI_F0 hI) i) hT hw hg (by omega) (by rw [tH_o]; show t.2.1.2.2.2.2.1 + i + 1 ≤ 20000; omega) (fun _ _ _ _ _ _ _ _ _ h' => ?_), fun q => h1 i (by omega) hz (Nat.not_le.mp (fun w => q ((nI_leI (by omega) (by omega)).mpr w))) o1 o2 o3 o4 o5 o6 o7 o8 r1 r2 r3 r4 r5 o9 o10 o11 r6 o12 r7 r8 r9 r10 r11⟩
      rw [nI_1]
      refine ih (i + 1) (by omega) (fun j hj => ?_) _ _ _ _ _ _ _ _ _ _ _ _ _ _ _ _ _ _ _ _ _ _ _ h'
      by_cases w : j = i
      · rw [w]; exact (nI_leI (by omega) (by omega)).mp q
      · exact hz j (by omega)
theorem s8_keepsYes {c x : Nat} (hc : c < 16) (hx : x ≤ 999) {t : TT} (hI : TI t) (ho : t.2.1.2.2.2.2.1 ≤ 9999) {dA aside found : Nat → Int32} (hA : ∀ i, i < 57 → aside i = dA i) (post : _) {i : Nat} (hi : i ≤ 60) (hz : ∀ j, j < i → x ≤ kH t c j) (hy : kH t c i < x)
    (hp : ∀ (ct : Nat) (na pi fl : Nat → Int32), ct < 256 → post (nI i) (nI ct) dA aside found na pi fl) :
    ∀ k j, j + k = i → ∀ (ct : Nat) (d na pi fl : Nat → Int32), ct < 256 → TM d (tH (tF0 t) j) → (∀ i, 57 ≤ i → d i = dA i) → wp_X8_keeps_b38 (nI c) post (k + 1) (nI x) (nI j) (nI ct) d aside found na pi fl := by
  intro k
  induction k with
  | zero =>
    intro j hj ct d na pi fl hct hd hk
    have e : j = i := by omega
    subst e
    have hb := kH_b hI hc j
    have ed : d (9 + c) = nI (kH t c j) := hd.1.2.2.2.2.2.2.1 c hc
    have fin : wp_X8_keeps_b67 (nI c) post (nI x) (nI j) (nI ct) d aside found na pi fl := by
      unfold wp_X8_keeps_b67
      rw [i9 (by omega), ed]
      exact ⟨v9 (by omega), br_f (fun z => by have := (nI_leI (by omega) (by omega)).mp z; omega) (s8_back hA hk (yes (hp ct na pi fl hct)))⟩
    refine ⟨fun _ => fin, fun _ => ⟨v9 (by omega), ?_⟩⟩
    rw [i9 (by omega), ed]
    exact br_t (nI_lt hy (by omega)) fin
  | succ k ih =>
    intro j hj ct d na pi fl hct hd hk
    have hb := kH_b hI hc j
    have hb' := (TI_H (TI_F0 hI) (j + 1)).2.1.2.2.2.2
    have ed : d (9 + c) = nI (kH t c j) := hd.1.2.2.2.2.2.2.1 c hc
    have hzj := hz j (by omega)
    refine br_f (nI_ge (a := j) (b := 60) (by omega) (by omega)) ⟨v9 (by omega), ?_⟩
    rw [i9 (by omega), ed]
    refine br_f (fun z => by have := (nI_ltI (by omega) (by omega)).mp z; omega) (s8_hourT (TI_H (TI_F0 hI) j) hd (by rw [tH_o]; show t.2.1.2.2.2.2.1 + j < 20000; omega) (fun d' na' pi' fl' hd' k2 => ?_))
    rw [nI_1]
    exact ih (j + 1) (by omega) _ d' na' pi' fl' hb' hd' (fun i hi => (k2.2.2.2 i hi).trans (hk i hi))
theorem s8_keepsNo {c x : Nat} (hc : c < 16) (hx : x ≤ 999) {t : TT} (hI : TI t) (ho : t.2.1.2.2.2.2.1 ≤ 9999) {dA aside found : Nat → Int32} (hA : ∀ i, i < 57 → aside i = dA i) (post : _) (hz : ∀ j, j ≤ 60 → x ≤ kH t c j)
    (hp : ∀ (ct : Nat) (na pi fl : Nat → Int32), ct < 256 → post ((-1000000000 : Int32) - nI 2) (nI ct) dA aside (upd found 2 (found 2 + 1)) na pi fl) :
    ∀ k j, j + k = 60 → ∀ (ct : Nat) (d na pi fl : Nat → Int32), ct < 256 → TM d (tH (tF0 t) j) → (∀ i, 57 ≤ i → d i = dA i) → wp_X8_keeps_b38 (nI c) post (k + 1) (nI x) (nI j) (nI ct) d aside found na pi fl := by
  intro k
  induction k with
  | zero =>
    intro j hj ct d na pi fl hct hd hk
    have hb := kH_b hI hc j
    have ed : d (9 + c) = nI (kH t c j) := hd.1.2.2.2.2.2.2.1 c hc
    have hzj := hz j (by omega)
    refine br_t (nI_le (a := 60) (by omega) (by omega)) ?_
    unfold wp_X8_keeps_b67
    rw [i9 (by omega), ed]
    exact ⟨v9 (by omega), br_t (nI_le hzj (by omega)) (s8_back hA hk (no (e8 2 (by omega) (hp ct na pi fl hct))))⟩
  | succ k ih =>
    intro j hj ct d na pi fl hct hd hk
    have hb := kH_b hI hc j
    have hb' := (TI_H (TI_F0 hI) (j + 1)).2.1.2.2.2.2
    have ed : d (9 + c) = nI (kH t c j) := hd.1.2.2.2.2.2.2.1 c hc
    have hzj := hz j (by omega)
    refine br_f (nI_ge (a := j) (b := 60) (by omega) (by omega)) ⟨v9 (by omega), ?_⟩
    rw [i9 (by omega), ed]
    refine br_f (fun z => by have := (nI_ltI (by omega) (by omega)).mp z; omega) (s8_hourT (TI_H (TI_F0 hI) j) hd (by rw [tH_o]; show t.2.1.2.2.2.2.1 + j < 20000; omega) (fun d' na' pi' fl' hd' k2 => ?_))
    rw [nI_1]
    exact ih (j + 1) (by omega) _ d' na' pi' fl' hb' hd' (fun i hi => (k2.2.2.2 i hi).trans (hk i hi))
theorem st_keeps : ST_keeps Rel := by
  intro cs ms h a1
  obtain ⟨hT, hK, hC, hE, hV, s0, s1, s2, s3⟩ := id h
  have er := er_up hE (k := 1) (by omega)
  have er2 := er_up hE (k := 2) (by omega)
  obtain ⟨t, a, b, i1, i2, i3, i4, i5, i6, i7⟩ := id hT
  obtain ⟨ct, bc, hct⟩ := id hC
  by_cases g1 : 0 ≤ a1 ∧ a1 ≤ 15
  · obtain ⟨c, hc, rfl⟩ := rg (m := 15) (by omega) g1
    have hH := i1.2.1.1 c (by omega)
    have eh := i3.2.2.2.2.2.2.2.1 c (by omega)
    have em := i4.1.2.2.2.2.2.2.1 c (by omega)
    refine c7t g1 (yes ⟨ix (by omega) (by omega), ?_⟩)
    rw [nI_clamp (by omega), eh, show nI (t.2.1.1 c) / (2 : Int32) = nI (t.2.1.1 c / 2) from pk_div (d := 2) (by omega) (by omega) (by omega)]
    have k2 : kp (ms.2.1 0) (upd (ms.2.1 0) 2 (nI 0)) := kp_up (by omega) (by omega) (by omega) (by omega)
    have m3 : TM (upd (ms.2.1 0) 2 (nI 0)) ((t.1.1, 0, t.1.2.2), t.2.1, t.2.2) := TM_kp i4 k2 (RD_2 i4.1 0)
    have m2 : TM (upd (ms.2.1 0) 2 (nI 0)) (tH (tF0 t) 0) := m3
    have ref : ∀ {P : _}, (∀ (as : Nat → Int32), (∀ i, i < 57 → as i = (ms.2.1 0) i) → ∃ k, wp_X8_keeps_b38 (nI c) P k (nI (t.2.1.1 c / 2)) (nI 0) (nI ct) (upd (ms.2.1 0) 2 (nI 0)) as (ms.2.1 3) (ms.2.1 4) (ms.2.1 6) (ms.2.1 7)) → wp_X8_keeps (nI c) (ms.1 8) (ms.2.1 0) (ms.2.1 2) (ms.2.1 3) (ms.2.1 4) (ms.2.1 6) (ms.2.1 7) P := fun p => c8t g1 (yes (s8_keepAside (fun a' hA => ⟨v9 (by omega), by
      rw [i9 (by omega), em, hct, kc2, show nI (t.2.1.1 c) / (2 : Int32) = nI (t.2.1.1 c / 2) from pk_div (d := 2) (by omega) (by omega) (by omega)]
      exact p a' hA⟩)))
    refine s7_behind (set := 0) (n := 0) i1 i3 (by omega) (by omega) (by omega) hK.2.2.2.2.1 hK.2.2.2.2.2 i6.1 i7.1 i6.2.1 i7.2.1 (fun o1 o2 o3 o4 o5 o6 o7 o8 r1 r2 r3 r4 r5 o9 o10 o11 r6 o12 r7 r8 r9 r10 r11 hT' => ⟨62, ?_⟩)
    rw [tB0] at hT'
    have hT2 : TC o1 (0 : Int32) o3 o4 o5 o6 o7 r1 r2 r3 r4 o11 o12 r10 r11 (tH (tF0 t) 0) := ⟨hT'.1, rfl, hT'.2.2⟩
    refine s7_keepsLoop (by omega) (by omega) i1 i2 hK.2.2.2.2.1 hK.2.2.2.2.2 _ _ (fun i hi hz hy _ _ _ _ _ _ _ _ _ _ _ _ _ _ _ _ _ _ _ _ _ _ _ => ?_) (fun hz _ _ _ _ _ _ _ _ _ _ _ _ _ _ _ _ _ _ _ _ _ _ _ => ?_) 61 0 rfl (fun j hj => absurd hj (Nat.not_lt_zero _)) _ _ _ _ _ _ _ _ _ _ _ _ _ _ _ _ _ _ _ _ _ _ _ hT2
    · exact ref (fun as hA => ⟨i + 1, s8_keepsYes (by omega) (by omega) i1 i2 hA _ hi hz hy (fun ct' na pi fl hct' => ⟨rfl, hT, hK, ⟨ct', hct', rfl⟩, hE, hV, s0, s1, s2, s3⟩) i 0 (by omega) ct _ _ _ _ bc m2 (fun i hi => k2.2.2.2 i hi)⟩)
    · exact ref (fun as hA => ⟨61, s8_keepsNo (by omega) (by omega) i1 i2 hA _ hz (fun ct' na pi fl hct' => ⟨rfl, hT, hK, ⟨ct', hct', rfl⟩, er2, hV, s0, s1, s2, s3⟩) 60 0 rfl ct _ _ _ _ bc m2 (fun i hi => k2.2.2.2 i hi)⟩)
  · exact c7f g1 (no (e7 1 (by omega) (c8f g1 (no (e8 1 (by omega) ⟨rfl, hT, hK, hC, er, hV, s0, s1, s2, s3⟩)))))
