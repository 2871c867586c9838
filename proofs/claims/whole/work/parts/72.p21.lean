/-! PURE 21: the hot one -/
theorem s8_hourT {d names pile flows : Nat → Int32} {content : Int32} {t : TT} {post : Int32 → (Nat → Int32) → (Nat → Int32) → (Nat → Int32) → (Nat → Int32) → Prop} (hI : TI t) (hT : TM d t) (ho : t.2.1.2.2.2.2.1 < 20000)
    (hp : ∀ d' names' pile' flows' : Nat → Int32, TM d' (t.1, hr t.1 t.2.1, t.2.2) → kp d d' → post (nI (hr t.1 t.2.1).2.2.2.2.2) d' names' pile' flows') : wp_X8_hourGoes content d names pile flows post := by
  obtain ⟨i1, i2, i3, i4, i5, i6, i7, i8⟩ := id hI
  obtain ⟨m1, m2, m3, m4, m5⟩ := id hT
  exact s8_hourGoes (d0 := d) i1 i2 ho m1 ⟨rfl, rfl, rfl, fun _ _ => rfl⟩ (by rw [i7]; exact gs8 (u := 0) (by omega) i3 i5 m2 m4) (by rw [i8]; exact gs8 (u := 1) (by omega) i4 i6 m3 m5) (fun d' na pi fl h1 h2 => hp _ _ _ _ ⟨h1, by rw [h2.2.2.2 57 (by omega)]; exact m2, by rw [h2.2.2.2 58 (by omega)]; exact m3, fun i hi => by rw [h2.2.2.2 _ (by omega)]; exact m4 i hi, fun i hi => by rw [h2.2.2.2 _ (by omega)]; exact m5 i hi⟩ h2)
/-- a town some hours on -/
def tH (t : TT) (n : Nat) : TT := (t.1, hrN t.1 t.2.1 n, t.2.2)
theorem TI_H {t : TT} (h : TI t) (n : Nat) : TI (tH t n) := ⟨h.1, hrN_b h.1 h.2.1 n, h.2.2⟩
theorem tH_o {t : TT} (n : Nat) : (tH t n).2.1.2.2.2.2.1 = t.2.1.2.2.2.2.1 + n := hrN_o n
def fo (v : Nat) (h : Nat → Nat) (c : Nat) : Prop := c < 16 ∧ v ≤ h c ∧ ∀ j, j < c → h j < v
def fz (v : Nat) (h : Nat → Nat) : Prop := ∀ c, c < 16 → h c < v
theorem fo_u {v : Nat} {h : Nat → Nat} {c c' : Nat} (p : fo v h c) (q : fo v h c') : c = c' := by
  have a := p.2.2 c'
  have b := q.2.2 c
  have p2 := p.2.1
  have q2 := q.2.1
  rcases Nat.lt_trichotomy c c' with w | w | w
  · have := b w; omega
  · exact w
  · have := a w; omega
theorem fo_z {v : Nat} {h : Nat → Nat} {c : Nat} (p : fo v h c) (q : fz v h) : False := by
  have := q c p.1
  have := p.2.1
  omega
theorem s7_firstOf {v : Nat} (hv : v ≤ 999) {h : Nat → Nat} {heat : Nat → Int32} (e : ∀ c, c < 16 → heat c = nI (h c)) (b : ∀ c, c < 16 → h c ≤ 999) {P : Int32 → Prop} (p1 : ∀ c, fo v h c → P (nI c)) (p0 : fz v h → P (-1)) : wp_X5_firstOf (nI v) heat P := by
  unfold wp_X5_firstOf
  refine lpU (σ := Unit) (fun n x _ => wp_X5_firstOf_b2 (nI v) heat P n x) (fun i _ => ∀ j, j < i → h j < v) 16 0 () (by omega) (fun j hj => absurd hj (Nat.not_lt_zero _)) (fun n _ hI => br_t (by decide) (p0 hI)) (fun n i _ hi hI ih => ?_)
  refine br_f (nI_ge (b := 16) hi (by omega)) ⟨ix hi (by omega), ?_⟩
  rw [nI_clamp (by omega), e i hi]
  have bi := b i hi
  refine ⟨fun q => ih () (fun j hj => ?_), fun q => p1 i ⟨hi, Nat.not_lt.mp (fun w => q ((nI_ltI (by omega) (by omega)).mpr w)), hI⟩⟩
  have q' := (nI_ltI (by omega) (by omega)).mp q
  by_cases w : j = i
  · rw [w]; exact q'
  · exact hI j (by omega)
theorem s8_hotOne {v : Nat} (hv : v ≤ 999) {h : Nat → Nat} {d : Nat → Int32} (e : ∀ c, c < 16 → d (9 + c) = nI (h c)) (b : ∀ c, c < 16 → h c ≤ 999) {P : Int32 → Prop} (p1 : ∀ c, fo v h c → P (nI c)) (p0 : fz v h → P (-1)) : wp_X8_hotOne (nI v) d P := by
  unfold wp_X8_hotOne
  refine lpU (σ := Unit) (fun n x _ => wp_X8_hotOne_b2 (nI v) d P n x) (fun i _ => ∀ j, j < i → h j < v) 16 0 () (by omega) (fun j hj => absurd hj (Nat.not_lt_zero _)) (fun n _ hI => br_t (by decide) (p0 hI)) (fun n i _ hi hI ih => ?_)
  refine br_f (nI_ge (b := 16) hi (by omega)) ⟨v9 (by omega), ?_⟩
  rw [i9 (by omega), e i hi]
  have bi := b i hi
  refine ⟨fun q => ih () (fun j hj => ?_), fun q => p1 i ⟨hi, Nat.not_lt.mp (fun w => q ((nI_ltI (by omega) (by omega)).mpr w)), hI⟩⟩
  have q' := (nI_ltI (by omega) (by omega)).mp q
  by_cases w : j = i
  · rw [w]; exact q'
  · exact hI j (by omega)
theorem s7_hotLoop {v : Nat} (hv : v ≤ 999) {a2 wuse guse : Int32} {t : TT} (hI : TI t) (ho : t.2.1.2.2.2.2.1 ≤ 9999) (hw : wuse = 0) (hg : guse = 1) (errors : Nat → Int32) (post : _)
    (h1 : ∀ i c, i ≤ 60 → (∀ j, j < i → fz v (hrN t.1 t.2.1 j).1) → fo v (hrN t.1 t.2.1 i).1 c → ∀ (o1 o2 o3 o4 o5 o6 o7 o8 : Int32) (r1 r2 r3 r4 r5 : Nat → Int32) (o9 o10 o11 : Int32) (r6 : Nat → Int32) (o12 : Int32) (r7 r8 r9 r10 r11 : Nat → Int32), (a2 = 0 → post (nI i) o1 o2 o3 o4 o5 o6 o7 o8 errors r1 r2 r3 r4 r5 o9 o10 o11 r6 o12 r7 r8 r9 r10 r11) ∧ (¬ a2 = 0 → post (nI c) o1 o2 o3 o4 o5 o6 o7 o8 errors r1 r2 r3 r4 r5 o9 o10 o11 r6 o12 r7 r8 r9 r10 r11))
    (h0 : (∀ j, j ≤ 60 → fz v (hrN t.1 t.2.1 j).1) → ∀ (o1 o2 o3 o4 o5 o6 o7 o8 : Int32) (r1 r2 r3 r4 r5 : Nat → Int32) (o9 o10 o11 : Int32) (r6 : Nat → Int32) (o12 : Int32) (r7 r8 r9 r10 r11 : Nat → Int32), post ((-1000000000 : Int32) - nI 2) o1 o2 o3 o4 o5 o6 o7 o8 (upd errors 2 (errors 2 + 1)) r1 r2 r3 r4 r5 o9 o10 o11 r6 o12 r7 r8 r9 r10 r11) :
    ∀ k i, i + k = 61 → (∀ j, j < i → fz v (hrN t.1 t.2.1 j).1) → ∀ (o1 o2 o3 o4 o5 o6 o7 o8 : Int32) (r1 r2 r3 r4 r5 : Nat → Int32) (o9 o10 o11 : Int32) (r6 : Nat → Int32) (o12 : Int32) (r7 r8 r9 r10 r11 : Nat → Int32), TC o1 o2 o3 o4 o5 o6 o7 r1 r2 r3 r4 o11 o12 r10 r11 (tH t i) → wp_X7_hot_b36 (nI v) a2 wuse guse post (k + 1) (nI i) o1 o2 o3 o4 o5 o6 o7 o8 errors r1 r2 r3 r4 r5 o9 o10 o11 r6 o12 r7 r8 r9 r10 r11 := by
  intro k
  induction k with
  | zero =>
    intro i hi hz o1 o2 o3 o4 o5 o6 o7 o8 r1 r2 r3 r4 r5 o9 o10 o11 r6 o12 r7 r8 r9 r10 r11 hT
    exact br_t (nI_lt (a := 60) (by omega) (by omega)) (e7 2 (by omega) (h0 (fun j hj => hz j (by omega)) o1 o2 o3 o4 o5 o6 o7 o8 r1 r2 r3 r4 r5 o9 o10 o11 r6 o12 r7 r8 r9 r10 r11))
  | succ k ih =>
    intro i hi hz o1 o2 o3 o4 o5 o6 o7 o8 r1 r2 r3 r4 r5 o9 o10 o11 r6 o12 r7 r8 r9 r10 r11 hT
    have hb := hrN_b hI.1 hI.2.1 i
    refine br_f (nI_ge (a := i) (b := 61) (by omega) (by omega) ∘ fun z => ?_) (s7_firstOf hv hT.2.2.2.2.2.2.2.1 hb.1 (fun c hc => br_f (nI_pos (by have := hc.1; omega)) (h1 i c (by omega) hz hc o1 o2 o3 o4 o5 o6 o7 o8 r1 r2 r3 r4 r5 o9 o10 o11 r6 o12 r7 r8 r9 r10 r11)) (fun z => br_t (by decide) (s5_passT (n := 1) (TI_H hI i) hT hw hg (by omega) (by rw [tH_o]; omega) (fun _ _ _ _ _ _ _ _ _ h' => ?_))))
    · have := (nI_ltI (a := 60) (b := i) (by omega) (by omega)).mp z
      omega
    · rw [nI_1]
      refine ih (i + 1) (by omega) (fun j hj => ?_) _ _ _ _ _ _ _ _ _ _ _ _ _ _ _ _ _ _ _ _ _ _ _ h'
      by_cases w : j = i
      · rw [w]; exact z
      · exact hz j (by omega)
theorem s8_hotYes {v : Nat} (hv : v ≤ 999) {a2 : Int32} {t : TT} (hI : TI t) (ho : t.2.1.2.2.2.2.1 ≤ 9999) {dA aside found : Nat → Int32} (ha : ∀ i, i < 57 → aside i = dA i) (post : _) {i c : Nat} (hi : i ≤ 60) (hz : ∀ j, j < i → fz v (hrN t.1 t.2.1 j).1) (hc : fo v (hrN t.1 t.2.1 i).1 c)
    (hp : ∀ (ct : Nat) (na pi fl : Nat → Int32), ct < 256 → (a2 = 0 → post (nI i) (nI ct) dA aside found na pi fl) ∧ (¬ a2 = 0 → post (nI c) (nI ct) dA aside found na pi fl)) :
    ∀ k j, j + k = i → ∀ (ct : Nat) (d na pi fl : Nat → Int32), ct < 256 → TM d (tH t j) → (∀ i, 57 ≤ i → d i = dA i) → wp_X8_hot_b34 (nI v) a2 post (k + 1) (nI j) (nI ct) d aside found na pi fl := by
  intro k
  induction k with
  | zero =>
    intro j hj ct d na pi fl hct hd hk
    have e : j = i := by omega
    subst e
    have hb := hrN_b hI.1 hI.2.1 j
    have c16 := hc.1
    have ans : ∀ r : Int32, r = nI c → wp_X8_putBack d aside (fun v_d_10 => (0 ≤ r → ((a2 = 0 → (post (nI j) (nI ct) v_d_10 aside found na pi fl)) ∧ (¬ a2 = 0 → (post r (nI ct) v_d_10 aside found na pi fl)))) ∧ (¬ 0 ≤ r → (wp_X8_finds (2 : Int32) found (fun r_14 v_found_13 => post r_14 (nI ct) v_d_10 aside v_found_13 na pi fl)))) := fun r er => by
      subst er
      exact s8_back ha hk (br_t (nI_pos' (by omega)) (hp ct na pi fl hct))
    by_cases q : j = 60
    · refine br_t (nI_le (a := 60) (by omega) (by omega)) (s8_hotOne hv hd.1.2.2.2.2.2.2.1 hb.1 (fun c' hc' => ans _ (by rw [fo_u hc' hc])) (fun z => (fo_z hc z).elim))
    · refine br_f (nI_ge (a := j) (b := 60) (by omega) (by omega)) (s8_hotOne hv hd.1.2.2.2.2.2.2.1 hb.1 (fun c' hc' => br_t (nI_pos' (by have := hc'.1; omega)) (s8_hotOne hv hd.1.2.2.2.2.2.2.1 hb.1 (fun c' hc' => ans _ (by rw [fo_u hc' hc])) (fun z => (fo_z hc z).elim))) (fun z => (fo_z hc z).elim))
  | succ k ih =>
    intro j hj ct d na pi fl hct hd hk
    have hb := hrN_b hI.1 hI.2.1 j
    have hb' := hrN_b hI.1 hI.2.1 (j + 1)
    refine br_f (nI_ge (a := j) (b := 60) (by omega) (by omega)) (s8_hotOne hv hd.1.2.2.2.2.2.2.1 hb.1 (fun c' hc' => (fo_z hc' (hz j (by omega))).elim) (fun _ => br_f (by decide) (s8_hourT (TI_H hI j) hd (by rw [tH_o]; omega) (fun d' na' pi' fl' hd' k2 => ?_))))
    rw [nI_1]
    exact ih (j + 1) (by omega) _ d' na' pi' fl' hb'.2.2.2.2 hd' (fun i hi => (k2.2.2.2 i hi).trans (hk i hi))
theorem s8_hotNo {v : Nat} (hv : v ≤ 999) {a2 : Int32} {t : TT} (hI : TI t) (ho : t.2.1.2.2.2.2.1 ≤ 9999) {dA aside found : Nat → Int32} (ha : ∀ i, i < 57 → aside i = dA i) (post : _) (hz : ∀ j, j ≤ 60 → fz v (hrN t.1 t.2.1 j).1)
    (hp : ∀ (ct : Nat) (na pi fl : Nat → Int32), ct < 256 → post ((-1000000000 : Int32) - nI 2) (nI ct) dA aside (upd found 2 (found 2 + 1)) na pi fl) :
    ∀ k j, j + k = 60 → ∀ (ct : Nat) (d na pi fl : Nat → Int32), ct < 256 → TM d (tH t j) → (∀ i, 57 ≤ i → d i = dA i) → wp_X8_hot_b34 (nI v) a2 post (k + 1) (nI j) (nI ct) d aside found na pi fl := by
  intro k
  induction k with
  | zero =>
    intro j hj ct d na pi fl hct hd hk
    have hb := hrN_b hI.1 hI.2.1 j
    exact br_t (nI_le (a := 60) (by omega) (by omega)) (s8_hotOne hv hd.1.2.2.2.2.2.2.1 hb.1 (fun c' hc' => (fo_z hc' (hz j (by omega))).elim) (fun _ => s8_back ha hk (br_f (by decide) (e8 2 (by omega) (hp ct na pi fl hct)))))
  | succ k ih =>
    intro j hj ct d na pi fl hct hd hk
    have hb := hrN_b hI.1 hI.2.1 j
    have hb' := hrN_b hI.1 hI.2.1 (j + 1)
    refine br_f (nI_ge (a := j) (b := 60) (by omega) (by omega)) (s8_hotOne hv hd.1.2.2.2.2.2.2.1 hb.1 (fun c' hc' => (fo_z hc' (hz j (by omega))).elim) (fun _ => br_f (by decide) (s8_hourT (TI_H hI j) hd (by rw [tH_o]; omega) (fun d' na' pi' fl' hd' k2 => ?_))))
    rw [nI_1]
    exact ih (j + 1) (by omega) _ d' na' pi' fl' hb'.2.2.2.2 hd' (fun i hi => (k2.2.2.2 i hi).trans (hk i hi))
theorem st_hot : ST_hot Rel := by
  intro cs ms h a1 a2
  obtain ⟨hT, hK, hC, hE, hV, s0, s1, s2, s3⟩ := id h
  have er := er_up hE (k := 1) (by omega)
  have er2 := er_up hE (k := 2) (by omega)
  obtain ⟨t, a, b, i1, i2, i3, i4, i5, i6, i7⟩ := id hT
  obtain ⟨ct, bc, hct⟩ := id hC
  by_cases g1 : 1 ≤ a1 ∧ a1 ≤ 999
  · by_cases g2 : 0 ≤ a2 ∧ a2 ≤ 1
    · obtain ⟨v, v1, hv, rfl⟩ := rg1 (l := 1) (m := 999) (by omega) (by omega) g1
      refine w7t g1 (yes (w7t g2 (yes (s7_behind (set := 0) (n := 0) i1 i3 (by omega) (by omega) (by omega) hK.2.2.2.2.1 hK.2.2.2.2.2 i6.1 i7.1 i6.2.1 i7.2.1 (fun _ _ _ _ _ _ _ _ _ _ _ _ _ _ _ _ _ _ _ _ _ _ _ hT' => ⟨62, s7_hotLoop hv i1 i2 hK.2.2.2.2.1 hK.2.2.2.2.2 _ _ (fun i c hi hz hc o1 o2 o3 o4 o5 o6 o7 o8 r1 r2 r3 r4 r5 o9 o10 o11 r6 o12 r7 r8 r9 r10 r11 => ?_) (fun hz o1 o2 o3 o4 o5 o6 o7 o8 r1 r2 r3 r4 r5 o9 o10 o11 r6 o12 r7 r8 r9 r10 r11 => ?_) 61 0 rfl (fun j hj => absurd hj (Nat.not_lt_zero _)) _ _ _ _ _ _ _ _ _ _ _ _ _ _ _ _ _ _ _ _ _ _ _ (by rw [tB0] at hT'; exact hT')⟩)))))
      · have ref : ∀ {P : _}, (∀ (ct : Nat) (as na pi fl : Nat → Int32), ct < 256 → (a2 = 0 → P (nI i) (nI ct) (ms.2.1 0) as (ms.2.1 3) na pi fl) ∧ (¬ a2 = 0 → P (nI c) (nI ct) (ms.2.1 0) as (ms.2.1 3) na pi fl)) → wp_X8_hot (nI v) a2 (ms.1 8) (ms.2.1 0) (ms.2.1 2) (ms.2.1 3) (ms.2.1 4) (ms.2.1 6) (ms.2.1 7) P := fun p => w8t 1 999 g1 (yes (w8t 0 1 g2 (yes (s8_keepAside (fun a' ha => ⟨i + 1, by
          rw [hct]
          exact s8_hotYes hv i1 i2 ha _ hi hz hc (fun ct na pi fl h => p ct a' na pi fl h) i 0 (by omega) ct _ _ _ _ bc i4 (fun _ _ => rfl)⟩)))))
        refine ⟨fun q => ref (fun ct' as na pi fl hct' => ⟨fun _ => ⟨rfl, hT, hK, ⟨ct', hct', rfl⟩, hE, hV, s0, s1, s2, s3⟩, fun q' => absurd q q'⟩), fun q => ref (fun ct' as na pi fl hct' => ⟨fun q' => absurd q' q, fun _ => ⟨rfl, hT, hK, ⟨ct', hct', rfl⟩, hE, hV, s0, s1, s2, s3⟩⟩)⟩
      · refine w8t 1 999 g1 (yes (w8t 0 1 g2 (yes (s8_keepAside (fun a' ha => ⟨61, ?_⟩)))))
        rw [hct]
        exact s8_hotNo hv i1 i2 ha _ hz (fun ct' na pi fl hct' => ⟨rfl, hT, hK, ⟨ct', hct', rfl⟩, er2, hV, s0, s1, s2, s3⟩) 60 0 rfl ct _ _ _ _ bc i4 (fun _ _ => rfl)
    · exact w7t g1 (yes (w7f g2 (no (e7 1 (by omega) (w8t 1 999 g1 (yes (w8f 0 1 g2 (no (e8 1 (by omega) ⟨rfl, hT, hK, hC, er, hV, s0, s1, s2, s3⟩)))))))))
  · exact w7f g1 (no (e7 1 (by omega) (w8f 1 999 g1 (no (e8 1 (by omega) ⟨rfl, hT, hK, hC, er, hV, s0, s1, s2, s3⟩)))))
