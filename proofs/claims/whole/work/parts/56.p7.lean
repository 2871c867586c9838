/-! PURE 7: hours, the reference's -/
def RD (d : Nat → Int32) (z : hZ) (y : hY) : Prop :=
  d 0 = nI z.2.2.1 ∧ d 1 = nI y.2.2.2.2.1 ∧ d 2 = nI z.2.1 ∧ d 3 = nI y.2.2.1 ∧ d 4 = nI y.2.2.2.1 ∧ d 8 = nI z.1 ∧ (∀ c, c < 16 → d (9 + c) = nI (y.1 c)) ∧ ∀ i, i < 8 → d (25 + 4 * i) = nI (z.2.2.2.1 i) ∧ d (25 + 4 * i + 1) = nI (z.2.2.2.2.1 i) ∧ d (25 + 4 * i + 2) = nI (z.2.2.2.2.2.1 i) ∧ d (25 + 4 * i + 3) = nI (y.2.1 i)
/-- what an hour never touches -/
def kp (d0 d : Nat → Int32) : Prop := d 5 = d0 5 ∧ d 6 = d0 6 ∧ d 7 = d0 7 ∧ ∀ i, 57 ≤ i → d i = d0 i
theorem iof {i w : Nat} (hi : i < 8) (hw : w < 4) : (((25 : Int32) + ((4 : Int32) * nI i)) + nI w) = nI (25 + 4 * i + w) := by
  rw [show (4 : Int32) * nI i = nI (4 * i) from pk_mul 4 i, show (25 : Int32) + nI (4 * i) = nI (25 + 4 * i) from nI_add 25 _, nI_add]
theorem p8_of {i w : Nat} (hi : i < 8) (hw : w < 4) {d : Nat → Int32} {P : Int32 → Prop} (h : P (d (25 + 4 * i + w))) : wp_X8_of (nI i) (nI w) d P := by
  unfold wp_X8_of
  rw [iof hi hw, nI_clamp (by omega)]
  exact ⟨vp_in_nI (by omega) (by omega), h⟩
theorem p8_sets {i w : Nat} (hi : i < 8) (hw : w < 4) {x : Int32} {d : Nat → Int32} {P : (Nat → Int32) → Prop} (h : P (upd d (25 + 4 * i + w) x)) : wp_X8_sets (nI i) (nI w) x d P := by
  unfold wp_X8_sets
  rw [iof hi hw, nI_clamp (by omega)]
  exact ⟨vp_in_nI (by omega) (by omega), h⟩
theorem k1c : (1 : Int32).toNatClampNeg = 1 := nI_clamp (n := 1) (by omega)
theorem p8_least {i k m o : Nat} (hi : i < 8) (hk : k ≤ 6) (hm : m ≤ 9) (ho : o ≤ 20000) {d : Nat → Int32} (e0 : d (25 + 4 * i) = nI k) (e1 : d (25 + 4 * i + 1) = nI m) (eo : d 1 = nI o) {P : Int32 → Prop} (h : P (nI (hLe k m o))) : wp_X8_least (nI i) d P := by
  have L := p0_least hk hm ho h
  unfold wp_X8_least
  refine p8_of (w := 1) hi (by omega) ?_
  rw [k1c, eo, e1]
  exact ⟨fun e => p8_of (w := 0) hi (by omega) (by rw [Nat.add_zero, e0]; exact L.1 e), fun e => p8_of (w := 0) hi (by omega) (by rw [Nat.add_zero, e0]; exact L.2 e)⟩
theorem p8_most {i k : Nat} (hi : i < 8) (hk : k ≤ 6) {d : Nat → Int32} (e0 : d (25 + 4 * i) = nI k) {P : Int32 → Prop} (h : P (nI (hMo k))) : wp_X8_most (nI i) d P := by
  have L := p0_most hk h
  unfold wp_X8_most
  refine p8_of (w := 0) hi (by omega) ?_
  rw [Nat.add_zero, e0]
  exact L
theorem p8_drains {i k o : Nat} (hi : i < 8) (hk : k ≤ 6) (ho : o ≤ 20000) {d : Nat → Int32} (e0 : d (25 + 4 * i) = nI k) (eo : d 1 = nI o) {P : Int32 → Prop} (h : P (nI (hTk k o))) : wp_X8_drains (nI i) d P := by
  have L := p0_takes hk ho h
  unfold wp_X8_drains
  refine p8_of (w := 0) hi (by omega) ?_
  rw [Nat.add_zero, e0, k1c, eo]
  exact L
theorem p8_isContent {i k m c o hv : Nat} (hi : i < 8) (hm : m ≤ 9) (hk : k ≤ 6) (ho : o ≤ 20000) (hc : c < 16) (hh : hv ≤ 9999) {d : Nat → Int32} (e0 : d (25 + 4 * i) = nI k) (e1 : d (25 + 4 * i + 1) = nI m) (e2 : d (25 + 4 * i + 2) = nI c) (eo : d 1 = nI o) (eh : d (9 + c) = nI hv) {P : Int32 → Prop} (h1 : hLe k m o ≤ hv ∧ hv ≤ hMo k → P 1) (h0 : ¬ (hLe k m o ≤ hv ∧ hv ≤ hMo k) → P 0) : wp_X8_isContent (nI i) d P := by
  have b1 := hLe_le (k := k) (o := o) hm
  have b2 := hMo_le (k := k)
  unfold wp_X8_isContent
  refine p8_of (w := 2) hi (by omega) ?_
  rw [e2]
  refine ⟨v9 (by omega), p8_least hi hk hm ho e0 e1 eo (p8_most hi hk e0 ?_)⟩
  rw [i9 (by omega), eh, p8_in]
  by_cases q : hLe k m o ≤ hv ∧ hv ≤ hMo k
  · rw [if_pos ⟨nI_le q.1 (by omega), nI_le q.2 (by omega)⟩]; exact h1 q
  · rw [if_neg (fun z => q ⟨(nI_leI (by omega) (by omega)).mp z.1, (nI_leI (by omega) (by omega)).mp z.2⟩)]; exact h0 q
theorem s8_hourGoes {z : hZ} {y : hY} (hz : ZB z) (hy : YB y) (ho : y.2.2.2.2.1 < 20000) {d0 d names pile flows : Nat → Int32} {content : Int32} {post : Int32 → (Nat → Int32) → (Nat → Int32) → (Nat → Int32) → (Nat → Int32) → Prop} (hd : RD d z y) (hk : kp d0 d) (gw : GS8 d0 0 z.2.2.2.2.2.2.1) (gg : GS8 d0 1 z.2.2.2.2.2.2.2)
    (hp : ∀ d' names' pile' flows' : Nat → Int32, RD d' z (hr z y) → kp d0 d' → post (nI (hr z y).2.2.2.2.2) d' names' pile' flows') : wp_X8_hourGoes content d names pile flows post := by
  obtain ⟨z1, z2, z3, z4, z5, z6, z7, z8⟩ := id hz
  obtain ⟨y1, y2, y3, y4, y5⟩ := id hy
  obtain ⟨d0n, d1o, d2f, d3w, d4b, d8d, dH, dK⟩ := id hd
  have k0 : (0 : Int32).toNatClampNeg = 0 := nI_clamp (n := 0) (by omega)
  have k2 : (2 : Int32).toNatClampNeg = 2 := nI_clamp (n := 2) (by omega)
  have k3 : (3 : Int32).toNatClampNeg = 3 := nI_clamp (n := 3) (by omega)
  have k4 : (4 : Int32).toNatClampNeg = 4 := nI_clamp (n := 4) (by omega)
  unfold wp_X8_hourGoes
  refine lpU (σ := Int32 × (Nat → Int32) × (Nat → Int32) × (Nat → Int32) × (Nat → Int32)) (fun n x s => wp_X8_hourGoes_b2 post n x s.1 s.2.1 s.2.2.1 s.2.2.2.1 s.2.2.2.2) (fun i s => (∀ c, c < 16 → s.2.1 (9 + c) = nI (if c < i then hB z.2.1 y.1 c else y.1 c)) ∧ ∀ j, ¬ (9 ≤ j ∧ j < 25) → s.2.1 j = d j) 4 0 (content, d, names, pile, flows) (by omega) ⟨fun c hc => by rw [if_neg (by omega)]; exact dH c hc, fun j _ => rfl⟩ (fun n s hI => ?_) (fun n i s hi hI ih => ?_)
  · obtain ⟨hI, hJ⟩ := hI
    refine br_t (by decide) ?_
    rw [k4, k2, k1c, k3, hJ 4 (by omega), hJ 2 (by omega), d4b, d2f, show (4 : Int32) * nI z.2.1 = nI (4 * z.2.1) from pk_mul 4 _, nI_add]
    refine p8_heldN (hi := 99999) (by omega) (by omega) ?_
    have u1 : ∀ x : Int32, upd s.2.1 4 x 2 = nI z.2.1 := fun x => by unfold upd; rw [if_neg (by omega), hJ 2 (by omega), d2f]
    have u2 : ∀ x : Int32, upd s.2.1 4 x 1 = nI y.2.2.2.2.1 := fun x => by unfold upd; rw [if_neg (by omega), hJ 1 (by omega), d1o]
    have u3 : ∀ x : Int32, upd s.2.1 4 x 3 = nI y.2.2.1 := fun x => by unfold upd; rw [if_neg (by omega), hJ 3 (by omega), d3w]
    rw [u1, u2, u3, show vrem (nI y.2.2.2.2.1) (24 : Int32) = nI (y.2.2.2.2.1 % 24) from vrem_nI (b := 24) (by omega) (by omega) (by omega), show vrem (nI y.2.2.1) (100 : Int32) = nI (y.2.2.1 % 100) from vrem_nI (b := 100) (by omega) (by omega) (by omega)]
    have fr : ∀ i, 57 ≤ i → upd s.2.1 4 (nI (min (y.2.2.2.1 + 4 * z.2.1) 99999)) i = d0 i := fun i hi => by unfold upd; rw [if_neg (by omega), hJ i (by omega)]; exact hk.2.2.2 i hi
    refine gw _ fr _ _ _ (by omega) (by omega) (by omega) _ _ _ (fun names1 pile1 => ?_)
    have bg := z7 z.2.1 (y.2.2.2.2.1 % 24) (y.2.2.1 % 100)
    rw [nI_add]
    refine p8_heldS (hi := 9999) (by omega) (by omega) (by omega) ?_
    generalize hW : min (y.2.2.1 + z.2.2.2.2.2.2.1 z.2.1 (y.2.2.2.2.1 % 24) (y.2.2.1 % 100) - z.2.1) 9999 = wn
    generalize hBn : min (y.2.2.2.1 + 4 * z.2.1) 99999 = bn
    have D2 : ∀ j, j ≠ 3 → j ≠ 4 → upd (upd s.2.1 4 (nI bn)) 3 (nI wn) j = s.2.1 j := fun j h3 h4 => by unfold upd; rw [if_neg h3, if_neg h4]
    have hB4 : ∀ i, i < 16 → upd (upd s.2.1 4 (nI bn)) 3 (nI wn) (9 + i) = nI (hB z.2.1 y.1 i) := fun i hi => by
      rw [D2 _ (by omega) (by omega), hI i hi]
      by_cases q : i < 4
      · rw [if_pos q]
      · rw [if_neg q]; unfold hB; rw [if_neg q]
    refine s8_heatGoes (D := z.1) (o := y.2.2.2.2.1) (d0 := d0) hB4 (hB_b y1) z1 (by omega) (by rw [D2 _ (by omega) (by omega), hJ 8 (by omega), d8d]) (by rw [D2 _ (by omega) (by omega), hJ 1 (by omega), d1o]) (fun i hi => by rw [D2 _ (by omega) (by omega), hJ i (by omega)]; exact hk.2.2.2 i hi) gg z8 (fun d7 names2 pile2 flows2 hh7 hf7 => ?_)
    have e7 : ∀ j, ¬ (9 ≤ j ∧ j < 25) → j ≠ 3 → j ≠ 4 → d7 j = d j := fun j h1 h3 h4 => by rw [hf7 j h1, D2 j h3 h4, hJ j h1]
    have e73 : d7 3 = nI wn := by rw [hf7 3 (by omega)]; unfold upd; rw [if_pos rfl]
    have e74 : d7 4 = nI bn := by rw [hf7 4 (by omega)]; unfold upd; rw [if_neg (by omega), if_pos rfl]
    generalize hh0 : hF (hG z.2.2.2.2.2.2.2 z.1 y.2.2.2.2.1 (hB z.2.1 y.1)) (hB z.2.1 y.1) = h0 at hh7
    have bh0 : ∀ c, c < 16 → h0 c ≤ 999 := by rw [← hh0]; exact hF_b (hB_b y1)
    have bb := hLv_b (kd := z.2.2.2.1) (mm := z.2.2.2.2.1) (cl := z.2.2.2.2.2.1) (o := y.2.2.2.2.1) (s := (h0, y.2.1, 0)) bh0 y2 rfl
    refine lpU (σ := Int32 × (Nat → Int32) × (Nat → Int32) × (Nat → Int32) × (Nat → Int32)) (fun n x s => wp_X8_hourGoes_b139 post n x s.1 s.2.1 s.2.2.1 s.2.2.2.1 s.2.2.2.2)
      (fun i s => s.1 = nI (hLv z.2.2.2.1 z.2.2.2.2.1 z.2.2.2.2.2.1 y.2.2.2.2.1 (h0, y.2.1, 0) i).2.2 ∧ (∀ c, c < 16 → s.2.1 (9 + c) = nI ((hLv z.2.2.2.1 z.2.2.2.2.1 z.2.2.2.2.2.1 y.2.2.2.2.1 (h0, y.2.1, 0) i).1 c)) ∧ (∀ j, j < 8 → s.2.1 (25 + 4 * j + 3) = nI ((hLv z.2.2.2.1 z.2.2.2.2.1 z.2.2.2.2.2.1 y.2.2.2.2.1 (h0, y.2.1, 0) i).2.1 j)) ∧ ∀ j, ¬ (9 ≤ j ∧ j < 25) → ¬ (25 ≤ j ∧ j < 57 ∧ j % 4 = 0) → s.2.1 j = d7 j) z.2.2.1 0 (0, d7, names2, pile2, flows2) (by omega)
      ⟨rfl, hh7, fun j hj => by show d7 (25 + 4 * j + 3) = _; rw [e7 _ (by omega) (by omega) (by omega)]; exact (dK j hj).2.2.2, fun j _ _ => rfl⟩ (fun n t hL => ?_) (fun n i t hi hL lh => ?_)
    · obtain ⟨g1, g2, g3, g4⟩ := hL
      have t0 : t.2.1 0 = nI z.2.2.1 := by rw [g4 0 (by omega) (by omega), e7 0 (by omega) (by omega) (by omega), d0n]
      refine br_t (by rw [k0, t0]; exact nI_le (Nat.le_refl _) (by omega)) ?_
      obtain ⟨b1, b2, b3⟩ := bb z.2.2.1
      refine lpU (σ := Int32 × (Nat → Int32) × (Nat → Int32) × (Nat → Int32) × (Nat → Int32)) (fun n x s => wp_X8_hourGoes_b233 post n x s.1 s.2.1 s.2.2.1 s.2.2.2.1 s.2.2.2.2) (fun i s => 12 ≤ i ∧ s.1 = t.1 ∧ (∀ c, c < 16 → s.2.1 (9 + c) = nI (if c < i then hCo (hLv z.2.2.2.1 z.2.2.2.2.1 z.2.2.2.2.2.1 y.2.2.2.2.1 (h0, y.2.1, 0) z.2.2.1).1 c else (hLv z.2.2.2.1 z.2.2.2.2.1 z.2.2.2.2.2.1 y.2.2.2.2.1 (h0, y.2.1, 0) z.2.2.1).1 c)) ∧ ∀ j, ¬ (9 ≤ j ∧ j < 25) → s.2.1 j = t.2.1 j) 16 12 t (by omega) ⟨by omega, rfl, fun c hc => ?_, fun j _ => rfl⟩ (fun n v hM => ?_) (fun n i v hi hM mh => ?_)
      · rw [g2 c hc]
        by_cases q : c < 12
        · rw [if_pos q]; unfold hCo; rw [if_neg (by omega)]
        · rw [if_neg q]
      · obtain ⟨m0, m1, m2, m3⟩ := hM
        refine br_t (by decide) ?_
        have mo : v.2.1 1 = nI y.2.2.2.2.1 := by rw [m3 1 (by omega), g4 1 (by omega) (by omega), e7 1 (by omega) (by omega) (by omega), d1o]
        rw [m1, g1, k1c, mo, nI_1]
        have hv : ∀ j, j ≠ 1 → ¬ (9 ≤ j ∧ j < 25) → ¬ (25 ≤ j ∧ j < 57 ∧ j % 4 = 0) → upd v.2.1 1 (nI (y.2.2.2.2.1 + 1)) j = d7 j := fun j q1 q2 q3 => by unfold upd; rw [if_neg q1, m3 j q2, g4 j q2 q3]
        have hhr : hr z y = (hCo (hLv z.2.2.2.1 z.2.2.2.2.1 z.2.2.2.2.2.1 y.2.2.2.2.1 (h0, y.2.1, 0) z.2.2.1).1, (hLv z.2.2.2.1 z.2.2.2.2.1 z.2.2.2.2.2.1 y.2.2.2.2.1 (h0, y.2.1, 0) z.2.2.1).2.1, wn, bn, y.2.2.2.2.1 + 1, (hLv z.2.2.2.1 z.2.2.2.2.1 z.2.2.2.2.2.1 y.2.2.2.2.1 (h0, y.2.1, 0) z.2.2.1).2.2) := by
          rw [← hh0, ← hW, ← hBn]; rfl
        rw [hhr] at hp
        refine hp _ _ _ _ ⟨?_, ?_, ?_, ?_, ?_, ?_, fun c hc => ?_, fun i hi => ⟨?_, ?_, ?_, ?_⟩⟩ ⟨?_, ?_, ?_, fun i hi => ?_⟩
        · rw [hv 0 (by omega) (by omega) (by omega), e7 0 (by omega) (by omega) (by omega), d0n]
        · unfold upd; rw [if_pos rfl]
        · rw [hv 2 (by omega) (by omega) (by omega), e7 2 (by omega) (by omega) (by omega), d2f]
        · rw [hv 3 (by omega) (by omega) (by omega), e73]
        · rw [hv 4 (by omega) (by omega) (by omega), e74]
        · rw [hv 8 (by omega) (by omega) (by omega), e7 8 (by omega) (by omega) (by omega), d8d]
        · unfold upd; rw [if_neg (by omega), m2 c hc, if_pos hc]
        · rw [hv _ (by omega) (by omega) (by omega), e7 _ (by omega) (by omega) (by omega)]; exact (dK i hi).1
        · rw [hv _ (by omega) (by omega) (by omega), e7 _ (by omega) (by omega) (by omega)]; exact (dK i hi).2.1
        · rw [hv _ (by omega) (by omega) (by omega), e7 _ (by omega) (by omega) (by omega)]; exact (dK i hi).2.2.1
        · unfold upd; rw [if_neg (by omega), m3 _ (by omega)]; exact g3 i hi
        · rw [hv 5 (by omega) (by omega) (by omega), e7 5 (by omega) (by omega) (by omega)]; exact hk.1
        · rw [hv 6 (by omega) (by omega) (by omega), e7 6 (by omega) (by omega) (by omega)]; exact hk.2.1
        · rw [hv 7 (by omega) (by omega) (by omega), e7 7 (by omega) (by omega) (by omega)]; exact hk.2.2.1
        · rw [hv i (by omega) (by omega) (by omega), e7 i (by omega) (by omega) (by omega)]; exact hk.2.2.2 i hi
      · obtain ⟨m0, m1, m2, m3⟩ := hM
        refine br_f (nI_ge (a := i) (b := 16) (by omega) (by omega)) ⟨v9 (by omega), v9 (by omega), v9 (by omega), ?_⟩
        rw [i9 (by omega)]
        refine mh (v.1, upd v.2.1 (9 + i) (v.2.1 (9 + i) - v.2.1 (9 + i) / (4 : Int32)), v.2.2.1, v.2.2.2.1, v.2.2.2.2) ⟨by omega, m1, fun c hc => ?_, fun j hj => ?_⟩
        · have b := b1 i hi
          show upd v.2.1 (9 + i) _ (9 + c) = _
          unfold upd
          by_cases q : c = i
          · subst q
            rw [if_pos rfl, m2 c hc, if_neg (show ¬ c < c by omega), if_pos (show c < c + 1 by omega)]
            generalize (hLv z.2.2.2.1 z.2.2.2.2.1 z.2.2.2.2.2.1 y.2.2.2.2.1 (h0, y.2.1, 0) z.2.2.1).1 = hq at b ⊢
            rw [show nI (hq c) / (4 : Int32) = nI (hq c / 4) from pk_div (d := 4) (by omega) (by omega) (by omega), pk_sub (by omega)]
            unfold hCo
            rw [if_pos m0]
          · rw [if_neg (by omega), m2 c hc]
            by_cases q2 : c < i
            · rw [if_pos q2, if_pos (by omega)]
            · rw [if_neg q2, if_neg (by omega)]
        · show upd v.2.1 (9 + i) _ j = _
          unfold upd
          rw [if_neg (by omega)]
          exact m3 j hj
    · obtain ⟨g1, g2, g3, g4⟩ := hL
      obtain ⟨b1, b2, b3⟩ := bb i
      have i8 : i < 8 := by omega
      have ci := z6 i i8
      have t0 : t.2.1 0 = nI z.2.2.1 := by rw [g4 0 (by omega) (by omega), e7 0 (by omega) (by omega) (by omega), d0n]
      have to : t.2.1 1 = nI y.2.2.2.2.1 := by rw [g4 1 (by omega) (by omega), e7 1 (by omega) (by omega) (by omega), d1o]
      have tk : t.2.1 (25 + 4 * i) = nI (z.2.2.2.1 i) := by rw [g4 _ (by omega) (by omega), e7 _ (by omega) (by omega) (by omega)]; exact (dK i i8).1
      have tm : t.2.1 (25 + 4 * i + 1) = nI (z.2.2.2.2.1 i) := by rw [g4 _ (by omega) (by omega), e7 _ (by omega) (by omega) (by omega)]; exact (dK i i8).2.1
      have tc : t.2.1 (25 + 4 * i + 2) = nI (z.2.2.2.2.2.1 i) := by rw [g4 _ (by omega) (by omega), e7 _ (by omega) (by omega) (by omega)]; exact (dK i i8).2.2.1
      have hv := b1 _ ci
      have ht := hTk_le (k := z.2.2.2.1 i) (o := y.2.2.2.2.1)
      refine br_f (by rw [k0, t0]; exact nI_ge hi (by omega)) ?_
      refine p8_of (w := 2) i8 (by omega) ?_
      rw [tc]
      refine ⟨v9 (by omega), p8_drains i8 (z4 i i8) (by omega) tk to ⟨v9 (by omega), ?_⟩⟩
      rw [i9 (by omega), g2 _ ci]
      refine p8_heldN (by omega) (by omega) ⟨v9 (by omega), ?_⟩
      have eh : nI ((hLv z.2.2.2.1 z.2.2.2.2.1 z.2.2.2.2.2.1 y.2.2.2.2.1 (h0, y.2.1, 0) i).1 (z.2.2.2.2.2.1 i)) - nI (min (hTk (z.2.2.2.1 i) y.2.2.2.2.1) ((hLv z.2.2.2.1 z.2.2.2.2.1 z.2.2.2.2.2.1 y.2.2.2.2.1 (h0, y.2.1, 0) i).1 (z.2.2.2.2.2.1 i))) = nI ((hLv z.2.2.2.1 z.2.2.2.2.1 z.2.2.2.2.2.1 y.2.2.2.2.1 (h0, y.2.1, 0) i).1 (z.2.2.2.2.2.1 i) - hTk (z.2.2.2.1 i) y.2.2.2.2.1) := by
        rw [pk_sub (by omega)]; congr 1; omega
      rw [eh]
      generalize hL0 : hLv z.2.2.2.1 z.2.2.2.2.1 z.2.2.2.2.2.1 y.2.2.2.2.1 (h0, y.2.1, 0) i = Li at *
      have hL1' : hLv z.2.2.2.1 z.2.2.2.2.1 z.2.2.2.2.2.1 y.2.2.2.2.1 (h0, y.2.1, 0) (i + 1) = hL1 z.2.2.2.1 z.2.2.2.2.1 z.2.2.2.2.2.1 y.2.2.2.2.1 i Li := by rw [← hL0]; rfl
      rw [hL1'] at lh
      have ud : ∀ j, j ≠ 9 + z.2.2.2.2.2.1 i → upd t.2.1 (9 + z.2.2.2.2.2.1 i) (nI (Li.1 (z.2.2.2.2.2.1 i) - hTk (z.2.2.2.1 i) y.2.2.2.2.1)) j = t.2.1 j := fun j hj => by unfold upd; rw [if_neg hj]
      have ue : upd t.2.1 (9 + z.2.2.2.2.2.1 i) (nI (Li.1 (z.2.2.2.2.2.1 i) - hTk (z.2.2.2.1 i) y.2.2.2.2.1)) (9 + z.2.2.2.2.2.1 i) = nI (Li.1 (z.2.2.2.2.2.1 i) - hTk (z.2.2.2.1 i) y.2.2.2.2.1) := by unfold upd; rw [if_pos rfl]
      have hn : ∀ c, c < 16 → upd t.2.1 (9 + z.2.2.2.2.2.1 i) (nI (Li.1 (z.2.2.2.2.2.1 i) - hTk (z.2.2.2.1 i) y.2.2.2.2.1)) (9 + c) = nI ((hL1 z.2.2.2.1 z.2.2.2.2.1 z.2.2.2.2.2.1 y.2.2.2.2.1 i Li).1 c) := fun c hc => by
        show upd _ _ _ _ = nI (va_up _ _ _ c)
        unfold upd va_up
        by_cases q : c = z.2.2.2.2.2.1 i
        · rw [if_pos (by omega), if_pos q]
        · rw [if_neg (by omega), if_neg q]; exact g2 c hc
      generalize hdd : upd t.2.1 (9 + z.2.2.2.2.2.1 i) (nI (Li.1 (z.2.2.2.2.2.1 i) - hTk (z.2.2.2.1 i) y.2.2.2.2.1)) = dd at ud ue hn
      refine p8_isContent (o := y.2.2.2.2.1) (hv := Li.1 (z.2.2.2.2.2.1 i) - hTk (z.2.2.2.1 i) y.2.2.2.2.1) i8 (z5 i i8) (z4 i i8) (by omega) ci (by omega) (by rw [ud _ (by omega), tk]) (by rw [ud _ (by omega), tm]) (by rw [ud _ (by omega), tc]) (by rw [ud _ (by omega), to]) ue (fun hc => ?_) (fun hc => ?_)
      · refine br_f (by decide) (p8_of (w := 3) i8 (by omega) ?_)
        have g2' := b2 i i8
        rw [ud _ (by omega), g3 i i8, show nI (Li.2.1 i) + (1 : Int32) = nI (Li.2.1 i + 1) from nI_1 _]
        refine p8_heldN (hi := 9999) (by omega) (by omega) (p8_sets (w := 3) i8 (by omega) ?_)
        refine lh (_, _, _, _, _) ⟨?_, fun c hc2 => ?_, fun j hj => ?_, fun j q1 q2 => ?_⟩
        · show t.1 ||| (1 : Int32) <<< (nI i &&& 31) = nI (if _ then _ else _)
          rw [if_pos hc, nI_shl1 (by omega), g1, nI_or]
        · show upd dd _ _ (9 + c) = _
          unfold upd; rw [if_neg (by omega)]; exact hn c hc2
        · show upd dd _ _ _ = nI ((if _ then va_up _ i _ else _) j)
          rw [if_pos hc]
          unfold upd va_up
          by_cases q : j = i
          · rw [if_pos (by omega), if_pos q]
          · rw [if_neg (by omega), if_neg q, ud _ (by omega)]; exact g3 j hj
        · show upd dd _ _ j = _
          unfold upd; rw [if_neg (by omega), ud _ (by omega)]; exact g4 j q1 q2
      · refine br_t rfl ?_
        refine lh (_, _, _, _, _) ⟨?_, hn, fun j hj => ?_, fun j q1 q2 => ?_⟩
        · show t.1 = nI (if _ then _ else _)
          rw [if_neg hc]; exact g1
        · show dd _ = nI ((if _ then va_up _ i _ else _) j)
          rw [if_neg hc, ud _ (by omega)]; exact g3 j hj
        · show dd j = _
          rw [ud _ (by omega)]; exact g4 j q1 q2
  · obtain ⟨hI, hJ⟩ := hI
    have bi := y1 i (by omega)
    refine br_f (nI_ge (a := i) (b := 4) (by omega) (by omega)) ⟨v9 (by omega), ?_⟩
    rw [i9 (by omega), k2, hI i (by omega), if_neg (show ¬ i < i by omega), hJ 2 (by omega), d2f, nI_add]
    refine p8_heldN (hi := 999) (by omega) (by omega) ⟨v9 (by omega), ?_⟩
    refine ih (s.1, upd s.2.1 (9 + i) (nI (min (y.1 i + z.2.1) 999)), s.2.2.1, s.2.2.2.1, s.2.2.2.2) ⟨fun c hc => ?_, fun j hj => ?_⟩
    · show upd _ _ _ _ = _
      unfold upd
      by_cases q : c = i
      · rw [if_pos (by omega), q, if_pos (by omega)]
        unfold hB; rw [if_pos hi]
      · rw [if_neg (by omega), hI c hc]
        by_cases q2 : c < i
        · rw [if_pos q2, if_pos (by omega)]
        · rw [if_neg q2, if_neg (by omega)]
    · show upd _ _ _ _ = _
      unfold upd; rw [if_neg (by omega)]; exact hJ j hj
theorem s8_hoursGo {n : Nat} {z : hZ} {y : hY} (hn : n ≤ 1000) (hz : ZB z) (hy : YB y) (ho : y.2.2.2.2.1 + n ≤ 20000) {d0 d names pile flows : Nat → Int32} {content : Int32} {post : Int32 → (Nat → Int32) → (Nat → Int32) → (Nat → Int32) → (Nat → Int32) → Prop} (hc : content = nI y.2.2.2.2.2) (hd : RD d z y) (hk : kp d0 d) (gw : GS8 d0 0 z.2.2.2.2.2.2.1) (gg : GS8 d0 1 z.2.2.2.2.2.2.2)
    (hp : ∀ d' names' pile' flows' : Nat → Int32, RD d' z (hrN z y n) → kp d0 d' → post (nI (hrN z y n).2.2.2.2.2) d' names' pile' flows') : wp_X8_hoursGo (nI n) content d names pile flows post := by
  unfold wp_X8_hoursGo
  refine lpU (σ := Int32 × (Nat → Int32) × (Nat → Int32) × (Nat → Int32) × (Nat → Int32)) (fun f x s => wp_X8_hoursGo_b2 (nI n) post f x s.1 s.2.1 s.2.2.1 s.2.2.2.1 s.2.2.2.2) (fun i s => s.1 = nI (hrN z y i).2.2.2.2.2 ∧ RD s.2.1 z (hrN z y i) ∧ kp d0 s.2.1) n 0 (content, d, names, pile, flows) (by omega) ⟨hc, hd, hk⟩ (fun f s hI => ?_) (fun f i s hi hI ih => ?_)
  · obtain ⟨e1, e2, e3⟩ := hI
    refine br_t (nI_le (Nat.le_refl n) (by omega)) ?_
    rw [e1]
    exact hp _ _ _ _ e2 e3
  · obtain ⟨e1, e2, e3⟩ := hI
    have oi := hrN_o (z := z) (y := y) i
    refine br_f (nI_ge (by omega) (by omega)) (s8_hourGoes hz (hrN_b hz hy i) (by omega) e2 e3 gw gg (fun d' na pi fl h1 h2 => ih (_, _, _, _, _) ⟨rfl, h1, h2⟩))
