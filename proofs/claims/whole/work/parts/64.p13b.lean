/-! PURE 13b: towns with one number changed -/
theorem RD_0 {d : Nat → Int32} {z : hZ} {y : hY} (h : RD d z y) (v : Nat) : RD (upd d 0 (nI v)) (z.1, z.2.1, v, z.2.2.2) y := by
  obtain ⟨m1, m2, m3, m4, m5, m6, m7, m8⟩ := h
  exact ⟨by unfold upd; rw [if_pos rfl],
    by unfold upd; rw [if_neg (by omega)]; exact m2,
    by unfold upd; rw [if_neg (by omega)]; exact m3,
    by unfold upd; rw [if_neg (by omega)]; exact m4,
    by unfold upd; rw [if_neg (by omega)]; exact m5,
    by unfold upd; rw [if_neg (by omega)]; exact m6,
    fun c hc => by unfold upd; rw [if_neg (by omega)]; exact m7 c hc,
    fun i hi => ⟨by unfold upd; rw [if_neg (by omega)]; exact (m8 i hi).1, by unfold upd; rw [if_neg (by omega)]; exact (m8 i hi).2.1, by unfold upd; rw [if_neg (by omega)]; exact (m8 i hi).2.2.1, by unfold upd; rw [if_neg (by omega)]; exact (m8 i hi).2.2.2⟩⟩
theorem RD_1 {d : Nat → Int32} {z : hZ} {y : hY} (h : RD d z y) (v : Nat) : RD (upd d 1 (nI v)) z (y.1, y.2.1, y.2.2.1, y.2.2.2.1, v, y.2.2.2.2.2) := by
  obtain ⟨m1, m2, m3, m4, m5, m6, m7, m8⟩ := h
  exact ⟨by unfold upd; rw [if_neg (by omega)]; exact m1,
    by unfold upd; rw [if_pos rfl],
    by unfold upd; rw [if_neg (by omega)]; exact m3,
    by unfold upd; rw [if_neg (by omega)]; exact m4,
    by unfold upd; rw [if_neg (by omega)]; exact m5,
    by unfold upd; rw [if_neg (by omega)]; exact m6,
    fun c hc => by unfold upd; rw [if_neg (by omega)]; exact m7 c hc,
    fun i hi => ⟨by unfold upd; rw [if_neg (by omega)]; exact (m8 i hi).1, by unfold upd; rw [if_neg (by omega)]; exact (m8 i hi).2.1, by unfold upd; rw [if_neg (by omega)]; exact (m8 i hi).2.2.1, by unfold upd; rw [if_neg (by omega)]; exact (m8 i hi).2.2.2⟩⟩
theorem RD_2 {d : Nat → Int32} {z : hZ} {y : hY} (h : RD d z y) (v : Nat) : RD (upd d 2 (nI v)) (z.1, v, z.2.2) y := by
  obtain ⟨m1, m2, m3, m4, m5, m6, m7, m8⟩ := h
  exact ⟨by unfold upd; rw [if_neg (by omega)]; exact m1,
    by unfold upd; rw [if_neg (by omega)]; exact m2,
    by unfold upd; rw [if_pos rfl],
    by unfold upd; rw [if_neg (by omega)]; exact m4,
    by unfold upd; rw [if_neg (by omega)]; exact m5,
    by unfold upd; rw [if_neg (by omega)]; exact m6,
    fun c hc => by unfold upd; rw [if_neg (by omega)]; exact m7 c hc,
    fun i hi => ⟨by unfold upd; rw [if_neg (by omega)]; exact (m8 i hi).1, by unfold upd; rw [if_neg (by omega)]; exact (m8 i hi).2.1, by unfold upd; rw [if_neg (by omega)]; exact (m8 i hi).2.2.1, by unfold upd; rw [if_neg (by omega)]; exact (m8 i hi).2.2.2⟩⟩
theorem RD_3 {d : Nat → Int32} {z : hZ} {y : hY} (h : RD d z y) (v : Nat) : RD (upd d 3 (nI v)) z (y.1, y.2.1, v, y.2.2.2) := by
  obtain ⟨m1, m2, m3, m4, m5, m6, m7, m8⟩ := h
  exact ⟨by unfold upd; rw [if_neg (by omega)]; exact m1,
    by unfold upd; rw [if_neg (by omega)]; exact m2,
    by unfold upd; rw [if_neg (by omega)]; exact m3,
    by unfold upd; rw [if_pos rfl],
    by unfold upd; rw [if_neg (by omega)]; exact m5,
    by unfold upd; rw [if_neg (by omega)]; exact m6,
    fun c hc => by unfold upd; rw [if_neg (by omega)]; exact m7 c hc,
    fun i hi => ⟨by unfold upd; rw [if_neg (by omega)]; exact (m8 i hi).1, by unfold upd; rw [if_neg (by omega)]; exact (m8 i hi).2.1, by unfold upd; rw [if_neg (by omega)]; exact (m8 i hi).2.2.1, by unfold upd; rw [if_neg (by omega)]; exact (m8 i hi).2.2.2⟩⟩
theorem RD_4 {d : Nat → Int32} {z : hZ} {y : hY} (h : RD d z y) (v : Nat) : RD (upd d 4 (nI v)) z (y.1, y.2.1, y.2.2.1, v, y.2.2.2.2) := by
  obtain ⟨m1, m2, m3, m4, m5, m6, m7, m8⟩ := h
  exact ⟨by unfold upd; rw [if_neg (by omega)]; exact m1,
    by unfold upd; rw [if_neg (by omega)]; exact m2,
    by unfold upd; rw [if_neg (by omega)]; exact m3,
    by unfold upd; rw [if_neg (by omega)]; exact m4,
    by unfold upd; rw [if_pos rfl],
    by unfold upd; rw [if_neg (by omega)]; exact m6,
    fun c hc => by unfold upd; rw [if_neg (by omega)]; exact m7 c hc,
    fun i hi => ⟨by unfold upd; rw [if_neg (by omega)]; exact (m8 i hi).1, by unfold upd; rw [if_neg (by omega)]; exact (m8 i hi).2.1, by unfold upd; rw [if_neg (by omega)]; exact (m8 i hi).2.2.1, by unfold upd; rw [if_neg (by omega)]; exact (m8 i hi).2.2.2⟩⟩
theorem RD_8 {d : Nat → Int32} {z : hZ} {y : hY} (h : RD d z y) (v : Nat) : RD (upd d 8 (nI v)) (v, z.2) y := by
  obtain ⟨m1, m2, m3, m4, m5, m6, m7, m8⟩ := h
  exact ⟨by unfold upd; rw [if_neg (by omega)]; exact m1,
    by unfold upd; rw [if_neg (by omega)]; exact m2,
    by unfold upd; rw [if_neg (by omega)]; exact m3,
    by unfold upd; rw [if_neg (by omega)]; exact m4,
    by unfold upd; rw [if_neg (by omega)]; exact m5,
    by unfold upd; rw [if_pos rfl],
    fun c hc => by unfold upd; rw [if_neg (by omega)]; exact m7 c hc,
    fun i hi => ⟨by unfold upd; rw [if_neg (by omega)]; exact (m8 i hi).1, by unfold upd; rw [if_neg (by omega)]; exact (m8 i hi).2.1, by unfold upd; rw [if_neg (by omega)]; exact (m8 i hi).2.2.1, by unfold upd; rw [if_neg (by omega)]; exact (m8 i hi).2.2.2⟩⟩
theorem RDh_0 {d : Nat → Int32} {z : hZ} {y : hY} (h : RD d z y) {i : Nat} (hi : i < 8) (v : Nat) : RD (upd d (25 + 4 * i + 0) (nI v)) (z.1, z.2.1, z.2.2.1, va_up z.2.2.2.1 i v, z.2.2.2.2) y := by
  obtain ⟨m1, m2, m3, m4, m5, m6, m7, m8⟩ := h
  refine ⟨by unfold upd; rw [if_neg (by omega)]; exact m1, by unfold upd; rw [if_neg (by omega)]; exact m2, by unfold upd; rw [if_neg (by omega)]; exact m3, by unfold upd; rw [if_neg (by omega)]; exact m4, by unfold upd; rw [if_neg (by omega)]; exact m5, by unfold upd; rw [if_neg (by omega)]; exact m6, fun c hc => by unfold upd; rw [if_neg (by omega)]; exact m7 c hc, fun j hj => ⟨?_, ?_, ?_, ?_⟩⟩
  · show upd _ _ _ _ = nI (va_up _ _ _ j)
    unfold upd va_up
    by_cases q : j = i
    · rw [if_pos (by omega), if_pos q]
    · rw [if_neg (by omega), if_neg q]; exact (m8 j hj).1
  · unfold upd; rw [if_neg (by omega)]; exact (m8 j hj).2.1
  · unfold upd; rw [if_neg (by omega)]; exact (m8 j hj).2.2.1
  · unfold upd; rw [if_neg (by omega)]; exact (m8 j hj).2.2.2
theorem RDh_1 {d : Nat → Int32} {z : hZ} {y : hY} (h : RD d z y) {i : Nat} (hi : i < 8) (v : Nat) : RD (upd d (25 + 4 * i + 1) (nI v)) (z.1, z.2.1, z.2.2.1, z.2.2.2.1, va_up z.2.2.2.2.1 i v, z.2.2.2.2.2) y := by
  obtain ⟨m1, m2, m3, m4, m5, m6, m7, m8⟩ := h
  refine ⟨by unfold upd; rw [if_neg (by omega)]; exact m1, by unfold upd; rw [if_neg (by omega)]; exact m2, by unfold upd; rw [if_neg (by omega)]; exact m3, by unfold upd; rw [if_neg (by omega)]; exact m4, by unfold upd; rw [if_neg (by omega)]; exact m5, by unfold upd; rw [if_neg (by omega)]; exact m6, fun c hc => by unfold upd; rw [if_neg (by omega)]; exact m7 c hc, fun j hj => ⟨?_, ?_, ?_, ?_⟩⟩
  · unfold upd; rw [if_neg (by omega)]; exact (m8 j hj).1
  · show upd _ _ _ _ = nI (va_up _ _ _ j)
    unfold upd va_up
    by_cases q : j = i
    · rw [if_pos (by omega), if_pos q]
    · rw [if_neg (by omega), if_neg q]; exact (m8 j hj).2.1
  · unfold upd; rw [if_neg (by omega)]; exact (m8 j hj).2.2.1
  · unfold upd; rw [if_neg (by omega)]; exact (m8 j hj).2.2.2
theorem RDh_2 {d : Nat → Int32} {z : hZ} {y : hY} (h : RD d z y) {i : Nat} (hi : i < 8) (v : Nat) : RD (upd d (25 + 4 * i + 2) (nI v)) (z.1, z.2.1, z.2.2.1, z.2.2.2.1, z.2.2.2.2.1, va_up z.2.2.2.2.2.1 i v, z.2.2.2.2.2.2) y := by
  obtain ⟨m1, m2, m3, m4, m5, m6, m7, m8⟩ := h
  refine ⟨by unfold upd; rw [if_neg (by omega)]; exact m1, by unfold upd; rw [if_neg (by omega)]; exact m2, by unfold upd; rw [if_neg (by omega)]; exact m3, by unfold upd; rw [if_neg (by omega)]; exact m4, by unfold upd; rw [if_neg (by omega)]; exact m5, by unfold upd; rw [if_neg (by omega)]; exact m6, fun c hc => by unfold upd; rw [if_neg (by omega)]; exact m7 c hc, fun j hj => ⟨?_, ?_, ?_, ?_⟩⟩
  · unfold upd; rw [if_neg (by omega)]; exact (m8 j hj).1
  · unfold upd; rw [if_neg (by omega)]; exact (m8 j hj).2.1
  · show upd _ _ _ _ = nI (va_up _ _ _ j)
    unfold upd va_up
    by_cases q : j = i
    · rw [if_pos (by omega), if_pos q]
    · rw [if_neg (by omega), if_neg q]; exact (m8 j hj).2.2.1
  · unfold upd; rw [if_neg (by omega)]; exact (m8 j hj).2.2.2
theorem RDh_3 {d : Nat → Int32} {z : hZ} {y : hY} (h : RD d z y) {i : Nat} (hi : i < 8) (v : Nat) : RD (upd d (25 + 4 * i + 3) (nI v)) z (y.1, va_up y.2.1 i v, y.2.2) := by
  obtain ⟨m1, m2, m3, m4, m5, m6, m7, m8⟩ := h
  refine ⟨by unfold upd; rw [if_neg (by omega)]; exact m1, by unfold upd; rw [if_neg (by omega)]; exact m2, by unfold upd; rw [if_neg (by omega)]; exact m3, by unfold upd; rw [if_neg (by omega)]; exact m4, by unfold upd; rw [if_neg (by omega)]; exact m5, by unfold upd; rw [if_neg (by omega)]; exact m6, fun c hc => by unfold upd; rw [if_neg (by omega)]; exact m7 c hc, fun j hj => ⟨?_, ?_, ?_, ?_⟩⟩
  · unfold upd; rw [if_neg (by omega)]; exact (m8 j hj).1
  · unfold upd; rw [if_neg (by omega)]; exact (m8 j hj).2.1
  · unfold upd; rw [if_neg (by omega)]; exact (m8 j hj).2.2.1
  · show upd _ _ _ _ = nI (va_up _ _ _ j)
    unfold upd va_up
    by_cases q : j = i
    · rw [if_pos (by omega), if_pos q]
    · rw [if_neg (by omega), if_neg q]; exact (m8 j hj).2.2.2
theorem RD_ag {d d' : Nat → Int32} {z : hZ} {y : hY} (h : RD d z y) (e : ∀ j, j < 57 → j ≠ 5 → j ≠ 6 → j ≠ 7 → d' j = d j) : RD d' z y := by
  obtain ⟨m1, m2, m3, m4, m5, m6, m7, m8⟩ := h
  exact ⟨(e 0 (by omega) (by omega) (by omega) (by omega)).trans m1, (e 1 (by omega) (by omega) (by omega) (by omega)).trans m2, (e 2 (by omega) (by omega) (by omega) (by omega)).trans m3, (e 3 (by omega) (by omega) (by omega) (by omega)).trans m4, (e 4 (by omega) (by omega) (by omega) (by omega)).trans m5, (e 8 (by omega) (by omega) (by omega) (by omega)).trans m6, fun c hc => (e _ (by omega) (by omega) (by omega) (by omega)).trans (m7 c hc), fun i hi => ⟨(e _ (by omega) (by omega) (by omega) (by omega)).trans (m8 i hi).1, (e _ (by omega) (by omega) (by omega) (by omega)).trans (m8 i hi).2.1, (e _ (by omega) (by omega) (by omega) (by omega)).trans (m8 i hi).2.2.1, (e _ (by omega) (by omega) (by omega) (by omega)).trans (m8 i hi).2.2.2⟩⟩
theorem kp_up {d : Nat → Int32} {k : Nat} {x : Int32} (h1 : k < 57) (h2 : k ≠ 5) (h3 : k ≠ 6) (h4 : k ≠ 7) : kp d (upd d k x) := ⟨by unfold upd; rw [if_neg (by omega)], by unfold upd; rw [if_neg (by omega)], by unfold upd; rw [if_neg (by omega)], fun i hi => by unfold upd; rw [if_neg (by omega)]⟩
theorem kp_tr {d0 d1 d2 : Nat → Int32} (h1 : kp d0 d1) (h2 : kp d1 d2) : kp d0 d2 := ⟨h2.1.trans h1.1, h2.2.1.trans h1.2.1, h2.2.2.1.trans h1.2.2.1, fun i hi => (h2.2.2.2 i hi).trans (h1.2.2.2 i hi)⟩
/-- what TR says beside the town itself -/
def TO (zz wuse guse tm wtm : Int32) (tn wtn : Nat → Int32) (a b : Nat) (d : Nat → Int32) : Prop := (wuse = 0 ∧ guse = 1 ∧ zz = d 5) ∧ (a ≤ 50 ∧ tm = nI a ∧ d 6 = nI a ∧ ∀ i, i < a → tn i = d (179 + i) ∧ ∃ v, v < 256 ∧ d (179 + i) = nI v) ∧ (b ≤ 20 ∧ wtm = nI b ∧ d 7 = nI b ∧ ∀ i, i < b → wtn i = d (59 + i))
theorem TO_kp {zz wuse guse tm wtm : Int32} {tn wtn : Nat → Int32} {a b : Nat} {d d' : Nat → Int32} (h : TO zz wuse guse tm wtm tn wtn a b d) (k : kp d d') : TO zz wuse guse tm wtm tn wtn a b d' := by
  obtain ⟨⟨h1, h2, h3⟩, ⟨g1, g2, g3, g4⟩, f1, f2, f3, f4⟩ := h
  exact ⟨⟨h1, h2, h3.trans k.1.symm⟩, ⟨g1, g2, k.2.1.trans g3, fun i hi => ⟨(g4 i hi).1.trans (k.2.2.2 _ (by omega)).symm, by obtain ⟨v, q1, q2⟩ := (g4 i hi).2; exact ⟨v, q1, (k.2.2.2 _ (by omega)).trans q2⟩⟩⟩, f1, f2, k.2.2.1.trans f3, fun i hi => (f4 i hi).trans (k.2.2.2 _ (by omega)).symm⟩
theorem TM_kp {d d' : Nat → Int32} {t : TT} {z : hZ} {y : hY} (h : TM d t) (k : kp d d') (hr : RD d' z y) : TM d' (z, y, t.2.2) := ⟨hr, (k.2.2.2 _ (by omega)).trans h.2.1, (k.2.2.2 _ (by omega)).trans h.2.2.1, fun i hi => (k.2.2.2 _ (by omega)).trans (h.2.2.2.1 i hi), fun i hi => (k.2.2.2 _ (by omega)).trans (h.2.2.2.2 i hi)⟩
