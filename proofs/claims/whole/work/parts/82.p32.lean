/-! PURE 32: sheets: made, put -/
theorem pick0 {A0 A1 A2 A3 : Prop} (h : A0) : (nI 0 = (0 : Int32) → A0) ∧ (nI 0 = (1 : Int32) → A1) ∧ (nI 0 = (2 : Int32) → A2) ∧ (nI 0 = (3 : Int32) → A3) ∧ (nI 0 = (0 : Int32) ∨ nI 0 = (1 : Int32) ∨ nI 0 = (2 : Int32) ∨ nI 0 = (3 : Int32)) := by
  refine ⟨fun e => ?_, fun e => ?_, fun e => ?_, fun e => ?_, by decide⟩ <;> first | exact h | exact absurd e (by decide)
theorem pick1 {A0 A1 A2 A3 : Prop} (h : A1) : (nI 1 = (0 : Int32) → A0) ∧ (nI 1 = (1 : Int32) → A1) ∧ (nI 1 = (2 : Int32) → A2) ∧ (nI 1 = (3 : Int32) → A3) ∧ (nI 1 = (0 : Int32) ∨ nI 1 = (1 : Int32) ∨ nI 1 = (2 : Int32) ∨ nI 1 = (3 : Int32)) := by
  refine ⟨fun e => ?_, fun e => ?_, fun e => ?_, fun e => ?_, by decide⟩ <;> first | exact h | exact absurd e (by decide)
theorem pick2 {A0 A1 A2 A3 : Prop} (h : A2) : (nI 2 = (0 : Int32) → A0) ∧ (nI 2 = (1 : Int32) → A1) ∧ (nI 2 = (2 : Int32) → A2) ∧ (nI 2 = (3 : Int32) → A3) ∧ (nI 2 = (0 : Int32) ∨ nI 2 = (1 : Int32) ∨ nI 2 = (2 : Int32) ∨ nI 2 = (3 : Int32)) := by
  refine ⟨fun e => ?_, fun e => ?_, fun e => ?_, fun e => ?_, by decide⟩ <;> first | exact h | exact absurd e (by decide)
theorem pick3 {A0 A1 A2 A3 : Prop} (h : A3) : (nI 3 = (0 : Int32) → A0) ∧ (nI 3 = (1 : Int32) → A1) ∧ (nI 3 = (2 : Int32) → A2) ∧ (nI 3 = (3 : Int32) → A3) ∧ (nI 3 = (0 : Int32) ∨ nI 3 = (1 : Int32) ∨ nI 3 = (2 : Int32) ∨ nI 3 = (3 : Int32)) := by
  refine ⟨fun e => ?_, fun e => ?_, fun e => ?_, fun e => ?_, by decide⟩ <;> first | exact h | exact absurd e (by decide)
theorem SR_ag {bits many mb mm mb' mm' : Int32} {nums mn mn' : Nat → Int32} (h : SR bits many nums mb mm mn) (e1 : mb' = mb) (e2 : mm' = mm) (e : ∀ i, i < 40 → mn' i = mn i) : SR bits many nums mb' mm' mn' := by
  obtain ⟨h1, h2, h3, n, h4, h5, h6⟩ := h
  exact ⟨h1.trans e1.symm, h2.trans e2.symm, h3, n, h4, h5, fun i hi => (h6 i hi).trans (e i (by omega)).symm⟩
theorem SR_put {bits many mb mm : Int32} {nums mn mn' : Nat → Int32} (h : SR bits many nums mb mm mn) {i : Nat} {x : Int32} (e : ∀ j, j < 40 → mn' j = if j = i then x else mn j) : SR bits many (upd nums i x) mb mm mn' := by
  obtain ⟨h1, h2, h3, n, h4, h5, h6⟩ := h
  refine ⟨h1, h2, h3, n, h4, h5, fun j hj => ?_⟩
  rw [e j (by omega)]
  unfold upd
  by_cases w : j = i
  · rw [if_pos w, if_pos w]
  · rw [if_neg w, if_neg w]; exact h6 j hj
def cutV (b v : Int32) : Int32 := if b = 8 then v.toInt8.toInt32 else if b = 16 then v.toInt16.toInt32 else v
theorem p4_cut {v b : Int32} {P : Int32 → Prop} (h : P (cutV b v)) : wp_X4_cut v b P := by
  unfold cutV at h
  refine ⟨fun q => ?_, fun q => ⟨fun q' => ?_, fun q' => ?_⟩⟩
  · rw [if_pos q] at h; exact h
  · rw [if_neg q, if_pos q'] at h; exact h
  · rw [if_neg q, if_neg q'] at h; exact h
theorem n40 (q i : Nat) : ((40 : Int32) * nI q) + nI i = nI (40 * q + i) := by
  rw [show (40 : Int32) * nI q = nI (40 * q) from pk_mul 40 q, nI_add]
theorem v160 {q i : Nat} (hq : q ≤ 3) (hi : i < 40) : vp_in (((40 : Int32) * nI q) + nI i) 160 := by rw [n40]; exact ix (by omega) (by omega)
theorem c160 {q i : Nat} (hq : q ≤ 3) (hi : i < 40) : (((40 : Int32) * nI q) + nI i).toNatClampNeg = 40 * q + i := by rw [n40]; exact nI_clamp (by omega)
theorem q3 {q : Nat} (hq : q ≤ 3) : 0 ≤ nI q ∧ nI q ≤ 3 := few_in (m := 3) (by omega) hq
theorem s8_putMiss {q : Nat} (hq : q ≤ 3) {i v : Int32} {found bitsOf sizeOf number : Nat → Int32} (hb : bitsOf q = 0) {P : Int32 → (Nat → Int32) → (Nat → Int32) → Prop} (h : P ((-1000000000 : Int32) - nI 2) (upd found 2 (found 2 + 1)) number) : wp_X8_put (nI q) i v found bitsOf sizeOf number P := by
  unfold wp_X8_put
  rw [nI_clamp (n := q) (by omega)]
  exact s8t (q3 hq) (yes ⟨ix (by omega) (by omega), br_t hb (e8 2 (by omega) h)⟩)
theorem s8_putNo {q n : Nat} (hq : q ≤ 3) (hn : n ≤ 40) {i v : Int32} (hi : ¬ ∃ j, j < n ∧ i = nI j) {found bitsOf sizeOf number : Nat → Int32} (hb : ¬ bitsOf q = 0) (hs : sizeOf q = nI n) {P : Int32 → (Nat → Int32) → (Nat → Int32) → Prop} (h : P ((-1000000000 : Int32) - nI 1) (upd found 1 (found 1 + 1)) number) : wp_X8_put (nI q) i v found bitsOf sizeOf number P := by
  unfold wp_X8_put
  rw [nI_clamp (n := q) (by omega), hs]
  exact s8t (q3 hq) (yes ⟨ix (by omega) (by omega), br_f hb ⟨ix (by omega) (by omega), w8f 0 (nI n - 1) (fun z => hi ((hleN (by omega)).mp z)) (no (e8 1 (by omega) h))⟩⟩)
theorem s8_putOk {q i n : Nat} (hq : q ≤ 3) (hi : i < n) (hn : n ≤ 40) {v : Int32} {found bitsOf sizeOf number : Nat → Int32} (hb : ¬ bitsOf q = 0) (hs : sizeOf q = nI n) {P : Int32 → (Nat → Int32) → (Nat → Int32) → Prop} (h : P 1 found (upd number (40 * q + i) (cutV (bitsOf q) v))) : wp_X8_put (nI q) (nI i) v found bitsOf sizeOf number P := by
  unfold wp_X8_put
  have v4 : vp_in (nI q) 4 := ix (by omega) (by omega)
  have v1 := v160 hq (show i < 40 by omega)
  rw [nI_clamp (n := q) (by omega), hs, c160 hq (show i < 40 by omega)]
  refine s8t (q3 hq) (yes ⟨v4, br_f hb ⟨v4, w8t 0 (nI n - 1) ((hleN (by omega)).mpr ⟨i, hi, rfl⟩) (yes ⟨v4, fun z => ⟨v1, ?_⟩, fun z => ⟨v4, fun z' => ⟨v1, ?_⟩, fun z' => ⟨v1, ?_⟩⟩⟩)⟩⟩)
  · unfold cutV at h; rw [if_pos z] at h; exact h
  · unfold cutV at h; rw [if_neg z, if_pos z'] at h; exact h
  · unfold cutV at h; rw [if_neg z, if_neg z'] at h; exact h
theorem st_put : ST_put Rel := by
  intro cs ms h a1 a2 a3
  obtain ⟨hT, hK, hC, hE, hV, s0, s1, s2, s3⟩ := id h
  have er := er_up hE (k := 1) (by omega)
  have er2 := er_up hE (k := 2) (by omega)
  by_cases g1 : 0 ≤ a1 ∧ a1 ≤ 3
  · obtain ⟨q, hq, rfl⟩ := rg (m := 3) (by omega) g1
    refine s7t g1 (yes ?_)
    have hq' : q = 0 ∨ q = 1 ∨ q = 2 ∨ q = 3 := by omega
    rcases hq' with rfl | rfl | rfl | rfl
    · obtain ⟨q1, q2, q3, n, q4, q5, q6⟩ := id s0
      refine pick0 ?_
      by_cases gb : (cs.1 50) = 0
      · exact br_t gb (yes (e7 2 (by omega) (s8_putMiss (by omega) (q1.symm.trans gb) ⟨rfl, hT, hK, hC, er2, hV, s0, s1, s2, s3⟩)))
      · refine br_f gb (no ?_)
        have gb' : ¬ (ms.2.1 10) 0 = 0 := fun z => gb (q1.trans z)
        by_cases gi : ∃ i, i < n ∧ a2 = nI i
        · obtain ⟨i, hi, rfl⟩ := gi
          rw [q5]
          refine p3_has (by omega) hi q4 (yes (p4_cut ⟨ix (by omega) (by omega), s8_putOk (by omega) hi q4 gb' (q2.symm.trans q5) ?_⟩))
          rw [nI_clamp (n := i) (by omega), q1]
          have S := SR_put (i := i) (x := cutV ((ms.2.1 10) 0) a3) (mn' := fun j => upd (ms.2.1 12) (40 * 0 + i) (cutV ((ms.2.1 10) 0) a3) (40 * 0 + j)) s0 (fun j hj => by
            show upd _ _ _ _ = _
            unfold upd
            by_cases w : j = i
            · rw [if_pos w, if_pos (by omega)]
            · rw [if_neg w, if_neg (by omega)])
          refine ⟨rfl, hT, hK, hC, hE, hV, ?_, ?_, ?_, ?_⟩
          · first
              | exact S
              | exact SR_ag s0 rfl rfl (fun j hj => upd_ne (by omega))
          · first
              | exact S
              | exact SR_ag s1 rfl rfl (fun j hj => upd_ne (by omega))
          · first
              | exact S
              | exact SR_ag s2 rfl rfl (fun j hj => upd_ne (by omega))
          · first
              | exact S
              | exact SR_ag s3 rfl rfl (fun j hj => upd_ne (by omega))
        · rw [q5]
          exact p3_hasF (by omega) gi (no (e7 1 (by omega) (s8_putNo (by omega) q4 gi gb' (q2.symm.trans q5) ⟨rfl, hT, hK, hC, er, hV, s0, s1, s2, s3⟩)))
    · obtain ⟨q1, q2, q3, n, q4, q5, q6⟩ := id s1
      refine pick1 ?_
      by_cases gb : (cs.1 52) = 0
      · exact br_t gb (yes (e7 2 (by omega) (s8_putMiss (by omega) (q1.symm.trans gb) ⟨rfl, hT, hK, hC, er2, hV, s0, s1, s2, s3⟩)))
      · refine br_f gb (no ?_)
        have gb' : ¬ (ms.2.1 10) 1 = 0 := fun z => gb (q1.trans z)
        by_cases gi : ∃ i, i < n ∧ a2 = nI i
        · obtain ⟨i, hi, rfl⟩ := gi
          rw [q5]
          refine p3_has (by omega) hi q4 (yes (p4_cut ⟨ix (by omega) (by omega), s8_putOk (by omega) hi q4 gb' (q2.symm.trans q5) ?_⟩))
          rw [nI_clamp (n := i) (by omega), q1]
          have S := SR_put (i := i) (x := cutV ((ms.2.1 10) 1) a3) (mn' := fun j => upd (ms.2.1 12) (40 * 1 + i) (cutV ((ms.2.1 10) 1) a3) (40 * 1 + j)) s1 (fun j hj => by
            show upd _ _ _ _ = _
            unfold upd
            by_cases w : j = i
            · rw [if_pos w, if_pos (by omega)]
            · rw [if_neg w, if_neg (by omega)])
          refine ⟨rfl, hT, hK, hC, hE, hV, ?_, ?_, ?_, ?_⟩
          · first
              | exact S
              | exact SR_ag s0 rfl rfl (fun j hj => upd_ne (by omega))
          · first
              | exact S
              | exact SR_ag s1 rfl rfl (fun j hj => upd_ne (by omega))
          · first
              | exact S
              | exact SR_ag s2 rfl rfl (fun j hj => upd_ne (by omega))
          · first
              | exact S
              | exact SR_ag s3 rfl rfl (fun j hj => upd_ne (by omega))
        · rw [q5]
          exact p3_hasF (by omega) gi (no (e7 1 (by omega) (s8_putNo (by omega) q4 gi gb' (q2.symm.trans q5) ⟨rfl, hT, hK, hC, er, hV, s0, s1, s2, s3⟩)))
    · obtain ⟨q1, q2, q3, n, q4, q5, q6⟩ := id s2
      refine pick2 ?_
      by_cases gb : (cs.1 54) = 0
      · exact br_t gb (yes (e7 2 (by omega) (s8_putMiss (by omega) (q1.symm.trans gb) ⟨rfl, hT, hK, hC, er2, hV, s0, s1, s2, s3⟩)))
      · refine br_f gb (no ?_)
        have gb' : ¬ (ms.2.1 10) 2 = 0 := fun z => gb (q1.trans z)
        by_cases gi : ∃ i, i < n ∧ a2 = nI i
        · obtain ⟨i, hi, rfl⟩ := gi
          rw [q5]
          refine p3_has (by omega) hi q4 (yes (p4_cut ⟨ix (by omega) (by omega), s8_putOk (by omega) hi q4 gb' (q2.symm.trans q5) ?_⟩))
          rw [nI_clamp (n := i) (by omega), q1]
          have S := SR_put (i := i) (x := cutV ((ms.2.1 10) 2) a3) (mn' := fun j => upd (ms.2.1 12) (40 * 2 + i) (cutV ((ms.2.1 10) 2) a3) (40 * 2 + j)) s2 (fun j hj => by
            show upd _ _ _ _ = _
            unfold upd
            by_cases w : j = i
            · rw [if_pos w, if_pos (by omega)]
            · rw [if_neg w, if_neg (by omega)])
          refine ⟨rfl, hT, hK, hC, hE, hV, ?_, ?_, ?_, ?_⟩
          · first
              | exact S
              | exact SR_ag s0 rfl rfl (fun j hj => upd_ne (by omega))
          · first
              | exact S
              | exact SR_ag s1 rfl rfl (fun j hj => upd_ne (by omega))
          · first
              | exact S
              | exact SR_ag s2 rfl rfl (fun j hj => upd_ne (by omega))
          · first
              | exact S
              | exact SR_ag s3 rfl rfl (fun j hj => upd_ne (by omega))
        · rw [q5]
          exact p3_hasF (by omega) gi (no (e7 1 (by omega) (s8_putNo (by omega) q4 gi gb' (q2.symm.trans q5) ⟨rfl, hT, hK, hC, er, hV, s0, s1, s2, s3⟩)))
    · obtain ⟨q1, q2, q3, n, q4, q5, q6⟩ := id s3
      refine pick3 ?_
      by_cases gb : (cs.1 56) = 0
      · exact br_t gb (yes (e7 2 (by omega) (s8_putMiss (by omega) (q1.symm.trans gb) ⟨rfl, hT, hK, hC, er2, hV, s0, s1, s2, s3⟩)))
      · refine br_f gb (no ?_)
        have gb' : ¬ (ms.2.1 10) 3 = 0 := fun z => gb (q1.trans z)
        by_cases gi : ∃ i, i < n ∧ a2 = nI i
        · obtain ⟨i, hi, rfl⟩ := gi
          rw [q5]
          refine p3_has (by omega) hi q4 (yes (p4_cut ⟨ix (by omega) (by omega), s8_putOk (by omega) hi q4 gb' (q2.symm.trans q5) ?_⟩))
          rw [nI_clamp (n := i) (by omega), q1]
          have S := SR_put (i := i) (x := cutV ((ms.2.1 10) 3) a3) (mn' := fun j => upd (ms.2.1 12) (40 * 3 + i) (cutV ((ms.2.1 10) 3) a3) (40 * 3 + j)) s3 (fun j hj => by
            show upd _ _ _ _ = _
            unfold upd
            by_cases w : j = i
            · rw [if_pos w, if_pos (by omega)]
            · rw [if_neg w, if_neg (by omega)])
          refine ⟨rfl, hT, hK, hC, hE, hV, ?_, ?_, ?_, ?_⟩
          · first
              | exact S
              | exact SR_ag s0 rfl rfl (fun j hj => upd_ne (by omega))
          · first
              | exact S
              | exact SR_ag s1 rfl rfl (fun j hj => upd_ne (by omega))
          · first
              | exact S
              | exact SR_ag s2 rfl rfl (fun j hj => upd_ne (by omega))
          · first
              | exact S
              | exact SR_ag s3 rfl rfl (fun j hj => upd_ne (by omega))
        · rw [q5]
          exact p3_hasF (by omega) gi (no (e7 1 (by omega) (s8_putNo (by omega) q4 gi gb' (q2.symm.trans q5) ⟨rfl, hT, hK, hC, er, hV, s0, s1, s2, s3⟩)))
  · exact s7f g1 (no (e7 1 (by omega) (s8f g1 (no (e8 1 (by omega) ⟨rfl, hT, hK, hC, er, hV, s0, s1, s2, s3⟩)))))
theorem p4_becomes {n : Nat} (hn : n ≤ 40) {bits vb many : Int32} {nums : Nat → Int32} {P : Int32 → Int32 → (Nat → Int32) → Prop} (h : ∀ nums' : Nat → Int32, (∀ i, i < n → nums' i = 0) → P bits (nI n) nums') : wp_X4_becomes bits (nI n) vb many nums P := by
  unfold wp_X4_becomes
  refine lpU (σ := Int32 × (Nat → Int32)) (fun f x s => wp_X4_becomes_b15 (nI n) P f x bits s.1 s.2) (fun i s => s.1 = nI i ∧ ∀ j, j < i → s.2 j = 0) n 0 (0, nums) (by omega) ⟨rfl, fun j hj => absurd hj (Nat.not_lt_zero _)⟩ (fun f s hI => ?_) (fun f i s hi hI ih => ?_)
  · obtain ⟨e1, e2⟩ := hI
    rw [e1]
    exact br_t (nI_le (Nat.le_refl _) (by omega)) (h _ e2)
  · obtain ⟨e1, e2⟩ := hI
    rw [e1]
    refine br_f (nI_ge hi (by omega)) (p3_add (by omega) (by omega) (ih (_, _) ⟨rfl, fun j hj => ?_⟩))
    show upd _ _ _ j = 0
    unfold upd
    by_cases w : j = i
    · rw [if_pos w]
    · rw [if_neg w]; exact e2 j (by omega)
theorem s8_sheetLoop {q : Nat} (hq : q ≤ 3) {found bo so number : Nat → Int32} {P : Int32 → (Nat → Int32) → (Nat → Int32) → (Nat → Int32) → (Nat → Int32) → Prop} (h : ∀ number' : Nat → Int32, (∀ j, j < 40 → number' (40 * q + j) = 0) → (∀ j, ¬ (40 * q ≤ j ∧ j < 40 * q + 40) → number' j = number j) → P 1 found bo so number') : ∃ k, wp_X8_sheet_b90 (nI q) P k (0 : Int32) found bo so number := by
  refine lpU (σ := Nat → Int32) (fun f x s => wp_X8_sheet_b90 (nI q) P f x found bo so s) (fun i s => (∀ j, j < i → s (40 * q + j) = 0) ∧ ∀ j, ¬ (40 * q ≤ j ∧ j < 40 * q + 40) → s j = number j) 40 0 number (by omega) ⟨fun j hj => absurd hj (Nat.not_lt_zero _), fun _ _ => rfl⟩ (fun f s hI => br_t (by decide) (h s hI.1 hI.2)) (fun f i s hi hI ih => ?_)
  refine br_f (nI_ge (b := 40) hi (by omega)) ⟨v160 hq hi, ?_⟩
  rw [c160 hq hi]
  refine ih _ ⟨fun j hj => ?_, fun j hj => ?_⟩
  · unfold upd
    by_cases w : j = i
    · rw [if_pos (by omega)]
    · rw [if_neg (by omega)]; exact hI.1 j (by omega)
  · unfold upd
    rw [if_neg (by omega)]
    exact hI.2 j hj
theorem nest_t {a2 : Int32} {X F : Prop} (h : a2 = 0 ∨ a2 = 8 ∨ a2 = 16 ∨ a2 = 32) (x : X) : (a2 = 0 → X) ∧ (¬ a2 = 0 → ((a2 = (8 : Int32) → X) ∧ (¬ a2 = (8 : Int32) → ((a2 = (16 : Int32) → X) ∧ (¬ a2 = (16 : Int32) → ((a2 = (32 : Int32) → X) ∧ (¬ a2 = (32 : Int32) → F))))))) := ⟨fun _ => x, fun n0 => ⟨fun _ => x, fun n8 => ⟨fun _ => x, fun n16 => ⟨fun _ => x, fun n32 => by
  rcases h with h | h | h | h
  · exact absurd h n0
  · exact absurd h n8
  · exact absurd h n16
  · exact absurd h n32⟩⟩⟩⟩
theorem nest_f {a2 : Int32} {X F : Prop} (h : ¬ (a2 = 0 ∨ a2 = 8 ∨ a2 = 16 ∨ a2 = 32)) (f : F) : (a2 = 0 → X) ∧ (¬ a2 = 0 → ((a2 = (8 : Int32) → X) ∧ (¬ a2 = (8 : Int32) → ((a2 = (16 : Int32) → X) ∧ (¬ a2 = (16 : Int32) → ((a2 = (32 : Int32) → X) ∧ (¬ a2 = (32 : Int32) → F))))))) := ⟨fun z => absurd (.inl z) h, fun _ => ⟨fun z => absurd (.inr (.inl z)) h, fun _ => ⟨fun z => absurd (.inr (.inr (.inl z))) h, fun _ => ⟨fun z => absurd (.inr (.inr (.inr z))) h, fun _ => f⟩⟩⟩⟩
theorem s8_sheet0 {q : Nat} (hq : q ≤ 3) {a3 : Int32} {found bitsOf sizeOf number : Nat → Int32} {P : Int32 → (Nat → Int32) → (Nat → Int32) → (Nat → Int32) → (Nat → Int32) → Prop} (h : ∀ number' : Nat → Int32, (∀ j, j < 40 → number' (40 * q + j) = 0) → (∀ j, ¬ (40 * q ≤ j ∧ j < 40 * q + 40) → number' j = number j) → P 1 found (upd bitsOf q 0) (upd sizeOf q (nI 0)) number') : wp_X8_sheet (nI q) 0 a3 found bitsOf sizeOf number P := by
  have v4 : vp_in (nI q) 4 := ix (by omega) (by omega)
  refine s8t (q3 hq) (yes (nest_t (.inl rfl) (br_t rfl ?_)))
  refine br_t rfl ⟨v4, br_t rfl ⟨v4, ?_⟩⟩
  rw [nI_clamp (n := q) (by omega)]
  exact s8_sheetLoop hq h
theorem s8_sheetN {q n : Nat} (hq : q ≤ 3) (hn : n ≤ 40) {a2 : Int32} (h2 : a2 = 0 ∨ a2 = 8 ∨ a2 = 16 ∨ a2 = 32) (h0 : ¬ a2 = 0) {found bitsOf sizeOf number : Nat → Int32} {P : Int32 → (Nat → Int32) → (Nat → Int32) → (Nat → Int32) → (Nat → Int32) → Prop} (h : ∀ number' : Nat → Int32, (∀ j, j < 40 → number' (40 * q + j) = 0) → (∀ j, ¬ (40 * q ≤ j ∧ j < 40 * q + 40) → number' j = number j) → P 1 found (upd bitsOf q a2) (upd sizeOf q (nI n)) number') : wp_X8_sheet (nI q) a2 (nI n) found bitsOf sizeOf number P := by
  have v4 : vp_in (nI q) 4 := ix (by omega) (by omega)
  refine s8t (q3 hq) (yes (nest_t h2 (br_f h0 (br_t (nI_pos' (by omega)) ?_))))
  refine br_f h0 (br_t (nI_le (b := 40) hn (by omega)) ⟨v4, br_f h0 ⟨v4, ?_⟩⟩)
  rw [nI_clamp (n := q) (by omega)]
  exact s8_sheetLoop hq h
theorem st_sheet : ST_sheet Rel := by
  intro cs ms h a1 a2 a3
  obtain ⟨hT, hK, hC, hE, hV, s0, s1, s2, s3⟩ := id h
  have er := er_up hE (k := 1) (by omega)
  have er3 := er_up hE (k := 3) (by omega)
  by_cases g1 : 0 ≤ a1 ∧ a1 ≤ 3
  · obtain ⟨q, hq, rfl⟩ := rg (m := 3) (by omega) g1
    refine s7t g1 (yes ?_)
    by_cases g2 : a2 = 0 ∨ a2 = 8 ∨ a2 = 16 ∨ a2 = 32
    · refine nest_t g2 ?_
      by_cases g0 : a2 = 0
      · subst g0
        refine br_t rfl (br_t rfl ?_)
        have hq' : q = 0 ∨ q = 1 ∨ q = 2 ∨ q = 3 := by omega
        rcases hq' with rfl | rfl | rfl | rfl
        · refine pick0 (br_t rfl (p4_becomes (n := 0) (by omega) (fun nums' z7 => s8_sheet0 (q := 0) (by omega) (fun number' z8 z9 => ⟨rfl, hT, hK, hC, hE, hV, ?_, ?_, ?_, ?_⟩))))
          · first
              | exact ⟨rfl, rfl, g2, 0, by omega, rfl, fun j hj => absurd hj (Nat.not_lt_zero _)⟩
              | exact SR_ag s0 rfl rfl (fun j hj => z9 _ (by omega))
          · first
              | exact ⟨rfl, rfl, g2, 0, by omega, rfl, fun j hj => absurd hj (Nat.not_lt_zero _)⟩
              | exact SR_ag s1 rfl rfl (fun j hj => z9 _ (by omega))
          · first
              | exact ⟨rfl, rfl, g2, 0, by omega, rfl, fun j hj => absurd hj (Nat.not_lt_zero _)⟩
              | exact SR_ag s2 rfl rfl (fun j hj => z9 _ (by omega))
          · first
              | exact ⟨rfl, rfl, g2, 0, by omega, rfl, fun j hj => absurd hj (Nat.not_lt_zero _)⟩
              | exact SR_ag s3 rfl rfl (fun j hj => z9 _ (by omega))
        · refine pick1 (br_t rfl (p4_becomes (n := 0) (by omega) (fun nums' z7 => s8_sheet0 (q := 1) (by omega) (fun number' z8 z9 => ⟨rfl, hT, hK, hC, hE, hV, ?_, ?_, ?_, ?_⟩))))
          · first
              | exact ⟨rfl, rfl, g2, 0, by omega, rfl, fun j hj => absurd hj (Nat.not_lt_zero _)⟩
              | exact SR_ag s0 rfl rfl (fun j hj => z9 _ (by omega))
          · first
              | exact ⟨rfl, rfl, g2, 0, by omega, rfl, fun j hj => absurd hj (Nat.not_lt_zero _)⟩
              | exact SR_ag s1 rfl rfl (fun j hj => z9 _ (by omega))
          · first
              | exact ⟨rfl, rfl, g2, 0, by omega, rfl, fun j hj => absurd hj (Nat.not_lt_zero _)⟩
              | exact SR_ag s2 rfl rfl (fun j hj => z9 _ (by omega))
          · first
              | exact ⟨rfl, rfl, g2, 0, by omega, rfl, fun j hj => absurd hj (Nat.not_lt_zero _)⟩
              | exact SR_ag s3 rfl rfl (fun j hj => z9 _ (by omega))
        · refine pick2 (br_t rfl (p4_becomes (n := 0) (by omega) (fun nums' z7 => s8_sheet0 (q := 2) (by omega) (fun number' z8 z9 => ⟨rfl, hT, hK, hC, hE, hV, ?_, ?_, ?_, ?_⟩))))
          · first
              | exact ⟨rfl, rfl, g2, 0, by omega, rfl, fun j hj => absurd hj (Nat.not_lt_zero _)⟩
              | exact SR_ag s0 rfl rfl (fun j hj => z9 _ (by omega))
          · first
              | exact ⟨rfl, rfl, g2, 0, by omega, rfl, fun j hj => absurd hj (Nat.not_lt_zero _)⟩
              | exact SR_ag s1 rfl rfl (fun j hj => z9 _ (by omega))
          · first
              | exact ⟨rfl, rfl, g2, 0, by omega, rfl, fun j hj => absurd hj (Nat.not_lt_zero _)⟩
              | exact SR_ag s2 rfl rfl (fun j hj => z9 _ (by omega))
          · first
              | exact ⟨rfl, rfl, g2, 0, by omega, rfl, fun j hj => absurd hj (Nat.not_lt_zero _)⟩
              | exact SR_ag s3 rfl rfl (fun j hj => z9 _ (by omega))
        · refine pick3 (br_t rfl (p4_becomes (n := 0) (by omega) (fun nums' z7 => s8_sheet0 (q := 3) (by omega) (fun number' z8 z9 => ⟨rfl, hT, hK, hC, hE, hV, ?_, ?_, ?_, ?_⟩))))
          · first
              | exact ⟨rfl, rfl, g2, 0, by omega, rfl, fun j hj => absurd hj (Nat.not_lt_zero _)⟩
              | exact SR_ag s0 rfl rfl (fun j hj => z9 _ (by omega))
          · first
              | exact ⟨rfl, rfl, g2, 0, by omega, rfl, fun j hj => absurd hj (Nat.not_lt_zero _)⟩
              | exact SR_ag s1 rfl rfl (fun j hj => z9 _ (by omega))
          · first
              | exact ⟨rfl, rfl, g2, 0, by omega, rfl, fun j hj => absurd hj (Nat.not_lt_zero _)⟩
              | exact SR_ag s2 rfl rfl (fun j hj => z9 _ (by omega))
          · first
              | exact ⟨rfl, rfl, g2, 0, by omega, rfl, fun j hj => absurd hj (Nat.not_lt_zero _)⟩
              | exact SR_ag s3 rfl rfl (fun j hj => z9 _ (by omega))
      · refine br_f g0 ?_
        by_cases g3 : 0 ≤ a3
        · refine br_t g3 (br_f g0 ?_)
          by_cases g4 : a3 ≤ 40
          · obtain ⟨n, hn, rfl⟩ := rg (m := 40) (by omega) ⟨g3, g4⟩
            refine br_t g4 ?_
            have hq' : q = 0 ∨ q = 1 ∨ q = 2 ∨ q = 3 := by omega
            rcases hq' with rfl | rfl | rfl | rfl
            · refine pick0 (br_f g0 (p4_becomes hn (fun nums' z7 => s8_sheetN (q := 0) (by omega) hn g2 g0 (fun number' z8 z9 => ⟨rfl, hT, hK, hC, hE, hV, ?_, ?_, ?_, ?_⟩))))
              · first
                  | exact ⟨rfl, rfl, g2, n, hn, rfl, fun j hj => (z7 j hj).trans (z8 j (by omega)).symm⟩
                  | exact SR_ag s0 rfl rfl (fun j hj => z9 _ (by omega))
              · first
                  | exact ⟨rfl, rfl, g2, n, hn, rfl, fun j hj => (z7 j hj).trans (z8 j (by omega)).symm⟩
                  | exact SR_ag s1 rfl rfl (fun j hj => z9 _ (by omega))
              · first
                  | exact ⟨rfl, rfl, g2, n, hn, rfl, fun j hj => (z7 j hj).trans (z8 j (by omega)).symm⟩
                  | exact SR_ag s2 rfl rfl (fun j hj => z9 _ (by omega))
              · first
                  | exact ⟨rfl, rfl, g2, n, hn, rfl, fun j hj => (z7 j hj).trans (z8 j (by omega)).symm⟩
                  | exact SR_ag s3 rfl rfl (fun j hj => z9 _ (by omega))
            · refine pick1 (br_f g0 (p4_becomes hn (fun nums' z7 => s8_sheetN (q := 1) (by omega) hn g2 g0 (fun number' z8 z9 => ⟨rfl, hT, hK, hC, hE, hV, ?_, ?_, ?_, ?_⟩))))
              · first
                  | exact ⟨rfl, rfl, g2, n, hn, rfl, fun j hj => (z7 j hj).trans (z8 j (by omega)).symm⟩
                  | exact SR_ag s0 rfl rfl (fun j hj => z9 _ (by omega))
              · first
                  | exact ⟨rfl, rfl, g2, n, hn, rfl, fun j hj => (z7 j hj).trans (z8 j (by omega)).symm⟩
                  | exact SR_ag s1 rfl rfl (fun j hj => z9 _ (by omega))
              · first
                  | exact ⟨rfl, rfl, g2, n, hn, rfl, fun j hj => (z7 j hj).trans (z8 j (by omega)).symm⟩
                  | exact SR_ag s2 rfl rfl (fun j hj => z9 _ (by omega))
              · first
                  | exact ⟨rfl, rfl, g2, n, hn, rfl, fun j hj => (z7 j hj).trans (z8 j (by omega)).symm⟩
                  | exact SR_ag s3 rfl rfl (fun j hj => z9 _ (by omega))
            · refine pick2 (br_f g0 (p4_becomes hn (fun nums' z7 => s8_sheetN (q := 2) (by omega) hn g2 g0 (fun number' z8 z9 => ⟨rfl, hT, hK, hC, hE, hV, ?_, ?_, ?_, ?_⟩))))
              · first
                  | exact ⟨rfl, rfl, g2, n, hn, rfl, fun j hj => (z7 j hj).trans (z8 j (by omega)).symm⟩
                  | exact SR_ag s0 rfl rfl (fun j hj => z9 _ (by omega))
              · first
                  | exact ⟨rfl, rfl, g2, n, hn, rfl, fun j hj => (z7 j hj).trans (z8 j (by omega)).symm⟩
                  | exact SR_ag s1 rfl rfl (fun j hj => z9 _ (by omega))
              · first
                  | exact ⟨rfl, rfl, g2, n, hn, rfl, fun j hj => (z7 j hj).trans (z8 j (by omega)).symm⟩
                  | exact SR_ag s2 rfl rfl (fun j hj => z9 _ (by omega))
              · first
                  | exact ⟨rfl, rfl, g2, n, hn, rfl, fun j hj => (z7 j hj).trans (z8 j (by omega)).symm⟩
                  | exact SR_ag s3 rfl rfl (fun j hj => z9 _ (by omega))
            · refine pick3 (br_f g0 (p4_becomes hn (fun nums' z7 => s8_sheetN (q := 3) (by omega) hn g2 g0 (fun number' z8 z9 => ⟨rfl, hT, hK, hC, hE, hV, ?_, ?_, ?_, ?_⟩))))
              · first
                  | exact ⟨rfl, rfl, g2, n, hn, rfl, fun j hj => (z7 j hj).trans (z8 j (by omega)).symm⟩
                  | exact SR_ag s0 rfl rfl (fun j hj => z9 _ (by omega))
              · first
                  | exact ⟨rfl, rfl, g2, n, hn, rfl, fun j hj => (z7 j hj).trans (z8 j (by omega)).symm⟩
                  | exact SR_ag s1 rfl rfl (fun j hj => z9 _ (by omega))
              · first
                  | exact ⟨rfl, rfl, g2, n, hn, rfl, fun j hj => (z7 j hj).trans (z8 j (by omega)).symm⟩
                  | exact SR_ag s2 rfl rfl (fun j hj => z9 _ (by omega))
              · first
                  | exact ⟨rfl, rfl, g2, n, hn, rfl, fun j hj => (z7 j hj).trans (z8 j (by omega)).symm⟩
                  | exact SR_ag s3 rfl rfl (fun j hj => z9 _ (by omega))
          · exact br_f g4 (e7 1 (by omega) (s8t g1 (yes (nest_t g2 (br_f g0 (br_t g3 (br_f g0 (br_f g4 (e8 1 (by omega) ⟨rfl, hT, hK, hC, er, hV, s0, s1, s2, s3⟩)))))))))
        · exact br_f g3 (e7 3 (by omega) (s8t g1 (yes (nest_t g2 (br_f g0 (br_f g3 (e8 3 (by omega) ⟨rfl, hT, hK, hC, er3, hV, s0, s1, s2, s3⟩)))))))
    · exact nest_f g2 (e7 1 (by omega) (s8t g1 (yes (nest_f g2 (e8 1 (by omega) ⟨rfl, hT, hK, hC, er, hV, s0, s1, s2, s3⟩)))))
  · exact s7f g1 (no (e7 1 (by omega) (s8f g1 (no (e8 1 (by omega) ⟨rfl, hT, hK, hC, er, hV, s0, s1, s2, s3⟩)))))
