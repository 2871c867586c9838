/-! PURE 33: sheets: heats, judge -/
def hOk (x : Int32) : Prop := 0 ≤ x ∧ x ≤ 999
theorem hOk_n {x : Int32} (h : hOk x) : x = nI x.toNatClampNeg ∧ x.toNatClampNeg ≤ 999 := by
  obtain ⟨j, hj, e⟩ := rg (m := 999) (by omega) h
  subst e
  rw [nI_clamp (by omega)]
  exact ⟨rfl, hj⟩
theorem s7_heatsLoop {n : Nat} (hn : n ≤ 40) {nums heat : Nat → Int32} (errors : Nat → Int32) (post : _)
    (hp : ∀ (k : Nat) (heat' : Nat → Int32), k ≤ 16 → k ≤ n → (∀ j, j < k → hOk (nums j)) → (k = 16 ∨ k = n ∨ ¬ hOk (nums k)) → (∀ j, heat' j = if j < k then nums j else heat j) → post (nI k) errors heat') :
    ∀ r i, i + r = 16 → i ≤ n → (∀ j, j < i → hOk (nums j)) → ∀ heat' : Nat → Int32, (∀ j, heat' j = if j < i then nums j else heat j) → wp_X7_heats_b38 (nI n) nums post (r + 1) (nI i) (nI i) errors heat' := by
  intro r
  induction r with
  | zero =>
    intro i hi h1 h2 heat' h3
    have e : i = 16 := by omega
    subst e
    exact br_t (by decide) (hp 16 heat' (by omega) h1 h2 (.inl rfl) h3)
  | succ r ih =>
    intro i hi h1 h2 heat' h3
    refine br_f (nI_ge (b := 16) (by omega) (by omega)) ?_
    by_cases w : i < n
    · refine p3_has (by omega) w hn (yes (p3_at (by omega) w hn ?_))
      by_cases g : hOk (nums i)
      · refine w7t g (yes ⟨ix (by omega) (by omega), ?_⟩)
        rw [nI_clamp (n := i) (by omega), nI_1]
        refine ih (i + 1) (by omega) w (fun j hj => ?_) _ (fun j => ?_)
        · by_cases e : j = i
          · rw [e]; exact g
          · exact h2 j (by omega)
        · unfold upd
          by_cases e : j = i
          · rw [if_pos e, if_pos (by omega), e]
          · rw [if_neg e, h3 j]
            by_cases e' : j < i
            · rw [if_pos e', if_pos (by omega)]
            · rw [if_neg e', if_neg (by omega)]
      · exact w7f g (no (hp i heat' (by omega) h1 h2 (.inr (.inr g)) h3))
    · exact p3_hasF (by omega) (fun ⟨j, hj, e⟩ => w (by rw [(nI_eq (a := i) (b := j) (by omega) (by omega)).mp e]; exact hj)) (no (hp i heat' (by omega) h1 h2 (.inr (.inl (by omega))) h3))
theorem s7_heatsLoop_1 {n : Nat} (hn : n ≤ 40) {nums heat : Nat → Int32} (errors : Nat → Int32) (post : _)
    (hp : ∀ (k : Nat) (heat' : Nat → Int32), k ≤ 16 → k ≤ n → (∀ j, j < k → hOk (nums j)) → (k = 16 ∨ k = n ∨ ¬ hOk (nums k)) → (∀ j, heat' j = if j < k then nums j else heat j) → post (nI k) errors heat') :
    ∀ r i, i + r = 16 → i ≤ n → (∀ j, j < i → hOk (nums j)) → ∀ heat' : Nat → Int32, (∀ j, heat' j = if j < i then nums j else heat j) → wp_X7_heats_b38_1 (nI n) nums post (r + 1) (nI i) (nI i) errors heat' := by
  intro r
  induction r with
  | zero =>
    intro i hi h1 h2 heat' h3
    have e : i = 16 := by omega
    subst e
    exact br_t (by decide) (hp 16 heat' (by omega) h1 h2 (.inl rfl) h3)
  | succ r ih =>
    intro i hi h1 h2 heat' h3
    refine br_f (nI_ge (b := 16) (by omega) (by omega)) ?_
    by_cases w : i < n
    · refine p3_has (by omega) w hn (yes (p3_at (by omega) w hn ?_))
      by_cases g : hOk (nums i)
      · refine w7t g (yes ⟨ix (by omega) (by omega), ?_⟩)
        rw [nI_clamp (n := i) (by omega), nI_1]
        refine ih (i + 1) (by omega) w (fun j hj => ?_) _ (fun j => ?_)
        · by_cases e : j = i
          · rw [e]; exact g
          · exact h2 j (by omega)
        · unfold upd
          by_cases e : j = i
          · rw [if_pos e, if_pos (by omega), e]
          · rw [if_neg e, h3 j]
            by_cases e' : j < i
            · rw [if_pos e', if_pos (by omega)]
            · rw [if_neg e', if_neg (by omega)]
      · exact w7f g (no (hp i heat' (by omega) h1 h2 (.inr (.inr g)) h3))
    · exact p3_hasF (by omega) (fun ⟨j, hj, e⟩ => w (by rw [(nI_eq (a := i) (b := j) (by omega) (by omega)).mp e]; exact hj)) (no (hp i heat' (by omega) h1 h2 (.inr (.inl (by omega))) h3))
theorem s7_heatsLoop_2 {n : Nat} (hn : n ≤ 40) {nums heat : Nat → Int32} (errors : Nat → Int32) (post : _)
    (hp : ∀ (k : Nat) (heat' : Nat → Int32), k ≤ 16 → k ≤ n → (∀ j, j < k → hOk (nums j)) → (k = 16 ∨ k = n ∨ ¬ hOk (nums k)) → (∀ j, heat' j = if j < k then nums j else heat j) → post (nI k) errors heat') :
    ∀ r i, i + r = 16 → i ≤ n → (∀ j, j < i → hOk (nums j)) → ∀ heat' : Nat → Int32, (∀ j, heat' j = if j < i then nums j else heat j) → wp_X7_heats_b38_2 (nI n) nums post (r + 1) (nI i) (nI i) errors heat' := by
  intro r
  induction r with
  | zero =>
    intro i hi h1 h2 heat' h3
    have e : i = 16 := by omega
    subst e
    exact br_t (by decide) (hp 16 heat' (by omega) h1 h2 (.inl rfl) h3)
  | succ r ih =>
    intro i hi h1 h2 heat' h3
    refine br_f (nI_ge (b := 16) (by omega) (by omega)) ?_
    by_cases w : i < n
    · refine p3_has (by omega) w hn (yes (p3_at (by omega) w hn ?_))
      by_cases g : hOk (nums i)
      · refine w7t g (yes ⟨ix (by omega) (by omega), ?_⟩)
        rw [nI_clamp (n := i) (by omega), nI_1]
        refine ih (i + 1) (by omega) w (fun j hj => ?_) _ (fun j => ?_)
        · by_cases e : j = i
          · rw [e]; exact g
          · exact h2 j (by omega)
        · unfold upd
          by_cases e : j = i
          · rw [if_pos e, if_pos (by omega), e]
          · rw [if_neg e, h3 j]
            by_cases e' : j < i
            · rw [if_pos e', if_pos (by omega)]
            · rw [if_neg e', if_neg (by omega)]
      · exact w7f g (no (hp i heat' (by omega) h1 h2 (.inr (.inr g)) h3))
    · exact p3_hasF (by omega) (fun ⟨j, hj, e⟩ => w (by rw [(nI_eq (a := i) (b := j) (by omega) (by omega)).mp e]; exact hj)) (no (hp i heat' (by omega) h1 h2 (.inr (.inl (by omega))) h3))
theorem s7_heatsLoop_3 {n : Nat} (hn : n ≤ 40) {nums heat : Nat → Int32} (errors : Nat → Int32) (post : _)
    (hp : ∀ (k : Nat) (heat' : Nat → Int32), k ≤ 16 → k ≤ n → (∀ j, j < k → hOk (nums j)) → (k = 16 ∨ k = n ∨ ¬ hOk (nums k)) → (∀ j, heat' j = if j < k then nums j else heat j) → post (nI k) errors heat') :
    ∀ r i, i + r = 16 → i ≤ n → (∀ j, j < i → hOk (nums j)) → ∀ heat' : Nat → Int32, (∀ j, heat' j = if j < i then nums j else heat j) → wp_X7_heats_b38_3 (nI n) nums post (r + 1) (nI i) (nI i) errors heat' := by
  intro r
  induction r with
  | zero =>
    intro i hi h1 h2 heat' h3
    have e : i = 16 := by omega
    subst e
    exact br_t (by decide) (hp 16 heat' (by omega) h1 h2 (.inl rfl) h3)
  | succ r ih =>
    intro i hi h1 h2 heat' h3
    refine br_f (nI_ge (b := 16) (by omega) (by omega)) ?_
    by_cases w : i < n
    · refine p3_has (by omega) w hn (yes (p3_at (by omega) w hn ?_))
      by_cases g : hOk (nums i)
      · refine w7t g (yes ⟨ix (by omega) (by omega), ?_⟩)
        rw [nI_clamp (n := i) (by omega), nI_1]
        refine ih (i + 1) (by omega) w (fun j hj => ?_) _ (fun j => ?_)
        · by_cases e : j = i
          · rw [e]; exact g
          · exact h2 j (by omega)
        · unfold upd
          by_cases e : j = i
          · rw [if_pos e, if_pos (by omega), e]
          · rw [if_neg e, h3 j]
            by_cases e' : j < i
            · rw [if_pos e', if_pos (by omega)]
            · rw [if_neg e', if_neg (by omega)]
      · exact w7f g (no (hp i heat' (by omega) h1 h2 (.inr (.inr g)) h3))
    · exact p3_hasF (by omega) (fun ⟨j, hj, e⟩ => w (by rw [(nI_eq (a := i) (b := j) (by omega) (by omega)).mp e]; exact hj)) (no (hp i heat' (by omega) h1 h2 (.inr (.inl (by omega))) h3))
theorem s8_heatsLoop {q n k : Nat} (hq : q ≤ 3) (hn : n ≤ 40) {sizeOf number d0 found : Nat → Int32} (hs : sizeOf q = nI n) (post : _) (k1 : k ≤ 16) (k2 : k ≤ n) (k3 : ∀ j, j < k → hOk (number (40 * q + j))) (k4 : k = 16 ∨ k = n ∨ ¬ hOk (number (40 * q + k)))
    (hp : ∀ d : Nat → Int32, (∀ j, d j = if 9 ≤ j ∧ j < 9 + k then number (40 * q + (j - 9)) else d0 j) → post (nI k) d found) :
    ∀ r i, i + r = k → ∀ d : Nat → Int32, (∀ j, d j = if 9 ≤ j ∧ j < 9 + i then number (40 * q + (j - 9)) else d0 j) → wp_X8_heats_b30 (nI q) sizeOf number post (r + 1) (nI i) d found := by
  have v4 : vp_in (nI q) 4 := ix (by omega) (by omega)
  intro r
  induction r with
  | zero =>
    intro i hi d hd
    have e : i = k := by omega
    subst e
    refine ⟨v4, ?_⟩
    rw [nI_clamp (n := q) (by omega), hs]
    by_cases w : i < n
    · refine br_f (nI_ge w (by omega)) ?_
      by_cases w' : i < 16
      · refine br_f (nI_ge (b := 16) w' (by omega)) ⟨v160 hq (by omega), ?_⟩
        rw [c160 hq (by omega)]
        have g : ¬ hOk (number (40 * q + i)) := by
          rcases k4 with z | z | z
          · omega
          · omega
          · exact z
        exact w8f 0 999 g (no (hp d hd))
      · exact br_t (nI_le (a := 16) (by omega) (by omega)) (hp d hd)
    · exact br_t (nI_le (by omega) (by omega)) (hp d hd)
  | succ r ih =>
    intro i hi d hd
    refine ⟨v4, ?_⟩
    rw [nI_clamp (n := q) (by omega), hs, c160 hq (show i < 40 by omega), i9 (show i < 1000 by omega), nI_1]
    refine br_f (nI_ge (by omega) (by omega)) (br_f (nI_ge (b := 16) (by omega) (by omega)) ⟨v160 hq (by omega), w8t 0 999 (k3 i (by omega)) (yes ⟨v160 hq (by omega), v9 (by omega), ih (i + 1) (by omega) _ (fun j => ?_)⟩)⟩)
    unfold upd
    by_cases e : j = 9 + i
    · rw [if_pos e, if_pos (by omega), e]
      congr 1; omega
    · rw [if_neg e, hd j]
      by_cases e' : 9 ≤ j ∧ j < 9 + i
      · rw [if_pos e', if_pos (by omega)]
      · rw [if_neg e', if_neg (by omega)]
theorem st_heats : ST_heats Rel := by
  intro cs ms h a1
  obtain ⟨hT, hK, hC, hE, hV, s0, s1, s2, s3⟩ := id h
  have er := er_up hE (k := 1) (by omega)
  have er2 := er_up hE (k := 2) (by omega)
  by_cases g1 : 0 ≤ a1 ∧ a1 ≤ 3
  · obtain ⟨q, hq, rfl⟩ := rg (m := 3) (by omega) g1
    obtain ⟨t, a, b, i1, i2, i3, i4, i5, i6, i7⟩ := id hT
    obtain ⟨e1, e2, e3, e4, e5, e6, e7', e8', e9⟩ := id i3
    obtain ⟨⟨m1, m2, m3, m4, m5, m6, m7, m8⟩, m9⟩ := id i4
    have fin : ∀ (n : Nat) (nums : Nat → Int32), n ≤ 40 → (∀ j, j < n → nums j = (ms.2.1 12) (40 * q + j)) → (ms.2.1 11) q = nI n → ¬ (ms.2.1 10) q = 0 → ∀ (k : Nat) (heat' : Nat → Int32), k ≤ 16 → k ≤ n → (∀ j, j < k → hOk (nums j)) → (k = 16 ∨ k = n ∨ ¬ hOk (nums k)) → (∀ j, heat' j = if j < k then nums j else (cs.2.1 0) j) → ∀ {P : _}, (∀ d' : Nat → Int32, TR (cs.1 1) (cs.1 2) (cs.1 3) (cs.1 4) (cs.1 5) (cs.1 6) (cs.1 7) (cs.1 8) (cs.1 9) (cs.1 10) (cs.1 11) (cs.1 12) (cs.1 13) (cs.1 14) heat' (cs.2.1 1) (cs.2.1 2) (cs.2.1 3) (cs.2.1 5) (cs.2.1 7) (cs.2.1 9) (cs.2.1 10) d' → P (nI k) d' (ms.2.1 3)) → wp_X8_heats (nI q) (ms.2.1 0) (ms.2.1 3) (ms.2.1 10) (ms.2.1 11) (ms.2.1 12) P := fun n nums hn en es eb k heat' k1 k2 k3 k4 hh P p => by
      unfold wp_X8_heats
      rw [nI_clamp (n := q) (by omega)]
      refine s8t (q3 hq) (yes ⟨ix (by omega) (by omega), br_f eb ⟨k + 1, ?_⟩⟩)
      refine s8_heatsLoop hq hn es _ k1 k2 (fun j hj => by rw [← en j (by omega)]; exact k3 j hj) ?_ (fun d' hd' => p d' ?_) k 0 (by omega) _ (fun j => by rw [if_neg (by omega)])
      · rcases k4 with z | z | z
        · exact .inl z
        · exact .inr (.inl z)
        · by_cases w : k = n
          · exact .inr (.inl w)
          · exact .inr (.inr (by rw [← en k (by omega)]; exact z))
      · have ud : ∀ j, ¬ (9 ≤ j ∧ j < 25) → d' j = (ms.2.1 0) j := fun j hj => by rw [hd' j, if_neg (by omega)]
        refine ⟨(t.1, ((fun c => if c < k then (nums c).toNatClampNeg else t.2.1.1 c), t.2.1.2), t.2.2), a, b, ⟨i1.1, ⟨fun j hj => ?_, i1.2.1.2⟩, i1.2.2⟩, i2, ⟨e1, e2, e3, e4, e5, e6, e7', fun j hj => ?_, e9⟩, ⟨⟨?_, ?_, ?_, ?_, ?_, ?_, fun j hj => ?_, fun j hj => ⟨?_, ?_, ?_, ?_⟩⟩, ?_, ?_, fun j hj => ?_, fun j hj => ?_⟩, ⟨i5.1, i5.2.1, ?_⟩, ⟨i6.1, i6.2.1, ?_, fun j hj => ?_⟩, ⟨i7.1, i7.2.1, ?_, fun j hj => ?_⟩⟩
        · show (if j < k then (nums j).toNatClampNeg else t.2.1.1 j) ≤ 999
          by_cases w : j < k
          · rw [if_pos w]; exact (hOk_n (k3 j w)).2
          · rw [if_neg w]; exact i1.2.1.1 j hj
        · show heat' j = nI (if j < k then (nums j).toNatClampNeg else t.2.1.1 j)
          rw [hh j]
          by_cases w : j < k
          · rw [if_pos w, if_pos w]; exact (hOk_n (k3 j w)).1
          · rw [if_neg w, if_neg w]; exact e8' j hj
        · exact (ud 0 (by omega)).trans m1
        · exact (ud 1 (by omega)).trans m2
        · exact (ud 2 (by omega)).trans m3
        · exact (ud 3 (by omega)).trans m4
        · exact (ud 4 (by omega)).trans m5
        · exact (ud 8 (by omega)).trans m6
        · show d' (9 + j) = nI (if j < k then (nums j).toNatClampNeg else t.2.1.1 j)
          rw [hd' (9 + j)]
          by_cases w : j < k
          · rw [if_pos (by omega), if_pos w, ← (hOk_n (k3 j w)).1, en j (by omega), show 9 + j - 9 = j by omega]
          · rw [if_neg (by omega), if_neg w]; exact m7 j hj
        · exact (ud _ (by omega)).trans (m8 j hj).1
        · exact (ud _ (by omega)).trans (m8 j hj).2.1
        · exact (ud _ (by omega)).trans (m8 j hj).2.2.1
        · exact (ud _ (by omega)).trans (m8 j hj).2.2.2
        · exact (ud _ (by omega)).trans m9.1
        · exact (ud _ (by omega)).trans m9.2.1
        · exact (ud _ (by omega)).trans (m9.2.2.1 j hj)
        · exact (ud _ (by omega)).trans (m9.2.2.2 j hj)
        · exact i5.2.2.trans (ud 5 (by omega)).symm
        · exact (ud 6 (by omega)).trans i6.2.2.1
        · obtain ⟨w1, w2⟩ := i6.2.2.2 j hj
          exact ⟨w1.trans (ud _ (by omega)).symm, by obtain ⟨w, w3, w4⟩ := w2; exact ⟨w, w3, (ud _ (by omega)).trans w4⟩⟩
        · exact (ud 7 (by omega)).trans i7.2.2.1
        · exact (i7.2.2.2 j hj).trans (ud _ (by omega)).symm
    have miss : (ms.2.1 10) q = 0 → ∀ {P : _}, P ((-1000000000 : Int32) - nI 2) (ms.2.1 0) (upd (ms.2.1 3) 2 ((ms.2.1 3) 2 + 1)) → wp_X8_heats (nI q) (ms.2.1 0) (ms.2.1 3) (ms.2.1 10) (ms.2.1 11) (ms.2.1 12) P := fun z P p => by
      unfold wp_X8_heats
      rw [nI_clamp (n := q) (by omega)]
      exact s8t (q3 hq) (yes ⟨ix (by omega) (by omega), br_t z (e8 2 (by omega) p)⟩)
    refine s7t g1 (yes ?_)
    have hq' : q = 0 ∨ q = 1 ∨ q = 2 ∨ q = 3 := by omega
    rcases hq' with rfl | rfl | rfl | rfl
    · obtain ⟨q1, q2, q3', n, q4, q5, q6⟩ := id s0
      refine pick0 ?_
      by_cases gb : (cs.1 50) = 0
      · exact br_t gb (yes (e7 2 (by omega) (miss (q1.symm.trans gb) ⟨rfl, hT, hK, hC, er2, hV, s0, s1, s2, s3⟩)))
      · refine br_f gb (no ⟨17, ?_⟩)
        rw [q5]
        refine s7_heatsLoop q4 _ _ (fun k heat' k1 k2 k3 k4 hh => ?_) 16 0 rfl (by omega) (fun j hj => absurd hj (Nat.not_lt_zero _)) _ (fun j => by rw [if_neg (by omega)])
        exact fin n _ q4 q6 (q2.symm.trans q5) (fun z => gb (q1.trans z)) k heat' k1 k2 k3 k4 hh (fun d' w3 => ⟨rfl, w3, hK, hC, hE, hV, s0, s1, s2, s3⟩)
    · obtain ⟨q1, q2, q3', n, q4, q5, q6⟩ := id s1
      refine pick1 ?_
      by_cases gb : (cs.1 52) = 0
      · exact br_t gb (yes (e7 2 (by omega) (miss (q1.symm.trans gb) ⟨rfl, hT, hK, hC, er2, hV, s0, s1, s2, s3⟩)))
      · refine br_f gb (no ⟨17, ?_⟩)
        rw [q5]
        refine s7_heatsLoop_1 q4 _ _ (fun k heat' k1 k2 k3 k4 hh => ?_) 16 0 rfl (by omega) (fun j hj => absurd hj (Nat.not_lt_zero _)) _ (fun j => by rw [if_neg (by omega)])
        exact fin n _ q4 q6 (q2.symm.trans q5) (fun z => gb (q1.trans z)) k heat' k1 k2 k3 k4 hh (fun d' w3 => ⟨rfl, w3, hK, hC, hE, hV, s0, s1, s2, s3⟩)
    · obtain ⟨q1, q2, q3', n, q4, q5, q6⟩ := id s2
      refine pick2 ?_
      by_cases gb : (cs.1 54) = 0
      · exact br_t gb (yes (e7 2 (by omega) (miss (q1.symm.trans gb) ⟨rfl, hT, hK, hC, er2, hV, s0, s1, s2, s3⟩)))
      · refine br_f gb (no ⟨17, ?_⟩)
        rw [q5]
        refine s7_heatsLoop_2 q4 _ _ (fun k heat' k1 k2 k3 k4 hh => ?_) 16 0 rfl (by omega) (fun j hj => absurd hj (Nat.not_lt_zero _)) _ (fun j => by rw [if_neg (by omega)])
        exact fin n _ q4 q6 (q2.symm.trans q5) (fun z => gb (q1.trans z)) k heat' k1 k2 k3 k4 hh (fun d' w3 => ⟨rfl, w3, hK, hC, hE, hV, s0, s1, s2, s3⟩)
    · obtain ⟨q1, q2, q3', n, q4, q5, q6⟩ := id s3
      refine pick3 ?_
      by_cases gb : (cs.1 56) = 0
      · exact br_t gb (yes (e7 2 (by omega) (miss (q1.symm.trans gb) ⟨rfl, hT, hK, hC, er2, hV, s0, s1, s2, s3⟩)))
      · refine br_f gb (no ⟨17, ?_⟩)
        rw [q5]
        refine s7_heatsLoop_3 q4 _ _ (fun k heat' k1 k2 k3 k4 hh => ?_) 16 0 rfl (by omega) (fun j hj => absurd hj (Nat.not_lt_zero _)) _ (fun j => by rw [if_neg (by omega)])
        exact fin n _ q4 q6 (q2.symm.trans q5) (fun z => gb (q1.trans z)) k heat' k1 k2 k3 k4 hh (fun d' w3 => ⟨rfl, w3, hK, hC, hE, hV, s0, s1, s2, s3⟩)
  · exact s7f g1 (no (e7 1 (by omega) (s8f g1 (no (e8 1 (by omega) ⟨rfl, hT, hK, hC, er, hV, s0, s1, s2, s3⟩)))))
theorem s7_judgeLoop {n N : Nat} (hn : n ≤ 40) (hN : N ≤ 8) {nums cell : Nat → Int32} {cl : Nat → Nat} (hc : ∀ i, i < 8 → cell i = nI (cl i)) (errors : Nat → Int32) (post : _)
    (h1 : ∀ i, i < min n N → (∀ j, j < i → nums j = nI (cl j)) → ¬ nums i = nI (cl i) → post (nI i) errors)
    (h2 : (∀ j, j < min n N → nums j = nI (cl j)) → n = N → post (-1 : Int32) errors)
    (h3 : (∀ j, j < min n N → nums j = nI (cl j)) → ¬ n = N → post (nI (min n N)) errors) :
    ∀ r i, i + r = min n N → (∀ j, j < i → nums j = nI (cl j)) → wp_X7_judge_b62 (nI N) cell (nI n) nums post (r + 1) (nI n) (nI (min n N)) (nI i) errors := by
  have bm : min n N ≤ n ∧ min n N ≤ N := ⟨Nat.min_le_left _ _, Nat.min_le_right _ _⟩
  generalize min n N = B at h1 h2 h3 bm ⊢
  intro r
  induction r with
  | zero =>
    intro i hi hz
    have e : i = B := by omega
    subst e
    refine br_t (nI_le (Nat.le_refl _) (by omega)) ⟨fun w => h2 hz ((nI_eq (by omega) (by omega)).mp w), fun w => h3 hz (fun e => w (by rw [e]))⟩
  | succ r ih =>
    intro i hi hz
    refine br_f (nI_ge (by omega) (by omega)) (p3_at (by omega) (by omega) hn ⟨ix (by omega) (by omega), ?_⟩)
    rw [nI_clamp (n := i) (by omega), hc i (by omega), nI_1]
    refine ⟨fun w => ih (i + 1) (by omega) (fun j hj => ?_), fun w => h1 i (by omega) hz w⟩
    by_cases e : j = i
    · rw [e]; exact w
    · exact hz j (by omega)
theorem s7_judgeLoop_1 {n N : Nat} (hn : n ≤ 40) (hN : N ≤ 8) {nums cell : Nat → Int32} {cl : Nat → Nat} (hc : ∀ i, i < 8 → cell i = nI (cl i)) (errors : Nat → Int32) (post : _)
    (h1 : ∀ i, i < min n N → (∀ j, j < i → nums j = nI (cl j)) → ¬ nums i = nI (cl i) → post (nI i) errors)
    (h2 : (∀ j, j < min n N → nums j = nI (cl j)) → n = N → post (-1 : Int32) errors)
    (h3 : (∀ j, j < min n N → nums j = nI (cl j)) → ¬ n = N → post (nI (min n N)) errors) :
    ∀ r i, i + r = min n N → (∀ j, j < i → nums j = nI (cl j)) → wp_X7_judge_b62_1 (nI N) cell (nI n) nums post (r + 1) (nI n) (nI (min n N)) (nI i) errors := by
  have bm : min n N ≤ n ∧ min n N ≤ N := ⟨Nat.min_le_left _ _, Nat.min_le_right _ _⟩
  generalize min n N = B at h1 h2 h3 bm ⊢
  intro r
  induction r with
  | zero =>
    intro i hi hz
    have e : i = B := by omega
    subst e
    refine br_t (nI_le (Nat.le_refl _) (by omega)) ⟨fun w => h2 hz ((nI_eq (by omega) (by omega)).mp w), fun w => h3 hz (fun e => w (by rw [e]))⟩
  | succ r ih =>
    intro i hi hz
    refine br_f (nI_ge (by omega) (by omega)) (p3_at (by omega) (by omega) hn ⟨ix (by omega) (by omega), ?_⟩)
    rw [nI_clamp (n := i) (by omega), hc i (by omega), nI_1]
    refine ⟨fun w => ih (i + 1) (by omega) (fun j hj => ?_), fun w => h1 i (by omega) hz w⟩
    by_cases e : j = i
    · rw [e]; exact w
    · exact hz j (by omega)
theorem s7_judgeLoop_2 {n N : Nat} (hn : n ≤ 40) (hN : N ≤ 8) {nums cell : Nat → Int32} {cl : Nat → Nat} (hc : ∀ i, i < 8 → cell i = nI (cl i)) (errors : Nat → Int32) (post : _)
    (h1 : ∀ i, i < min n N → (∀ j, j < i → nums j = nI (cl j)) → ¬ nums i = nI (cl i) → post (nI i) errors)
    (h2 : (∀ j, j < min n N → nums j = nI (cl j)) → n = N → post (-1 : Int32) errors)
    (h3 : (∀ j, j < min n N → nums j = nI (cl j)) → ¬ n = N → post (nI (min n N)) errors) :
    ∀ r i, i + r = min n N → (∀ j, j < i → nums j = nI (cl j)) → wp_X7_judge_b62_2 (nI N) cell (nI n) nums post (r + 1) (nI n) (nI (min n N)) (nI i) errors := by
  have bm : min n N ≤ n ∧ min n N ≤ N := ⟨Nat.min_le_left _ _, Nat.min_le_right _ _⟩
  generalize min n N = B at h1 h2 h3 bm ⊢
  intro r
  induction r with
  | zero =>
    intro i hi hz
    have e : i = B := by omega
    subst e
    refine br_t (nI_le (Nat.le_refl _) (by omega)) ⟨fun w => h2 hz ((nI_eq (by omega) (by omega)).mp w), fun w => h3 hz (fun e => w (by rw [e]))⟩
  | succ r ih =>
    intro i hi hz
    refine br_f (nI_ge (by omega) (by omega)) (p3_at (by omega) (by omega) hn ⟨ix (by omega) (by omega), ?_⟩)
    rw [nI_clamp (n := i) (by omega), hc i (by omega), nI_1]
    refine ⟨fun w => ih (i + 1) (by omega) (fun j hj => ?_), fun w => h1 i (by omega) hz w⟩
    by_cases e : j = i
    · rw [e]; exact w
    · exact hz j (by omega)
theorem s7_judgeLoop_3 {n N : Nat} (hn : n ≤ 40) (hN : N ≤ 8) {nums cell : Nat → Int32} {cl : Nat → Nat} (hc : ∀ i, i < 8 → cell i = nI (cl i)) (errors : Nat → Int32) (post : _)
    (h1 : ∀ i, i < min n N → (∀ j, j < i → nums j = nI (cl j)) → ¬ nums i = nI (cl i) → post (nI i) errors)
    (h2 : (∀ j, j < min n N → nums j = nI (cl j)) → n = N → post (-1 : Int32) errors)
    (h3 : (∀ j, j < min n N → nums j = nI (cl j)) → ¬ n = N → post (nI (min n N)) errors) :
    ∀ r i, i + r = min n N → (∀ j, j < i → nums j = nI (cl j)) → wp_X7_judge_b62_3 (nI N) cell (nI n) nums post (r + 1) (nI n) (nI (min n N)) (nI i) errors := by
  have bm : min n N ≤ n ∧ min n N ≤ N := ⟨Nat.min_le_left _ _, Nat.min_le_right _ _⟩
  generalize min n N = B at h1 h2 h3 bm ⊢
  intro r
  induction r with
  | zero =>
    intro i hi hz
    have e : i = B := by omega
    subst e
    refine br_t (nI_le (Nat.le_refl _) (by omega)) ⟨fun w => h2 hz ((nI_eq (by omega) (by omega)).mp w), fun w => h3 hz (fun e => w (by rw [e]))⟩
  | succ r ih =>
    intro i hi hz
    refine br_f (nI_ge (by omega) (by omega)) (p3_at (by omega) (by omega) hn ⟨ix (by omega) (by omega), ?_⟩)
    rw [nI_clamp (n := i) (by omega), hc i (by omega), nI_1]
    refine ⟨fun w => ih (i + 1) (by omega) (fun j hj => ?_), fun w => h1 i (by omega) hz w⟩
    by_cases e : j = i
    · rw [e]; exact w
    · exact hz j (by omega)
theorem s8_judgeLoop {q n N i : Nat} (hq : q ≤ 3) (hn : n ≤ 40) (hN : N ≤ 8) {sizeOf number d found : Nat → Int32} {cl : Nat → Nat} (hs : sizeOf q = nI n) (h0 : d 0 = nI N) (hd : ∀ i, i < 8 → d (25 + 4 * i + 2) = nI (cl i)) (post : _) (i1 : i ≤ n) (i2 : i ≤ N) (hz : ∀ j, j < i → number (40 * q + j) = nI (cl j)) (hst : i = n ∨ i = N ∨ ¬ number (40 * q + i) = nI (cl i))
    (hp : (i = n → i = N → post (-1 : Int32) found) ∧ (¬ (i = n ∧ i = N) → post (nI i) found)) :
    ∀ r j, j + r = i → wp_X8_judge_b30 (nI q) d sizeOf number post (r + 1) (nI j) found := by
  have v4 : vp_in (nI q) 4 := ix (by omega) (by omega)
  have fin : wp_X8_judge_b76 (nI q) d sizeOf post (nI i) found := by
    unfold wp_X8_judge_b76
    rw [nI_clamp (n := q) (by omega), hs, kc0, h0]
    refine ⟨v4, fun w => ?_, fun w => hp.2 (fun z => w (by rw [z.1]))⟩
    have e1 := (nI_eq (a := i) (b := n) (by omega) (by omega)).mp w
    exact ⟨fun w' => hp.1 e1 ((nI_eq (by omega) (by omega)).mp w'), fun w' => hp.2 (fun z => w' (by rw [z.2]))⟩
  intro r
  induction r with
  | zero =>
    intro j hj
    have e : j = i := by omega
    subst e
    refine ⟨v4, ?_⟩
    rw [nI_clamp (n := q) (by omega), hs, kc0, h0]
    by_cases w : j = n
    · exact br_t (nI_le (by omega) (by omega)) fin
    · refine br_f (nI_ge (by omega) (by omega)) ?_
      by_cases w' : j = N
      · exact br_t (nI_le (by omega) (by omega)) fin
      · refine br_f (nI_ge (by omega) (by omega)) ⟨v160 hq (by omega), p8_of (w := 2) (by omega) (by omega) ?_⟩
        rw [c160 hq (by omega), hd j (by omega)]
        refine br_f ?_ fin
        rcases hst with z | z | z
        · exact absurd z w
        · exact absurd z w'
        · exact z
  | succ r ih =>
    intro j hj
    refine ⟨v4, ?_⟩
    rw [nI_clamp (n := q) (by omega), hs, kc0, h0]
    refine br_f (nI_ge (by omega) (by omega)) (br_f (nI_ge (by omega) (by omega)) ⟨v160 hq (by omega), p8_of (w := 2) (by omega) (by omega) ?_⟩)
    rw [c160 hq (by omega), hd j (by omega), nI_1]
    exact br_t (hz j (by omega)) (ih (j + 1) (by omega))
theorem st_judge : ST_judge Rel := by
  intro cs ms h a1
  obtain ⟨hT, hK, hC, hE, hV, s0, s1, s2, s3⟩ := id h
  have er := er_up hE (k := 1) (by omega)
  have er2 := er_up hE (k := 2) (by omega)
  by_cases g1 : 0 ≤ a1 ∧ a1 ≤ 3
  · obtain ⟨q, hq, rfl⟩ := rg (m := 3) (by omega) g1
    obtain ⟨t, a, b, i1, i2, i3, i4, i5, i6, i7⟩ := id hT
    have f6 := i3.2.2.2.2.2.1
    have f10 := i3.2.2.2.2.2.2.2.2.2.1
    have hN := i1.1.2.2.1
    have miss : (ms.2.1 10) q = 0 → ∀ {P : _}, P ((-1000000000 : Int32) - nI 2) (upd (ms.2.1 3) 2 ((ms.2.1 3) 2 + 1)) → wp_X8_judge (nI q) (ms.2.1 0) (ms.2.1 3) (ms.2.1 10) (ms.2.1 11) (ms.2.1 12) P := fun z P p => by
      unfold wp_X8_judge
      rw [nI_clamp (n := q) (by omega)]
      exact s8t (q3 hq) (yes ⟨ix (by omega) (by omega), br_t z (e8 2 (by omega) p)⟩)
    have fin : ∀ (n : Nat), n ≤ 40 → (ms.2.1 11) q = nI n → ¬ (ms.2.1 10) q = 0 → ∀ i, i ≤ n → i ≤ t.1.2.2.1 → (∀ j, j < i → (ms.2.1 12) (40 * q + j) = nI (t.1.2.2.2.2.2.1 j)) → (i = n ∨ i = t.1.2.2.1 ∨ ¬ (ms.2.1 12) (40 * q + i) = nI (t.1.2.2.2.2.2.1 i)) → ∀ {P : _}, ((i = n → i = t.1.2.2.1 → P (-1 : Int32) (ms.2.1 3)) ∧ (¬ (i = n ∧ i = t.1.2.2.1) → P (nI i) (ms.2.1 3))) → wp_X8_judge (nI q) (ms.2.1 0) (ms.2.1 3) (ms.2.1 10) (ms.2.1 11) (ms.2.1 12) P := fun n hn es eb i k1 k2 k3 k4 P p => by
      unfold wp_X8_judge
      rw [nI_clamp (n := q) (by omega)]
      refine s8t (q3 hq) (yes ⟨ix (by omega) (by omega), br_f eb ⟨i + 1, ?_⟩⟩)
      exact s8_judgeLoop hq hn hN es i4.1.1 (fun l hl => (i4.1.2.2.2.2.2.2.2 l hl).2.2.1) P k1 k2 k3 k4 p i 0 (by omega)
    refine s7t g1 (yes ?_)
    have hq' : q = 0 ∨ q = 1 ∨ q = 2 ∨ q = 3 := by omega
    rcases hq' with rfl | rfl | rfl | rfl
    · obtain ⟨q1, q2, q3', n, q4, q5, q6⟩ := id s0
      refine pick0 ?_
      by_cases gb : (cs.1 50) = 0
      · exact br_t gb (yes (e7 2 (by omega) (miss (q1.symm.trans gb) ⟨rfl, hT, hK, hC, er2, hV, s0, s1, s2, s3⟩)))
      · refine br_f gb (no ⟨min n t.1.2.2.1 + 1, ?_⟩)
        have bm : min n t.1.2.2.1 ≤ n ∧ min n t.1.2.2.1 ≤ t.1.2.2.1 := ⟨Nat.min_le_left _ _, Nat.min_le_right _ _⟩
        have be : min n t.1.2.2.1 = n ∨ min n t.1.2.2.1 = t.1.2.2.1 := by omega
        rw [q5, f6, show vmn (nI t.1.2.2.1) (8 : Int32) = nI t.1.2.2.1 from (vmn_nI (b := 8) (by omega) (by omega)).trans (by rw [Nat.min_eq_left hN]), vmn_nI (by omega) (by omega)]
        have fin' := fin n q4 (q2.symm.trans q5) (fun z => gb (q1.trans z))
        refine s7_judgeLoop (cl := t.1.2.2.2.2.2.1) q4 hN f10 _ _ (fun i hi k1 k2 => fin' i (by omega) (by omega) (fun j hj => (q6 j (by omega)).symm.trans (k1 j hj)) (.inr (.inr (fun z => k2 ((q6 i (by omega)).trans z)))) ⟨fun z1 z2 => absurd z1 (by omega), fun _ => ?_⟩) (fun k1 k2 => fin' n (Nat.le_refl _) (by omega) (fun j hj => (q6 j (by omega)).symm.trans (k1 j (by omega))) (.inl rfl) ⟨fun _ _ => ?_, fun z => absurd ⟨rfl, k2⟩ z⟩) (fun k1 k2 => fin' (min n t.1.2.2.1) bm.1 bm.2 (fun j hj => (q6 j (by omega)).symm.trans (k1 j hj)) (be.elim .inl (fun z => .inr (.inl z))) ⟨fun z1 z2 => absurd (z1.symm.trans z2) k2, fun _ => ?_⟩) (min n t.1.2.2.1) 0 (by omega) (fun j hj => absurd hj (Nat.not_lt_zero _))
        · exact ⟨rfl, hT, hK, hC, hE, hV, s0, s1, s2, s3⟩
        · exact ⟨rfl, hT, hK, hC, hE, hV, s0, s1, s2, s3⟩
        · exact ⟨rfl, hT, hK, hC, hE, hV, s0, s1, s2, s3⟩
    · obtain ⟨q1, q2, q3', n, q4, q5, q6⟩ := id s1
      refine pick1 ?_
      by_cases gb : (cs.1 52) = 0
      · exact br_t gb (yes (e7 2 (by omega) (miss (q1.symm.trans gb) ⟨rfl, hT, hK, hC, er2, hV, s0, s1, s2, s3⟩)))
      · refine br_f gb (no ⟨min n t.1.2.2.1 + 1, ?_⟩)
        have bm : min n t.1.2.2.1 ≤ n ∧ min n t.1.2.2.1 ≤ t.1.2.2.1 := ⟨Nat.min_le_left _ _, Nat.min_le_right _ _⟩
        have be : min n t.1.2.2.1 = n ∨ min n t.1.2.2.1 = t.1.2.2.1 := by omega
        rw [q5, f6, show vmn (nI t.1.2.2.1) (8 : Int32) = nI t.1.2.2.1 from (vmn_nI (b := 8) (by omega) (by omega)).trans (by rw [Nat.min_eq_left hN]), vmn_nI (by omega) (by omega)]
        have fin' := fin n q4 (q2.symm.trans q5) (fun z => gb (q1.trans z))
        refine s7_judgeLoop_1 (cl := t.1.2.2.2.2.2.1) q4 hN f10 _ _ (fun i hi k1 k2 => fin' i (by omega) (by omega) (fun j hj => (q6 j (by omega)).symm.trans (k1 j hj)) (.inr (.inr (fun z => k2 ((q6 i (by omega)).trans z)))) ⟨fun z1 z2 => absurd z1 (by omega), fun _ => ?_⟩) (fun k1 k2 => fin' n (Nat.le_refl _) (by omega) (fun j hj => (q6 j (by omega)).symm.trans (k1 j (by omega))) (.inl rfl) ⟨fun _ _ => ?_, fun z => absurd ⟨rfl, k2⟩ z⟩) (fun k1 k2 => fin' (min n t.1.2.2.1) bm.1 bm.2 (fun j hj => (q6 j (by omega)).symm.trans (k1 j hj)) (be.elim .inl (fun z => .inr (.inl z))) ⟨fun z1 z2 => absurd (z1.symm.trans z2) k2, fun _ => ?_⟩) (min n t.1.2.2.1) 0 (by omega) (fun j hj => absurd hj (Nat.not_lt_zero _))
        · exact ⟨rfl, hT, hK, hC, hE, hV, s0, s1, s2, s3⟩
        · exact ⟨rfl, hT, hK, hC, hE, hV, s0, s1, s2, s3⟩
        · exact ⟨rfl, hT, hK, hC, hE, hV, s0, s1, s2, s3⟩
    · obtain ⟨q1, q2, q3', n, q4, q5, q6⟩ := id s2
      refine pick2 ?_
      by_cases gb : (cs.1 54) = 0
      · exact br_t gb (yes (e7 2 (by omega) (miss (q1.symm.trans gb) ⟨rfl, hT, hK, hC, er2, hV, s0, s1, s2, s3⟩)))
      · refine br_f gb (no ⟨min n t.1.2.2.1 + 1, ?_⟩)
        have bm : min n t.1.2.2.1 ≤ n ∧ min n t.1.2.2.1 ≤ t.1.2.2.1 := ⟨Nat.min_le_left _ _, Nat.min_le_right _ _⟩
        have be : min n t.1.2.2.1 = n ∨ min n t.1.2.2.1 = t.1.2.2.1 := by omega
        rw [q5, f6, show vmn (nI t.1.2.2.1) (8 : Int32) = nI t.1.2.2.1 from (vmn_nI (b := 8) (by omega) (by omega)).trans (by rw [Nat.min_eq_left hN]), vmn_nI (by omega) (by omega)]
        have fin' := fin n q4 (q2.symm.trans q5) (fun z => gb (q1.trans z))
        refine s7_judgeLoop_2 (cl := t.1.2.2.2.2.2.1) q4 hN f10 _ _ (fun i hi k1 k2 => fin' i (by omega) (by omega) (fun j hj => (q6 j (by omega)).symm.trans (k1 j hj)) (.inr (.inr (fun z => k2 ((q6 i (by omega)).trans z)))) ⟨fun z1 z2 => absurd z1 (by omega), fun _ => ?_⟩) (fun k1 k2 => fin' n (Nat.le_refl _) (by omega) (fun j hj => (q6 j (by omega)).symm.trans (k1 j (by omega))) (.inl rfl) ⟨fun _ _ => ?_, fun z => absurd ⟨rfl, k2⟩ z⟩) (fun k1 k2 => fin' (min n t.1.2.2.1) bm.1 bm.2 (fun j hj => (q6 j (by omega)).symm.trans (k1 j hj)) (be.elim .inl (fun z => .inr (.inl z))) ⟨fun z1 z2 => absurd (z1.symm.trans z2) k2, fun _ => ?_⟩) (min n t.1.2.2.1) 0 (by omega) (fun j hj => absurd hj (Nat.not_lt_zero _))
        · exact ⟨rfl, hT, hK, hC, hE, hV, s0, s1, s2, s3⟩
        · exact ⟨rfl, hT, hK, hC, hE, hV, s0, s1, s2, s3⟩
        · exact ⟨rfl, hT, hK, hC, hE, hV, s0, s1, s2, s3⟩
    · obtain ⟨q1, q2, q3', n, q4, q5, q6⟩ := id s3
      refine pick3 ?_
      by_cases gb : (cs.1 56) = 0
      · exact br_t gb (yes (e7 2 (by omega) (miss (q1.symm.trans gb) ⟨rfl, hT, hK, hC, er2, hV, s0, s1, s2, s3⟩)))
      · refine br_f gb (no ⟨min n t.1.2.2.1 + 1, ?_⟩)
        have bm : min n t.1.2.2.1 ≤ n ∧ min n t.1.2.2.1 ≤ t.1.2.2.1 := ⟨Nat.min_le_left _ _, Nat.min_le_right _ _⟩
        have be : min n t.1.2.2.1 = n ∨ min n t.1.2.2.1 = t.1.2.2.1 := by omega
        rw [q5, f6, show vmn (nI t.1.2.2.1) (8 : Int32) = nI t.1.2.2.1 from (vmn_nI (b := 8) (by omega) (by omega)).trans (by rw [Nat.min_eq_left hN]), vmn_nI (by omega) (by omega)]
        have fin' := fin n q4 (q2.symm.trans q5) (fun z => gb (q1.trans z))
        refine s7_judgeLoop_3 (cl := t.1.2.2.2.2.2.1) q4 hN f10 _ _ (fun i hi k1 k2 => fin' i (by omega) (by omega) (fun j hj => (q6 j (by omega)).symm.trans (k1 j hj)) (.inr (.inr (fun z => k2 ((q6 i (by omega)).trans z)))) ⟨fun z1 z2 => absurd z1 (by omega), fun _ => ?_⟩) (fun k1 k2 => fin' n (Nat.le_refl _) (by omega) (fun j hj => (q6 j (by omega)).symm.trans (k1 j (by omega))) (.inl rfl) ⟨fun _ _ => ?_, fun z => absurd ⟨rfl, k2⟩ z⟩) (fun k1 k2 => fin' (min n t.1.2.2.1) bm.1 bm.2 (fun j hj => (q6 j (by omega)).symm.trans (k1 j hj)) (be.elim .inl (fun z => .inr (.inl z))) ⟨fun z1 z2 => absurd (z1.symm.trans z2) k2, fun _ => ?_⟩) (min n t.1.2.2.1) 0 (by omega) (fun j hj => absurd hj (Nat.not_lt_zero _))
        · exact ⟨rfl, hT, hK, hC, hE, hV, s0, s1, s2, s3⟩
        · exact ⟨rfl, hT, hK, hC, hE, hV, s0, s1, s2, s3⟩
        · exact ⟨rfl, hT, hK, hC, hE, hV, s0, s1, s2, s3⟩
  · exact s7f g1 (no (e7 1 (by omega) (s8f g1 (no (e8 1 (by omega) ⟨rfl, hT, hK, hC, er, hV, s0, s1, s2, s3⟩)))))
