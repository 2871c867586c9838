/-! PURE 9: what a text gives, the reference's -/
theorem p8_done {k : Nat} (hk : k < 30000) (x y : Int32) {P : Int32 → Prop} (h : P (opF k x y)) : wp_X8_done (nI k) x y P := p1_works hk x y h
theorem s8_worked {m base : Nat} {c : Nat → Nat} (hm : m ≤ 50) (h1 : 1 ≤ m) (hb : base + m ≤ 229) (hw : WFc c m) (a b e : Int32) {pile names d : Nat → Int32} (hn : ∀ i, i < m → d (base + i) = nI (c i)) (n0 : names 0 = a) (n1 : names 1 = b) (n2 : names 2 = e) {P : Int32 → (Nat → Int32) → Prop} (hp : ∀ pile' : Nat → Int32, P (pS c a b e m 0) pile') : wp_X8_worked (nI base) (nI m) d names pile P := by
  unfold wp_X8_worked
  refine lpU (σ := Int32 × (Nat → Int32)) (fun f x s => wp_X8_worked_b5 (nI base) (nI m) d names P f s.1 x s.2) (fun i s => ∃ k, i = base + k ∧ s.1 = nI (ht c k) ∧ ∀ j, j < ht c k → s.2 j = pS c a b e k j) (base + m) base (0, pile) (by omega) ⟨0, rfl, rfl, fun j hj => absurd hj (Nat.not_lt_zero _)⟩ (fun f s hI => ?_) (fun f x s hi hI ih => ?_)
  · obtain ⟨k, hk, e1, e2⟩ := hI
    have hk' : k = m := by omega
    subst hk'
    refine br_t (by rw [nI_add]; exact Int32.le_refl _) ?_
    rw [show (0 : Int32).toNatClampNeg = 0 from nI_clamp (n := 0) (by omega), e2 0 (ht_pos hw k h1 (Nat.le_refl k))]
    exact hp _
  · obtain ⟨i, hk, e1, e2⟩ := hI
    subst hk
    have hi' : i < m := by omega
    have hl := ht_le c i
    have w := hw i hi'
    refine br_f (by rw [nI_add]; exact nI_ge hi (by omega)) ⟨ix (by omega) (by omega), ?_⟩
    rw [nI_clamp (n := base + i) (by omega), hn i hi', e1]
    have hts : ht c (i + 1) = if c i < 20000 then ht c i + 1 else if c i = 20033 then ht c i else ht c i - 1 := rfl
    have pss : pS c a b e (i + 1) = if c i < 10000 then upd (pS c a b e i) (ht c i) (nI (c i)) else if c i < 20000 then upd (pS c a b e i) (ht c i) (if c i = 10000 then a else if c i = 10001 then b else e) else if c i = 20033 then upd (pS c a b e i) (ht c i - 1) (if pS c a b e i (ht c i - 1) = 0 then 1 else 0) else upd (pS c a b e i) (ht c i - 2) (opF (c i - 20000) (pS c a b e i (ht c i - 2)) (pS c a b e i (ht c i - 1))) := rfl
    have push : ∀ x : Int32, c i < 20000 → pS c a b e (i + 1) = upd (pS c a b e i) (ht c i) x → wp_X8_worked_b5 (nI base) (nI m) d names P f (nI (ht c i) + 1) (nI (base + i) + 1) (upd s.2 (ht c i) x) := fun x h2 hx => by
      rw [show nI (ht c i) + 1 = nI (ht c i + 1) from nI_1 _]
      refine ih (nI (ht c i + 1), upd s.2 (ht c i) x) ⟨i + 1, by omega, by rw [hts, if_pos h2], fun j hj => ?_⟩
      rw [hts, if_pos h2] at hj
      rw [hx]
      show upd _ _ _ j = _
      unfold upd
      by_cases q : j = ht c i
      · rw [if_pos q, if_pos q]
      · rw [if_neg q, if_neg q]; exact e2 j (by omega)
    rcases w with w | ⟨w, v⟩ | ⟨w, v, u, t⟩
    · refine br_f (nI_ge (a := c i) (b := 20000) (by omega) (by omega)) ?_
      rw [nI_clamp (n := ht c i) (by omega)]
      refine pk_le 10000 (c i) (fun h2 => ?_) (fun h2 => ?_) rfl rfl (by omega) (by omega)
      · have e3 : nI (c i) - (10000 : Int32) = nI (c i - 10000) := pk_sub (b := 10000) h2
        rw [e3, nI_clamp (n := c i - 10000) (by omega)]
        refine ⟨ix (by omega) (by omega), ix (by omega) (by omega), push _ (by omega) ?_⟩
        rw [pss, if_neg (by omega), if_pos (by omega)]
        by_cases q : c i = 10000
        · rw [if_pos q, q]; rw [show 10000 - 10000 = 0 from rfl, n0]
        · rw [if_neg q]
          by_cases q2 : c i = 10001
          · rw [if_pos q2, q2, show 10001 - 10000 = 1 from rfl, n1]
          · rw [if_neg q2, show c i - 10000 = 2 by omega, n2]
      · refine ⟨ix (by omega) (by omega), push _ (by omega) ?_⟩
        rw [pss, if_pos h2]
    · have hx : pS c a b e (i + 1) = upd (pS c a b e i) (ht c i - 1) (if pS c a b e i (ht c i - 1) = 0 then 1 else 0) := by rw [pss, if_neg (by omega), if_neg (by omega), if_pos w]
      have hh : ht c (i + 1) = ht c i := by rw [hts, if_neg (by omega), if_pos w]
      refine br_t (nI_le (a := 20000) (b := c i) (by omega) (by omega)) (br_t (by rw [w]; rfl) ?_)
      have e' : nI (ht c i) - (1 : Int32) = nI (ht c i - 1) := pk_sub (b := 1) v
      rw [e', nI_clamp (n := ht c i - 1) (by omega), e2 _ (by omega)]
      have fin : ∀ x : Int32, x = (if pS c a b e i (ht c i - 1) = 0 then 1 else 0) → wp_X8_worked_b5 (nI base) (nI m) d names P f (nI (ht c i)) (nI (base + i) + 1) (upd s.2 (ht c i - 1) x) := fun x ex => by
        refine ih (nI (ht c i), upd s.2 (ht c i - 1) x) ⟨i + 1, by omega, by rw [hh], fun j hj => ?_⟩
        rw [hh] at hj
        rw [hx, ex]
        show upd _ _ _ j = _
        unfold upd
        by_cases q : j = ht c i - 1
        · rw [if_pos q, if_pos q]
        · rw [if_neg q, if_neg q]; exact e2 j hj
      exact ⟨ix (by omega) (by omega), fun z => ⟨ix (by omega) (by omega), fin _ (by rw [if_pos z])⟩, fun z => ⟨ix (by omega) (by omega), fin _ (by rw [if_neg z])⟩⟩
    · have hx : pS c a b e (i + 1) = upd (pS c a b e i) (ht c i - 2) (opF (c i - 20000) (pS c a b e i (ht c i - 2)) (pS c a b e i (ht c i - 1))) := by rw [pss, if_neg (by omega), if_neg (by omega), if_neg v]
      have hh : ht c (i + 1) = ht c i - 1 := by rw [hts, if_neg (by omega), if_neg v]
      refine br_t (nI_le (a := 20000) (b := c i) (by omega) (by omega)) (br_f (fun z => v ((nI_eq (by omega) (by omega)).mp z)) ?_)
      have e4 : nI (ht c i) + (-1 : Int32) = nI (ht c i - 1) := sb_m1 (by omega)
      have e5 : nI (ht c i - 1) - (1 : Int32) = nI (ht c i - 2) := by rw [show nI (ht c i - 1) - (1 : Int32) = nI (ht c i - 1 - 1) from pk_sub (b := 1) (by omega)]; rfl
      have e3 : nI (c i) - (20000 : Int32) = nI (c i - 20000) := pk_sub (b := 20000) w
      rw [e4, e5, e3, nI_clamp (n := ht c i - 2) (by omega), nI_clamp (n := ht c i - 1) (by omega), e2 _ (by omega), e2 _ (by omega)]
      refine ⟨ix (by omega) (by omega), ix (by omega) (by omega), p8_done (by omega) _ _ ⟨ix (by omega) (by omega), ?_⟩⟩
      refine ih (nI (ht c i - 1), upd s.2 (ht c i - 2) _) ⟨i + 1, by omega, by rw [hh], fun j hj => ?_⟩
      rw [hh] at hj
      rw [hx]
      show upd _ _ _ j = _
      unfold upd
      by_cases q : j = ht c i - 2
      · rw [if_pos q, if_pos q]
      · rw [if_neg q, if_neg q]; exact e2 j (by omega)
theorem s8_textGives {u m : Nat} {c : Nat → Nat} (hu : u ≤ 1) (hm : m ≤ 50) (hw : WFc c m) (a b e : Int32) {pile names d : Nat → Int32} (hd : d (57 + u) = nI m) (hn : ∀ i, i < m → d (79 + 50 * u + i) = nI (c i)) {P : Int32 → (Nat → Int32) → (Nat → Int32) → Prop} (hp : ∀ names' pile' : Nat → Int32, P (nI (gN u m c a b e)) names' pile') : wp_X8_textGives (nI u) a b e d names pile P := by
  have fin : ∀ (v : Int32) (names' pile' : Nat → Int32), v = (if m = 0 then (if u = 0 then 20 else a / 3) else pS c a b e m 0) → (nI u = 0 → wp_X8_held v (0 : Int32) (99 : Int32) (fun r => P r names' pile')) ∧ (¬ nI u = 0 → wp_X8_held v (0 : Int32) (999 : Int32) (fun r => P r names' pile')) := fun v names' pile' ev => by
    have hp' := hp names' pile'
    refine ⟨fun z => p8_heldV (k := 99) (by omega) ?_, fun z => p8_heldV (k := 999) (by omega) ?_⟩
    · have u0 : u = 0 := (nI_eq (a := u) (b := 0) (by omega) (by omega)).mp z
      rw [ev]
      unfold gN gB at hp'
      simp only [if_pos u0] at hp' ⊢
      exact hp'
    · have u0 : ¬ u = 0 := fun q => z (by rw [q]; rfl)
      rw [ev]
      unfold gN gB at hp'
      simp only [if_neg u0] at hp' ⊢
      exact hp'
  have e1 : (57 : Int32) + nI u = nI (57 + u) := nI_add 57 u
  have e2 : (79 : Int32) + (50 : Int32) * nI u = nI (79 + 50 * u) := by rw [show (50 : Int32) * nI u = nI (50 * u) from pk_mul 50 u]; exact nI_add 79 _
  have mid : ∀ (s0 : Int32), s0 = (if u = 0 then 20 else a / 3) → wp_X8_textGives_b12 (nI u) a b e d P s0 names pile := fun s0 es => by
    unfold wp_X8_textGives_b12
    rw [e1, e2, nI_clamp (n := 57 + u) (by omega), hd]
    refine ⟨ix (by omega) (by omega), fun z => ?_, fun z => ⟨ix (by omega) (by omega), ?_⟩⟩
    · have m0 : m = 0 := by have := (nI_leI (a := m) (b := 0) (by omega) (by omega)).mp z; omega
      exact fin s0 names pile (by rw [if_pos m0]; exact es)
    · have m0 : ¬ m = 0 := fun q => z (by rw [q]; exact Int32.le_refl _)
      have k0 : (0 : Int32).toNatClampNeg = 0 := nI_clamp (n := 0) (by omega)
      have k2 : (2 : Int32).toNatClampNeg = 2 := nI_clamp (n := 2) (by omega)
      rw [k0, k1c, k2]
      exact s8_worked hm (by omega) (by omega) hw a b e hn (by simp [upd]) (by simp [upd]) (by simp [upd]) (fun pile' => fin _ _ pile' (by rw [if_neg m0]))
  unfold wp_X8_textGives
  refine ⟨fun z => mid _ ?_, fun z => mid _ ?_⟩
  · rw [if_pos ((nI_eq (a := u) (b := 0) (by omega) (by omega)).mp z)]
  · rw [if_neg (fun q => z (by rw [q]; rfl))]
/-- the laws as the hours use them -/
def gF (u m : Nat) (c : Nat → Nat) : Nat → Nat → Nat → Nat := fun a b d => gN u m c (nI a) (nI b) (nI d)
theorem gs7 {u m : Nat} {c : Nat → Nat} (hu : u ≤ 1) (hm : m ≤ 50) (hw : WFc c m) {nums : Nat → Int32} (hn : ∀ i, i < m → nums i = nI (c i)) : GS7 (nI u) (nI m) nums (gF u m c) := fun a b d _ _ _ pile P h => s7_gives hu hm hw _ _ _ hn h
theorem gs8 {u m : Nat} {c : Nat → Nat} (hu : u ≤ 1) (hm : m ≤ 50) (hw : WFc c m) {d : Nat → Int32} (hd : d (57 + u) = nI m) (hn : ∀ i, i < m → d (79 + 50 * u + i) = nI (c i)) : GS8 d u (gF u m c) := fun d' hd' a b e _ _ _ names pile P h => s8_textGives hu hm hw _ _ _ (by rw [hd' _ (by omega)]; exact hd) (fun i hi => by rw [hd' _ (by omega)]; exact hn i hi) h
