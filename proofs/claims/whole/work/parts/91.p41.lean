/-! PURE 41: reading: bytes, signs, names, numbers -/
def BY (b : Nat → Nat) (m : Nat) (bn dd : Nat → Int32) : Prop := m ≤ 50 ∧ (∀ i, i < m → b i < 256) ∧ (∀ i, i < m → bn i = nI (b i)) ∧ ∀ i, i < m → dd (179 + i) = nI (b i)
def ch (b : Nat → Nat) (m i : Nat) : Int32 := if i < m then nI (b i) else -1
theorem ch_t {b : Nat → Nat} {m i : Nat} (h : i < m) : ch b m i = nI (b i) := by unfold ch; rw [if_pos h]
theorem ch_f {b : Nat → Nat} {m i : Nat} (h : ¬ i < m) : ch b m i = -1 := by unfold ch; rw [if_neg h]
theorem n7 {b : Nat → Nat} {m at0 : Nat} {bn dd : Nat → Int32} (hB : BY b m bn dd) (ha : at0 ≤ m) {P : Int32 → Prop} (p : P (ch b m at0)) : wp_X2_next (nI at0) (nI m) bn P := by
  have hm := hB.1
  by_cases w : at0 < m
  · rw [ch_t w] at p
    refine p3_has (by omega) w hm (yes ⟨ix (by omega) (by omega), ?_⟩)
    rw [nI_clamp (n := at0) (by omega), hB.2.2.1 at0 w]
    exact p
  · rw [ch_f w] at p
    exact p3_hasF (by omega) (fun ⟨j, hj, e⟩ => w (by rw [(nI_eq (a := at0) (b := j) (by omega) (by omega)).mp e]; exact hj)) (no p)
theorem h8 {b : Nat → Nat} {m at0 : Nat} {bn dd : Nat → Int32} (hB : BY b m bn dd) (ha : at0 ≤ m) {P : Int32 → Prop} (p : P (ch b m at0)) : wp_X8_here (179 : Int32) (nI at0) (nI m) (-1) dd P := by
  have hm := hB.1
  by_cases w : at0 < m
  · rw [ch_t w] at p
    have e : (179 : Int32) + nI at0 = nI (179 + at0) := nI_add 179 at0
    refine br_f (nI_ge w (by omega)) (br_f (by decide) ?_)
    rw [e, nI_clamp (n := 179 + at0) (by omega), hB.2.2.2 at0 w]
    exact ⟨ix (by omega) (by omega), p⟩
  · rw [ch_f w] at p
    exact br_t (nI_le (by omega) (by omega)) p
theorem h8F {m : Int32} {at0 : Int32} {x : Nat} (hx : x < 2 ^ 31) {dd : Nat → Int32} {P : Int32 → Prop} (p : P (-1)) : wp_X8_here (179 : Int32) at0 m (nI x) dd P := ⟨fun _ => p, fun _ => br_t (nI_pos' hx) p⟩
def dig (r : Int32) : Prop := ¬ r < 48 ∧ ¬ (57 : Int32) < r
theorem dig_n {v : Nat} (h : v < 256) : dig (nI v) ↔ 48 ≤ v ∧ v ≤ 57 := by
  unfold dig
  have a : nI v < 48 ↔ v < 48 := nI_ltI (b := 48) (by omega) (by omega)
  have c : (57 : Int32) < nI v ↔ 57 < v := nI_ltI (a := 57) (by omega) (by omega)
  rw [a, c]
  omega
theorem dig_m : ¬ dig (-1) := fun h => h.1 (by decide)
theorem dig_at {b : Nat → Nat} {m i : Nat} (h : dig (ch b m i)) : i < m := Nat.not_le.mp (fun w => by
  rw [ch_f (by omega)] at h
  exact dig_m h)
def lvl (r : Int32) : Int32 := if r = 37 then 4 else if r = 38 then 1 else if r = 42 then 4 else if r = 43 then 3 else if r = 45 then 3 else if r = 47 then 4 else if r = 60 then 2 else if r = 61 then 2 else if r = 62 then 2 else if r = 124 then 0 else -1
theorem p2_levelOf {r : Int32} {P : Int32 → Prop} (p : P (lvl r)) : wp_X2_levelOf r P := by
  refine ⟨fun e => ?_, fun e => ?_, fun e => ?_, fun e => ?_, fun e => ?_, fun e => ?_, fun e => ?_, fun e => ?_, fun e => ?_, fun e => ?_, fun e1 e2 e3 e4 e5 e6 e7 e8 e9 e10 => ?_⟩
  · subst e; exact p
  · subst e; exact p
  · subst e; exact p
  · subst e; exact p
  · subst e; exact p
  · subst e; exact p
  · subst e; exact p
  · subst e; exact p
  · subst e; exact p
  · subst e; exact p
  · have q := p
    unfold lvl at q
    rw [if_neg e1, if_neg e2, if_neg e3, if_neg e4, if_neg e5, if_neg e6, if_neg e7, if_neg e8, if_neg e9, if_neg e10] at q
    exact q
/-- the level of a sign, the other way -/
theorem lvl_is {r : Int32} {l : Int32} (h : lvl r = l) (hl : ¬ l = -1) : (r = 37 ∧ l = 4) ∨ (r = 38 ∧ l = 1) ∨ (r = 42 ∧ l = 4) ∨ (r = 43 ∧ l = 3) ∨ (r = 45 ∧ l = 3) ∨ (r = 47 ∧ l = 4) ∨ (r = 60 ∧ l = 2) ∨ (r = 61 ∧ l = 2) ∨ (r = 62 ∧ l = 2) ∨ (r = 124 ∧ l = 0) := by
  unfold lvl at h
  by_cases e1 : r = 37
  · rw [if_pos e1] at h; exact .inl ⟨e1, h.symm⟩
  rw [if_neg e1] at h
  by_cases e2 : r = 38
  · rw [if_pos e2] at h; exact .inr (.inl ⟨e2, h.symm⟩)
  rw [if_neg e2] at h
  by_cases e3 : r = 42
  · rw [if_pos e3] at h; exact .inr (.inr (.inl ⟨e3, h.symm⟩))
  rw [if_neg e3] at h
  by_cases e4 : r = 43
  · rw [if_pos e4] at h; exact .inr (.inr (.inr (.inl ⟨e4, h.symm⟩)))
  rw [if_neg e4] at h
  by_cases e5 : r = 45
  · rw [if_pos e5] at h; exact .inr (.inr (.inr (.inr (.inl ⟨e5, h.symm⟩))))
  rw [if_neg e5] at h
  by_cases e6 : r = 47
  · rw [if_pos e6] at h; exact .inr (.inr (.inr (.inr (.inr (.inl ⟨e6, h.symm⟩)))))
  rw [if_neg e6] at h
  by_cases e7 : r = 60
  · rw [if_pos e7] at h; exact .inr (.inr (.inr (.inr (.inr (.inr (.inl ⟨e7, h.symm⟩))))))
  rw [if_neg e7] at h
  by_cases e8 : r = 61
  · rw [if_pos e8] at h; exact .inr (.inr (.inr (.inr (.inr (.inr (.inr (.inl ⟨e8, h.symm⟩)))))))
  rw [if_neg e8] at h
  by_cases e9 : r = 62
  · rw [if_pos e9] at h; exact .inr (.inr (.inr (.inr (.inr (.inr (.inr (.inr (.inl ⟨e9, h.symm⟩))))))))
  rw [if_neg e9] at h
  by_cases e10 : r = 124
  · rw [if_pos e10] at h; exact .inr (.inr (.inr (.inr (.inr (.inr (.inr (.inr (.inr ⟨e10, h.symm⟩))))))))
  rw [if_neg e10] at h
  exact absurd h.symm hl
theorem lvl_val {v : Nat} (hv : v < 256) {l : Int32} (h : lvl (nI v) = l) (hl : ¬ l = -1) : v = 37 ∨ v = 38 ∨ v = 42 ∨ v = 43 ∨ v = 45 ∨ v = 47 ∨ v = 60 ∨ v = 61 ∨ v = 62 ∨ v = 124 := by
  have q : ∀ c : Nat, c < 256 → nI v = nI c → v = c := fun c hc e => (nI_eq (by omega) (by omega)).mp e
  rcases lvl_is h hl with h | h | h | h | h | h | h | h | h | h
  · have := q 37 (by omega) h.1; omega
  · have := q 38 (by omega) h.1; omega
  · have := q 42 (by omega) h.1; omega
  · have := q 43 (by omega) h.1; omega
  · have := q 45 (by omega) h.1; omega
  · have := q 47 (by omega) h.1; omega
  · have := q 60 (by omega) h.1; omega
  · have := q 61 (by omega) h.1; omega
  · have := q 62 (by omega) h.1; omega
  · have := q 124 (by omega) h.1; omega
theorem lvl_m : lvl (-1) = -1 := by decide +kernel
theorem lvl_at {b : Nat → Nat} {m i : Nat} {l : Int32} (h : lvl (ch b m i) = l) (hl : ¬ l = -1) : i < m := Nat.not_le.mp (fun w => by
  rw [ch_f (by omega), lvl_m] at h
  exact hl h.symm)
/-- names -/
def nmc (g x : Nat) : Nat := if g = 1 then (if x = 0 then 102 else if x = 1 then 104 else 119) else (if x = 0 then 100 else if x = 1 then 114 else 104)
theorem nm7 {g x : Nat} (hg : g = 1 ∨ g = 2) (hx : x < 3) {P : Int32 → Prop} (p : P (nI (nmc g x))) : wp_J0_charAt_5068e g (nI x) P := by
  have hl : vLen.getD g 0 = 3 := by rcases hg with rfl | rfl <;> rfl
  refine br_f (by decide) (br_t rfl (yes ?_))
  unfold wp_J1_charAt_3b067 wp_J0_checkIndex_df160 wp_J3_checkIndex_8e157
  rw [hl, nI_clamp (n := x) (by omega)]
  refine br_f (nI_pos (by omega)) (br_t (nI_lt (b := 3) hx (by omega)) ⟨ix hx (by omega), ?_⟩)
  have e : ∀ g, g = 1 ∨ g = 2 → ∀ x, x < 3 → (((((vByt.getD g []).getD x 0) &&& (255 : Int32)).toUInt32 % 65536).toInt32) = nI (nmc g x) := by
    intro g hg
    rcases hg with rfl | rfl <;> decide +kernel
  have e' := e g hg x hx
  exact (congrArg P e').mpr p
theorem nmLen {g : Nat} (hg : g = 1 ∨ g = 2) {P : Int32 → Prop} (p : P (nI 3)) : wp_J0_length_8abf5 g P := by
  have hl : vLen.getD g 0 = 3 := by rcases hg with rfl | rfl <;> rfl
  refine br_f (by decide) ?_
  rw [hl]
  exact (congrArg P (by decide +kernel : (Int32.ofNat 3) >>> ((0 : Int32) &&& 31) = nI 3)).mpr p
def nmR (g : Nat) (r : Int32) (x : Nat) : Prop := x < 3 ∧ nI (nmc g x) = r ∧ ∀ y, y < x → ¬ nI (nmc g y) = r
theorem nm7_t {g x : Nat} (hg : g = 1 ∨ g = 2) {r : Int32} (h : nmR g r x) {at0 many : Int32} {nums : Nat → Int32} {P : Int32 → Int32 → Int32 → (Nat → Int32) → Prop} (p : wp_X3_add 50 (nI (10000 + x)) many nums (fun _ many' nums' => P 1 (at0 + 1) many' nums')) : wp_X2_readsName r g at0 many nums P := by
  have g3 : g < 3 := by omega
  have go : ∀ k i, i + k = x → wp_X2_readsName_b2 r g P (k + 1) (nI i) at0 many nums := by
    intro k
    induction k with
    | zero =>
      intro i hi
      have e : i = x := by omega
      subst e
      refine ⟨g3, nmLen hg (br_f (nI_ge h.1 (by omega)) ⟨g3, nm7 hg h.1 (br_t h.2.1 ?_)⟩)⟩
      rw [show (10000 : Int32) + nI i = nI (10000 + i) from nI_add 10000 i]
      exact p
    | succ k ih =>
      intro i hi
      have hx := h.1
      refine ⟨g3, nmLen hg (br_f (nI_ge (b := 3) (by omega) (by omega)) ⟨g3, nm7 hg (by omega) (br_f (h.2.2 i (by omega)) ?_)⟩)⟩
      rw [nI_1]
      exact ih (i + 1) (by omega)
  exact ⟨x + 1, go x 0 (by omega)⟩
theorem nm7_f {g : Nat} (hg : g = 1 ∨ g = 2) {r : Int32} (h : ∀ y, y < 3 → ¬ nI (nmc g y) = r) {at0 many : Int32} {nums : Nat → Int32} {P : Int32 → Int32 → Int32 → (Nat → Int32) → Prop} (p : P 0 at0 many nums) : wp_X2_readsName r g at0 many nums P := by
  have g3 : g < 3 := by omega
  have go : ∀ k i, i + k = 3 → wp_X2_readsName_b2 r g P (k + 1) (nI i) at0 many nums := by
    intro k
    induction k with
    | zero =>
      intro i hi
      have e : i = 3 := by omega
      subst e
      exact ⟨g3, nmLen hg (br_t (nI_le (Nat.le_refl _) (by omega)) p)⟩
    | succ k ih =>
      intro i hi
      refine ⟨g3, nmLen hg (br_f (nI_ge (b := 3) (by omega) (by omega)) ⟨g3, nm7 hg (by omega) (br_f (h i (by omega)) ?_)⟩)⟩
      rw [nI_1]
      exact ih (i + 1) (by omega)
  exact ⟨4, go 3 0 (by omega)⟩
theorem nmR_or {g : Nat} (r : Int32) : (∃ x, nmR g r x) ∨ ∀ y, y < 3 → ¬ nI (nmc g y) = r := by
  by_cases h0 : nI (nmc g 0) = r
  · exact .inl ⟨0, by omega, h0, fun y hy => absurd hy (Nat.not_lt_zero _)⟩
  · by_cases h1 : nI (nmc g 1) = r
    · exact .inl ⟨1, by omega, h1, fun y hy => by
        have : y = 0 := by omega
        subst this; exact h0⟩
    · by_cases h2 : nI (nmc g 2) = r
      · exact .inl ⟨2, by omega, h2, fun y hy => by
          have q : y = 0 ∨ y = 1 := by omega
          rcases q with rfl | rfl
          · exact h0
          · exact h1⟩
      · exact .inr (fun y hy => by
          have q : y = 0 ∨ y = 1 ∨ y = 2 := by omega
          rcases q with rfl | rfl | rfl
          · exact h0
          · exact h1
          · exact h2)
theorem nm8_t {u x : Nat} (hu : u ≤ 1) {r : Int32} (h : nmR (u + 1) r x) {P : Int32 → Prop} (p : P (nI x)) : wp_X8_nameOf r (nI u) P := by
  obtain ⟨hx, e, _⟩ := h
  have q : u = 0 ∨ u = 1 := by omega
  have qx : x = 0 ∨ x = 1 ∨ x = 2 := by omega
  rcases q with rfl | rfl
  · refine br_t rfl ?_
    rcases qx with rfl | rfl | rfl <;> subst e
    · exact br_t (by decide) p
    · exact br_f (by decide) (br_t rfl (br_t (by decide) p))
    · exact br_f (by decide) (br_t rfl (br_f (by decide) (br_t rfl (br_t (by decide) p))))
  · refine br_f (by decide) ?_
    rcases qx with rfl | rfl | rfl <;> subst e
    · exact br_t (by decide) p
    · exact br_f (by decide) (br_f (by decide) (br_t (by decide) p))
    · exact br_f (by decide) (br_f (by decide) (br_f (by decide) (br_f (by decide) (br_t (by decide) p))))
theorem nm8_f {u : Nat} (hu : u ≤ 1) {r : Int32} (h : ∀ y, y < 3 → ¬ nI (nmc (u + 1) y) = r) {P : Int32 → Prop} (p : P (-1)) : wp_X8_nameOf r (nI u) P := by
  have h0 := h 0 (by omega)
  have h1 := h 1 (by omega)
  have h2 := h 2 (by omega)
  have q : u = 0 ∨ u = 1 := by omega
  rcases q with rfl | rfl
  · exact br_t rfl (br_f (fun z => h0 z.symm) (br_t rfl (br_f (fun z => h1 z.symm) (br_t rfl (br_f (fun z => h2 z.symm) p)))))
  · exact br_f (by decide) (br_f (fun z => h0 z.symm) (br_f (by decide) (br_f (fun z => h1 z.symm) (br_f (by decide) (br_f (fun z => h2 z.symm) p)))))
/-- a number -/
theorem numL {b : Nat → Nat} {m : Nat} {bn dd : Nat → Int32} (hB : BY b m bn dd) : ∀ n i v at0 : Nat, i + n = 4 → 1 ≤ i → v < 10 ^ i → at0 ≤ m → ∃ at1 v', at0 ≤ at1 ∧ at1 ≤ m ∧ v' < 10000 ∧
    (∀ (K : Int32) (nums : Nat → Int32) (P : Int32 → Int32 → (Nat → Int32) → Prop), wp_X3_add 50 (nI v') K nums (fun _ K' nums' => P (nI at1) K' nums') → wp_X2_readNumber_b4 (nI m) bn P (n + 1) (nI v) (nI i) (nI at0) K nums) ∧
    (∀ (op K : Int32) (code : Nat → Int32) (P : Int32 → Int32 → Int32 → Int32 → (Nat → Int32) → Prop), wp_X8_lay (nI v') (-1) K code (fun K' code' => P (nI at1) (-1) op K' code') → wp_X8_unit_b58 (179 : Int32) (nI m) dd P (n + 1) (nI v) (nI i) (nI at0) (-1) op K code) := by
  have hm := hB.1
  intro n
  induction n with
  | zero =>
    intro i v at0 hi h1 hv ha
    have e : i = 4 := by omega
    subst e
    exact ⟨at0, v, Nat.le_refl _, ha, hv, fun K nums P p => br_t (by decide) p, fun op K code P p => br_t (by decide) (br_f (by decide) p)⟩
  | succ n ih =>
    intro i v at0 hi h1 hv ha
    have p4 : 10 ^ i ≤ 10 ^ 3 := Nat.pow_le_pow_right (by omega) (by omega)
    have ni : ¬ nI i = 0 := fun z => by
      have := (nI_eq (a := i) (b := 0) (by omega) (by omega)).mp z
      omega
    by_cases g : dig (ch b m at0)
    · have w := dig_at g
      rw [ch_t w] at g
      have hb := hB.2.1 at0 w
      have g' := (dig_n hb).mp g
      obtain ⟨at1, v', q1, q2, q3, q4, q5⟩ := ih (i + 1) (10 * v + (b at0 - 48)) (at0 + 1) (by omega) (by omega) (by rw [Nat.pow_succ]; omega) w
      refine ⟨at1, v', by omega, q2, q3, fun K nums P p => ?_, fun op K code P p => ?_⟩
      · refine br_f (nI_ge (b := 4) (by omega) (by omega)) (n7 hB ha ?_)
        rw [ch_t w]
        refine br_f g.1 (n7 hB ha ?_)
        rw [ch_t w]
        refine br_f g.2 (n7 hB ha ?_)
        rw [ch_t w, show nI v * (10 : Int32) = nI (10 * v) from ten_mul v, nI_add, show nI (10 * v + b at0) - (48 : Int32) = nI (10 * v + (b at0 - 48)) from (pk_sub (b := 48) (by omega)).trans (congrArg nI (by omega)), nI_1 i, nI_1 at0]
        exact q4 K nums P p
      · refine br_f (nI_ge (b := 4) (by omega) (by omega)) (h8 hB ha ?_)
        rw [ch_t w]
        refine w8t 48 57 ⟨Int32.not_lt.mp g.1, Int32.not_lt.mp g.2⟩ (yes (h8 hB ha ?_))
        rw [ch_t w, show (10 : Int32) * nI v = nI (10 * v) from pk_mul 10 v, nI_add, show nI (10 * v + b at0) - (48 : Int32) = nI (10 * v + (b at0 - 48)) from (pk_sub (b := 48) (by omega)).trans (congrArg nI (by omega)), nI_1 i, nI_1 at0]
        exact q5 op K code P p
    · have vb : v < 10000 := by omega
      refine ⟨at0, v, Nat.le_refl _, ha, vb, fun K nums P p => ?_, fun op K code P p => ?_⟩
      · refine br_f (nI_ge (b := 4) (by omega) (by omega)) (n7 hB ha ⟨fun _ => p, fun z => n7 hB ha ⟨fun _ => p, fun z' => absurd ⟨z, z'⟩ g⟩⟩)
      · refine br_f (nI_ge (b := 4) (by omega) (by omega)) (h8 hB ha (w8f 48 57 (fun z => g ⟨Int32.not_lt.mpr z.1, Int32.not_lt.mpr z.2⟩) (no (br_f ni p))))
