/-! PURE 8: what a text gives -/
def opF (k : Nat) (x y : Int32) : Int32 :=
  if k = 38 then (if x = 0 then 0 else if y = 0 then 0 else 1) else if k = 42 then x * y else if k = 43 then x + y else if k = 45 then x - y else if k = 47 then (if y = 0 then 0 else x / y)
  else if k = 60 then (if y ≤ x then 0 else 1) else if k = 61 then (if x = y then 1 else 0) else if k = 62 then (if x ≤ y then 0 else 1) else if k = 124 then (if x = 0 then (if y = 0 then 0 else 1) else 1) else if y = 0 then 0 else vrem x y
theorem p1_works {k : Nat} (hk : k < 30000) (x y : Int32) {P : Int32 → Prop} (h : P (opF k x y)) : wp_X1_works (nI k) x y P := by
  have q : ∀ c : Nat, c < 30000 → nI k = nI c → k = c := fun c hc e => (nI_eq (by omega) (by omega)).mp e
  have n : ∀ c : Nat, ¬ nI k = nI c → k ≠ c := fun c h e => h (by rw [e])
  refine ⟨fun e => ?_, fun e => ?_, fun e => ?_, fun e => ?_, fun e => ?_, fun e => ?_, fun e => ?_, fun e => ?_, fun e => ?_, fun e1 e2 e3 e4 e5 e6 e7 e8 e9 => ?_⟩
  · cases q 38 (by omega) e
    refine ⟨fun z => ?_, fun z => ⟨fun w => ?_, fun w => ?_⟩⟩
    · simpa [opF, z] using h
    · simpa [opF, z, w] using h
    · simpa [opF, z, w] using h
  · cases q 42 (by omega) e; exact h
  · cases q 43 (by omega) e; exact h
  · cases q 45 (by omega) e; exact h
  · cases q 47 (by omega) e
    refine ⟨fun z => ?_, fun z => ⟨z, ?_⟩⟩
    · simpa [opF, z] using h
    · simpa [opF, z] using h
  · cases q 60 (by omega) e
    refine ⟨fun z => ?_, fun z => ?_⟩
    · have h2 := h; unfold opF at h2; simp only [if_pos z] at h2; exact h2
    · have h2 := h; unfold opF at h2; simp only [if_neg z] at h2; exact h2
  · cases q 61 (by omega) e
    refine ⟨fun z => ?_, fun z => ?_⟩
    · have h2 := h; unfold opF at h2; simp only [if_pos z] at h2; exact h2
    · have h2 := h; unfold opF at h2; simp only [if_neg z] at h2; exact h2
  · cases q 62 (by omega) e
    refine ⟨fun z => ?_, fun z => ?_⟩
    · have h2 := h; unfold opF at h2; simp only [if_pos z] at h2; exact h2
    · have h2 := h; unfold opF at h2; simp only [if_neg z] at h2; exact h2
  · cases q 124 (by omega) e
    refine ⟨fun z => ⟨fun w => ?_, fun w => ?_⟩, fun z => ?_⟩
    · simpa [opF, z, w] using h
    · simpa [opF, z, w] using h
    · simpa [opF, z] using h
  · have h2 := h
    unfold opF at h2
    rw [if_neg (n 38 e1), if_neg (n 42 e2), if_neg (n 43 e3), if_neg (n 45 e4), if_neg (n 47 e5), if_neg (n 60 e6), if_neg (n 61 e7), if_neg (n 62 e8), if_neg (n 124 e9)] at h2
    refine ⟨fun z => ?_, fun z => ⟨z, ?_⟩⟩
    · rw [if_pos z] at h2; exact h2
    · rw [if_neg z] at h2; exact h2
/-- the height of the pile ahead of each step -/
def ht (c : Nat → Nat) : Nat → Nat
  | 0 => 0
  | i + 1 => if c i < 20000 then ht c i + 1 else if c i = 20033 then ht c i else ht c i - 1
/-- steps that work -/
def WFc (c : Nat → Nat) (m : Nat) : Prop := ∀ i, i < m → (c i < 10003 ∨ (c i = 20033 ∧ 1 ≤ ht c i) ∨ (20000 ≤ c i ∧ c i ≠ 20033 ∧ c i < 30000 ∧ 2 ≤ ht c i))
theorem ht_le (c : Nat → Nat) : ∀ i, ht c i ≤ i := by
  intro i
  induction i with
  | zero => exact Nat.le_refl 0
  | succ i ih =>
    show (if c i < 20000 then ht c i + 1 else if c i = 20033 then ht c i else ht c i - 1) ≤ i + 1
    split
    · omega
    · split <;> omega
theorem ht_pos {c : Nat → Nat} {m : Nat} (h : WFc c m) : ∀ i, 1 ≤ i → i ≤ m → 1 ≤ ht c i := by
  intro i h1 h2
  obtain ⟨j, rfl⟩ : ∃ j, i = j + 1 := ⟨i - 1, by omega⟩
  have w := h j (by omega)
  show 1 ≤ (if _ then _ else if _ then _ else _)
  rcases w with w | ⟨w, v⟩ | ⟨w, v, u, t⟩
  · rw [if_pos (by omega)]; omega
  · rw [if_neg (by omega), if_pos w]; exact v
  · rw [if_neg (by omega), if_neg v]; omega
/-- the pile behind some steps -/
def pS (c : Nat → Nat) (a b d : Int32) : Nat → Nat → Int32
  | 0 => fun _ => 0
  | i + 1 => if c i < 10000 then upd (pS c a b d i) (ht c i) (nI (c i)) else if c i < 20000 then upd (pS c a b d i) (ht c i) (if c i = 10000 then a else if c i = 10001 then b else d) else if c i = 20033 then upd (pS c a b d i) (ht c i - 1) (if pS c a b d i (ht c i - 1) = 0 then 1 else 0) else upd (pS c a b d i) (ht c i - 2) (opF (c i - 20000) (pS c a b d i (ht c i - 2)) (pS c a b d i (ht c i - 1)))
def gB (u : Nat) : Nat := if u = 0 then 99 else 999
def gN (u m : Nat) (c : Nat → Nat) (a b d : Int32) : Nat := min ((if m = 0 then (if u = 0 then 20 else a / 3) else pS c a b d m 0) : Int32).toNatClampNeg (gB u)
theorem gB_le {u : Nat} : gB u ≤ 999 := by unfold gB; split <;> omega
theorem gN_le {u m : Nat} {c : Nat → Nat} {a b d : Int32} : gN u m c a b d ≤ 999 := Nat.le_trans (Nat.min_le_right _ _) gB_le
theorem clampV {v : Int32} {k : Nat} (hk : k < 2 ^ 31) : vmx (0 : Int32) (vmn v (nI k)) = nI (min v.toNatClampNeg k) := by
  by_cases h : v < 0
  · have e : v.toNatClampNeg = 0 := by
      have := nI_ltT.mp h
      rw [z_T] at this
      show v.toInt.toNat = 0
      omega
    rw [e, Nat.zero_min]
    unfold vmn
    rw [if_neg (fun q => ?_)]
    · unfold vmx
      rw [if_neg (fun q => ?_)]; · rfl
      exact absurd (nI_ltT.mp q) (by have := nI_ltT.mp h; omega)
    · have a1 := nI_ltT.mp q
      have a2 := nI_ltT.mp h
      rw [nI_toInt hk] at a1; rw [z_T] at a2; omega
  · obtain ⟨j, hj, rfl⟩ := nI_of h
    rw [nI_clamp hj, vmn_nI hj hk, show (0 : Int32) = nI 0 from rfl, vmx_nI (by omega) (by omega), Nat.max_eq_right (by omega)]
theorem p8_heldV {v : Int32} {k : Nat} (hk : k < 2 ^ 31) {P : Int32 → Prop} (h : P (nI (min v.toNatClampNeg k))) : wp_X8_held v (0 : Int32) (nI k) P := by
  by_cases q : v < 0
  · have e : v.toNatClampNeg = 0 := by
      have := nI_ltT.mp q
      rw [z_T] at this
      show v.toInt.toNat = 0
      omega
    rw [e, Nat.zero_min] at h
    rw [p8_held, if_neg (Int32.not_le.mpr q)]
    exact h
  · obtain ⟨j, hj, rfl⟩ := nI_of q
    rw [nI_clamp hj] at h
    exact p8_heldN hj hk h
theorem s7_worth {m : Nat} {c : Nat → Nat} (hm : m ≤ 50) (h1 : 1 ≤ m) (hw : WFc c m) (a b d : Int32) {pile nums : Nat → Int32} (hn : ∀ i, i < m → nums i = nI (c i)) {P : Int32 → (Nat → Int32) → Prop} (hp : ∀ pile' : Nat → Int32, P (pS c a b d m 0) pile') : wp_X1_worth a b d (nI m) pile nums P := by
  unfold wp_X1_worth
  refine lpU (σ := Int32 × (Nat → Int32)) (fun f x s => wp_X1_worth_b6 a b d (nI m) nums P f s.1 x s.2) (fun i s => s.1 = nI (ht c i) ∧ ∀ j, j < ht c i → s.2 j = pS c a b d i j) m 0 (0, pile) (by omega) ⟨rfl, fun j hj => absurd hj (Nat.not_lt_zero _)⟩ (fun f s hI => ?_) (fun f i s hi hI ih => ?_)
  · obtain ⟨e1, e2⟩ := hI
    refine br_t (nI_le (Nat.le_refl m) (by omega)) ?_
    rw [show (0 : Int32).toNatClampNeg = 0 from nI_clamp (n := 0) (by omega), e2 0 (ht_pos hw m h1 (Nat.le_refl m))]
    exact hp _
  · obtain ⟨e1, e2⟩ := hI
    have hl := ht_le c i
    have w := hw i hi
    refine br_f (nI_ge hi (by omega)) (br_f (nI_ge (a := i) (b := 50) (by omega) (by omega)) ⟨ix (by omega) (by omega), ?_⟩)
    rw [nI_clamp (n := i) (by omega), hn i hi, e1]
    have hts : ht c (i + 1) = if c i < 20000 then ht c i + 1 else if c i = 20033 then ht c i else ht c i - 1 := rfl
    have pss : pS c a b d (i + 1) = if c i < 10000 then upd (pS c a b d i) (ht c i) (nI (c i)) else if c i < 20000 then upd (pS c a b d i) (ht c i) (if c i = 10000 then a else if c i = 10001 then b else d) else if c i = 20033 then upd (pS c a b d i) (ht c i - 1) (if pS c a b d i (ht c i - 1) = 0 then 1 else 0) else upd (pS c a b d i) (ht c i - 2) (opF (c i - 20000) (pS c a b d i (ht c i - 2)) (pS c a b d i (ht c i - 1))) := rfl
    have push : ∀ x : Int32, c i < 20000 → pS c a b d (i + 1) = upd (pS c a b d i) (ht c i) x → wp_X1_worth_b6 a b d (nI m) nums P f (nI (ht c i) + 1) (nI i + 1) (upd s.2 (ht c i) x) := fun x h2 hx => by
      rw [nI_1]
      refine ih (nI (ht c i + 1), upd s.2 (ht c i) x) ⟨by rw [hts, if_pos h2], fun j hj => ?_⟩
      rw [hts, if_pos h2] at hj
      rw [hx]
      show upd _ _ _ j = _
      unfold upd
      by_cases q : j = ht c i
      · rw [if_pos q, if_pos q]
      · rw [if_neg q, if_neg q]; exact e2 j (by omega)
    rcases w with w | ⟨w, v⟩ | ⟨w, v, u, t⟩
    · refine br_f (nI_ge (a := c i) (b := 20000) (by omega) (by omega)) (br_f (nI_ge (a := ht c i) (b := 50) (by omega) (by omega)) ?_)
      rw [nI_clamp (n := ht c i) (by omega)]
      refine pk_le 10000 (c i) (fun h2 => ?_) (fun h2 => ?_) rfl rfl (by omega) (by omega)
      · refine ⟨fun e => ⟨ix (by omega) (by omega), push _ (by omega) ?_⟩, fun e => ⟨fun e' => ⟨ix (by omega) (by omega), push _ (by omega) ?_⟩, fun e' => ⟨ix (by omega) (by omega), push _ (by omega) ?_⟩⟩⟩
        · have q : c i = 10000 := (nI_eq (by omega) (by omega)).mp e
          rw [pss, if_neg (by omega), if_pos (by omega), if_pos q]
        · have q : c i ≠ 10000 := fun z => e (by rw [z]; rfl)
          have q' : c i = 10001 := (nI_eq (by omega) (by omega)).mp e'
          rw [pss, if_neg (by omega), if_pos (by omega), if_neg q, if_pos q']
        · have q : c i ≠ 10000 := fun z => e (by rw [z]; rfl)
          have q' : c i ≠ 10001 := fun z => e' (by rw [z]; rfl)
          rw [pss, if_neg (by omega), if_pos (by omega), if_neg q, if_neg q']
      · refine ⟨ix (by omega) (by omega), push _ (by omega) ?_⟩
        rw [pss, if_pos h2]
    · have hx : pS c a b d (i + 1) = upd (pS c a b d i) (ht c i - 1) (if pS c a b d i (ht c i - 1) = 0 then 1 else 0) := by rw [pss, if_neg (by omega), if_neg (by omega), if_pos w]
      have hh : ht c (i + 1) = ht c i := by rw [hts, if_neg (by omega), if_pos w]
      refine br_t (nI_le (a := 20000) (b := c i) (by omega) (by omega)) ?_
      unfold wp_X1_worth_b112
      refine br_t (by rw [w]; rfl) (br_f (nI_ge (a := 0) (b := ht c i) v (by omega) ∘ fun z => ?_) ?_)
      · have := (nI_ltI (a := ht c i) (b := 1) (by omega) (by omega)).mp z
        omega
      · have e' : nI (ht c i) - (1 : Int32) = nI (ht c i - 1) := pk_sub (b := 1) v
        rw [e', nI_clamp (n := ht c i - 1) (by omega), e2 _ (by omega)]
        have fin : ∀ x : Int32, x = (if pS c a b d i (ht c i - 1) = 0 then 1 else 0) → wp_X1_worth_b6 a b d (nI m) nums P f (nI (ht c i)) (nI i + 1) (upd s.2 (ht c i - 1) x) := fun x ex => by
          refine ih (nI (ht c i), upd s.2 (ht c i - 1) x) ⟨by rw [hh], fun j hj => ?_⟩
          rw [hh] at hj
          rw [hx, ex]
          show upd _ _ _ j = _
          unfold upd
          by_cases q : j = ht c i - 1
          · rw [if_pos q, if_pos q]
          · rw [if_neg q, if_neg q]; exact e2 j hj
        exact ⟨ix (by omega) (by omega), fun z => ⟨ix (by omega) (by omega), fin _ (by rw [if_pos z])⟩, fun z => ⟨ix (by omega) (by omega), fin _ (by rw [if_neg z])⟩⟩
    · have hx : pS c a b d (i + 1) = upd (pS c a b d i) (ht c i - 2) (opF (c i - 20000) (pS c a b d i (ht c i - 2)) (pS c a b d i (ht c i - 1))) := by rw [pss, if_neg (by omega), if_neg (by omega), if_neg v]
      have hh : ht c (i + 1) = ht c i - 1 := by rw [hts, if_neg (by omega), if_neg v]
      refine br_t (nI_le (a := 20000) (b := c i) (by omega) (by omega)) ?_
      unfold wp_X1_worth_b112
      refine br_f (fun z => v ((nI_eq (by omega) (by omega)).mp z)) ?_
      unfold wp_X1_worth_b155
      refine br_f (fun z => ?_) ?_
      · have := (nI_ltI (a := ht c i) (b := 2) (by omega) (by omega)).mp z
        omega
      · have e' : nI (ht c i) - (1 : Int32) = nI (ht c i - 1) := pk_sub (b := 1) (by omega)
        have e'' : nI (ht c i) - (2 : Int32) = nI (ht c i - 2) := pk_sub (b := 2) t
        have e3 : nI (c i) - (20000 : Int32) = nI (c i - 20000) := pk_sub (b := 20000) w
        have e4 : nI (ht c i) + (-1 : Int32) = nI (ht c i - 1) := sb_m1 (by omega)
        rw [e', e'', e3, e4, nI_clamp (n := ht c i - 2) (by omega), nI_clamp (n := ht c i - 1) (by omega), e2 _ (by omega), e2 _ (by omega)]
        refine ⟨ix (by omega) (by omega), ix (by omega) (by omega), p1_works (by omega) _ _ ⟨ix (by omega) (by omega), ?_⟩⟩
        refine ih (nI (ht c i - 1), upd s.2 (ht c i - 2) _) ⟨by rw [hh], fun j hj => ?_⟩
        rw [hh] at hj
        rw [hx]
        show upd _ _ _ j = _
        unfold upd
        by_cases q : j = ht c i - 2
        · rw [if_pos q, if_pos q]
        · rw [if_neg q, if_neg q]; exact e2 j (by omega)
theorem s7_gives {u m : Nat} {c : Nat → Nat} (hu : u ≤ 1) (hm : m ≤ 50) (hw : WFc c m) (a b d : Int32) {pile nums : Nat → Int32} (hn : ∀ i, i < m → nums i = nI (c i)) {P : Int32 → (Nat → Int32) → Prop} (hp : ∀ pile' : Nat → Int32, P (nI (gN u m c a b d)) pile') : wp_X1_gives a b d (nI u) (nI m) pile nums P := by
  have fin : ∀ (v : Int32) (pile' : Nat → Int32), v = (if m = 0 then (if u = 0 then 20 else a / 3) else pS c a b d m 0) → (nI u = 0 → P (vmx (0 : Int32) (vmn v (99 : Int32))) pile') ∧ (¬ nI u = 0 → P (vmx (0 : Int32) (vmn v (999 : Int32))) pile') := fun v pile' ev => by
    have hp' := hp pile'
    refine ⟨fun z => ?_, fun z => ?_⟩
    · have u0 : u = 0 := (nI_eq (by omega) (by omega)).mp z
      rw [show vmx (0 : Int32) (vmn v (99 : Int32)) = nI (min v.toNatClampNeg 99) from clampV (k := 99) (by omega), ev]
      unfold gN gB at hp'
      simp only [if_pos u0] at hp' ⊢
      exact hp'
    · have u0 : ¬ u = 0 := fun q => z (by rw [q]; rfl)
      rw [show vmx (0 : Int32) (vmn v (999 : Int32)) = nI (min v.toNatClampNeg 999) from clampV (k := 999) (by omega), ev]
      unfold gN gB at hp'
      simp only [if_neg u0] at hp' ⊢
      exact hp'
  have mid : ∀ (s0 : Int32), s0 = (if u = 0 then 20 else a / 3) → wp_X1_gives_b15 a b d (nI u) (nI m) nums P s0 pile := fun s0 es => by
    unfold wp_X1_gives_b15
    refine ⟨fun z => ?_, fun z => ?_⟩
    · have m0 : m = 0 := by have := (nI_leI (a := m) (b := 0) (by omega) (by omega)).mp z; omega
      exact fin s0 pile (by rw [if_pos m0]; exact es)
    · have m0 : ¬ m = 0 := fun q => z (by rw [q]; exact Int32.le_refl _)
      exact s7_worth hm (by omega) hw a b d hn (fun pile' => fin _ pile' (by rw [if_neg m0]))
  unfold wp_X1_gives
  refine ⟨fun z => mid _ ?_, fun z => mid _ ?_⟩
  · rw [if_pos ((nI_eq (a := u) (b := 0) (by omega) (by omega)).mp z)]
  · rw [if_neg (fun q => z (by rw [q]; rfl))]
