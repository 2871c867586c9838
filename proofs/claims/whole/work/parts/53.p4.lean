/-! PURE 4: houses in an hour, cooling, hours; the class's -/
theorem q_of {k : Nat} (hk : k ≤ 1000) (c : Nat) (hc : c ≤ 1000) (e : nI k = nI c) : k = c := (nI_eq (by omega) (by omega)).mp e
theorem p0_takes {k o : Nat} (hk : k ≤ 6) (ho : o ≤ 20000) {P : Int32 → Prop} (h : P (nI (hTk k o))) : wp_X0_takes (nI k) (nI o) P := by
  have q : ∀ c : Nat, c ≤ 1000 → nI k = nI c → k = c := q_of (by omega)
  refine ⟨fun e => ?_, fun e => ?_, fun e => ?_, fun e => ?_, fun e => ?_, fun e1 e2 e3 e4 e5 => ?_⟩
  · cases q 1 (by omega) e; exact h
  · cases q 2 (by omega) e; exact h
  · cases q 3 (by omega) e; exact h
  · cases q 4 (by omega) e; exact h
  · cases q 5 (by omega) e
    rw [show vrem (nI o) (5 : Int32) = nI (o % 5) from vrem_nI (b := 5) (by omega) (by omega) (by omega), show (1 : Int32) + nI (o % 5) = nI (1 + o % 5) from nI_add 1 _]
    exact h
  · have n1 : k ≠ 1 := fun z => e1 (by rw [z]; rfl)
    have n2 : k ≠ 2 := fun z => e2 (by rw [z]; rfl)
    have n4 : k ≠ 4 := fun z => e4 (by rw [z]; rfl)
    have n5 : k ≠ 5 := fun z => e5 (by rw [z]; rfl)
    unfold hTk at h
    rw [if_neg n1, if_neg n2, if_neg n4, if_neg n5] at h
    exact h
theorem p0_most {k : Nat} (hk : k ≤ 6) {P : Int32 → Prop} (h : P (nI (hMo k))) : wp_X0_most (nI k) P := by
  have q : ∀ c : Nat, c ≤ 1000 → nI k = nI c → k = c := q_of (by omega)
  refine ⟨fun e => ?_, fun e => ?_, fun e => ?_, fun e => ?_, fun e => ?_, fun e => ?_, fun e1 e2 e3 e4 e5 e6 => ?_⟩
  · cases q 1 (by omega) e; exact h
  · cases q 2 (by omega) e; exact h
  · cases q 3 (by omega) e; exact h
  · cases q 4 (by omega) e; exact h
  · cases q 5 (by omega) e; exact h
  · cases q 6 (by omega) e; exact h
  · have n1 : k ≠ 1 := fun z => e1 (by rw [z]; rfl)
    have n4 : k ≠ 4 := fun z => e4 (by rw [z]; rfl)
    have n5 : k ≠ 5 := fun z => e5 (by rw [z]; rfl)
    have n6 : k ≠ 6 := fun z => e6 (by rw [z]; rfl)
    unfold hMo at h
    rw [if_neg (by omega), if_neg n5, if_neg n6] at h
    exact h
theorem p0_least {k m o : Nat} (hk : k ≤ 6) (hm : m ≤ 9) (ho : o ≤ 20000) {P : Int32 → Prop} (h : P (nI (hLe k m o))) : wp_X0_least (nI k) (nI m) (nI o) P := by
  have q : ∀ c : Nat, c ≤ 1000 → nI k = nI c → k = c := q_of (by omega)
  have er : vrem (nI o) (3 : Int32) = nI (o % 3) := vrem_nI (b := 3) (by omega) (by omega) (by omega)
  have a1 : (40 : Int32) + (2 : Int32) * nI m = nI (40 + 2 * m) := by
    rw [show (2 : Int32) * nI m = nI (2 * m) from pk_mul 2 m, show (40 : Int32) + nI (2 * m) = nI (40 + 2 * m) from nI_add 40 _]
  have a2 : (20 : Int32) - nI m = nI (20 - m) := pk_sub (a := 20) (by omega)
  have a3 : (30 : Int32) + nI m = nI (30 + m) := nI_add 30 m
  have a4 : (40 : Int32) + nI m = nI (40 + m) := nI_add 40 m
  unfold wp_X0_least
  rw [er, a1, a2, a3, a4]
  refine ⟨fun z => ?_, fun z => ?_⟩
  · have oz : o % 3 = 0 := q_of (by omega) 0 (by omega) z
    refine ⟨fun e => ?_, fun e => ?_, fun e => ?_, fun e => ?_, fun e => ?_, fun e => ?_, fun e1 e2 e3 e4 e5 e6 => ?_⟩
    · cases q 1 (by omega) e; exact h
    · cases q 2 (by omega) e; exact h
    · cases q 3 (by omega) e; exact (show P (nI 30) by simpa [hLe, oz] using h)
    · cases q 4 (by omega) e; exact h
    · cases q 5 (by omega) e; exact h
    · cases q 6 (by omega) e; simpa [hLe, oz] using h
    · have n0 : k = 0 := by
        have n1 : k ≠ 1 := fun z => e1 (by rw [z]; rfl)
        have n2 : k ≠ 2 := fun z => e2 (by rw [z]; rfl)
        have n3 : k ≠ 3 := fun z => e3 (by rw [z]; rfl)
        have n4 : k ≠ 4 := fun z => e4 (by rw [z]; rfl)
        have n5 : k ≠ 5 := fun z => e5 (by rw [z]; rfl)
        have n6 : k ≠ 6 := fun z => e6 (by rw [z]; rfl)
        omega
      subst n0; exact h
  · have oz : ¬ o % 3 = 0 := fun y => z (by rw [y]; rfl)
    refine ⟨fun e => ?_, fun e => ?_, fun e => ?_, fun e => ?_, fun e => ?_, fun e => ?_, fun e1 e2 e3 e4 e5 e6 => ?_⟩
    · cases q 1 (by omega) e; exact h
    · cases q 2 (by omega) e; exact h
    · cases q 3 (by omega) e; exact (show P (nI 40) by simpa [hLe, oz] using h)
    · cases q 4 (by omega) e; exact h
    · cases q 5 (by omega) e; exact h
    · cases q 6 (by omega) e; simpa [hLe, oz] using h
    · have n0 : k = 0 := by
        have n1 : k ≠ 1 := fun z => e1 (by rw [z]; rfl)
        have n2 : k ≠ 2 := fun z => e2 (by rw [z]; rfl)
        have n3 : k ≠ 3 := fun z => e3 (by rw [z]; rfl)
        have n4 : k ≠ 4 := fun z => e4 (by rw [z]; rfl)
        have n5 : k ≠ 5 := fun z => e5 (by rw [z]; rfl)
        have n6 : k ≠ 6 := fun z => e6 (by rw [z]; rfl)
        omega
      subst n0; exact h
theorem p5_kindOf {i k mm : Nat} (hi : i < 8) (hm : mm ≤ 9) (hk : k ≤ 6) {km : Nat → Int32} (e : km i = nI (10 * k + mm)) {P : Int32 → Prop} (h : P (nI k)) : wp_X5_kindOf (nI i) km P := by
  refine br_f (nI_pos (by omega)) (br_f (nI_ge (a := i) (b := 8) (by omega) (by omega)) ⟨ix hi (by omega), ?_⟩)
  rw [nI_clamp (by omega), e, show nI (10 * k + mm) / (10 : Int32) = nI ((10 * k + mm) / 10) from pk_div (d := 10) (by omega) (by omega) (by omega), show (10 * k + mm) / 10 = k by omega]
  exact h
theorem p5_mOf {i k mm : Nat} (hi : i < 8) (hm : mm ≤ 9) (hk : k ≤ 6) {km : Nat → Int32} (e : km i = nI (10 * k + mm)) {P : Int32 → Prop} (h : P (nI mm)) : wp_X5_mOf (nI i) km P := by
  refine br_f (nI_pos (by omega)) (br_f (nI_ge (a := i) (b := 8) (by omega) (by omega)) ⟨ix hi (by omega), ?_⟩)
  rw [nI_clamp (by omega), e, show vrem (nI (10 * k + mm)) (10 : Int32) = nI ((10 * k + mm) % 10) from vrem_nI (b := 10) (by omega) (by omega) (by omega), show (10 * k + mm) % 10 = mm by omega]
  exact h
theorem p5_heatOf {c : Nat} (hc : c < 16) {heat : Nat → Int32} {P : Int32 → Prop} (h : P (heat c)) : wp_X5_heatOf (nI c) heat P := by
  refine br_f (nI_pos (by omega)) (br_f (nI_ge (a := c) (b := 16) (by omega) (by omega)) ⟨ix hc (by omega), ?_⟩)
  rw [nI_clamp (by omega)]
  exact h
theorem hTk_le {k o : Nat} : hTk k o ≤ 6 := by
  unfold hTk
  repeat' split
  all_goals omega
theorem p5_takesOf {i k mm c o hv : Nat} (hi : i < 8) (hm : mm ≤ 9) (hk : k ≤ 6) (ho : o ≤ 20000) (hc : c < 16) (hh : hv ≤ 9999) {km cell heat : Nat → Int32} (e : km i = nI (10 * k + mm)) (ec : cell i = nI c) (eh : heat c = nI hv) {P : Int32 → Prop} (h : P (nI (min (hTk k o) hv))) : wp_X5_takesOf (nI i) (nI o) heat km cell P := by
  refine br_f (nI_pos (by omega)) (br_t (nI_lt (a := i) (b := 8) (by omega) (by omega)) ?_)
  refine p5_kindOf hi hm hk e (p0_takes hk ho ⟨ix hi (by omega), ?_⟩)
  rw [nI_clamp (by omega), ec]
  refine p5_heatOf hc ?_
  have b := hTk_le (k := k) (o := o)
  rw [eh, vmn_nI (by omega) (by omega)]
  exact h
theorem hLe_le {k m o : Nat} (hm : m ≤ 9) : hLe k m o ≤ 100 := by
  unfold hLe
  repeat' split
  all_goals omega
theorem hMo_le {k : Nat} : hMo k ≤ 300 := by
  unfold hMo
  repeat' split
  all_goals omega
theorem p5_isContent {i k mm c o hv : Nat} (hi : i < 8) (hm : mm ≤ 9) (hk : k ≤ 6) (ho : o ≤ 20000) (hc : c < 16) (hh : hv ≤ 9999) {km cell heat : Nat → Int32} (e : km i = nI (10 * k + mm)) (ec : cell i = nI c) (eh : heat c = nI hv) {P : Int32 → Prop} (h1 : hLe k mm o ≤ hv ∧ hv ≤ hMo k → P 1) (h0 : ¬ (hLe k mm o ≤ hv ∧ hv ≤ hMo k) → P 0) : wp_X5_isContent (nI i) (nI o) heat km cell P := by
  have b1 := hLe_le (k := k) (o := o) hm
  have b2 := hMo_le (k := k)
  refine br_f (nI_pos (by omega)) (br_t (nI_lt (a := i) (b := 8) (by omega) (by omega)) ⟨ix hi (by omega), ?_⟩)
  rw [nI_clamp (by omega), ec]
  refine p5_heatOf hc ?_
  rw [eh]
  refine p5_kindOf hi hm hk e (p5_mOf hi hm hk e (p0_least hk hm ho ?_))
  refine ⟨fun q => ?_, fun q => ?_⟩
  · rw [nI_ltI (by omega) (by omega)] at q
    exact h0 (fun z => by omega)
  · rw [nI_ltI (by omega) (by omega)] at q
    refine p5_kindOf hi hm hk e (p0_most hk ?_)
    refine ⟨fun q2 => ?_, fun q2 => ?_⟩
    · rw [nI_ltI (by omega) (by omega)] at q2
      exact h0 (fun z => by omega)
    · rw [nI_ltI (by omega) (by omega)] at q2
      exact h1 (by omega)
/-- the houses' part keeps within its bounds -/
theorem hLv_b {kd mm cl : Nat → Nat} {o : Nat} {s : hS} (b1 : ∀ c, c < 16 → s.1 c ≤ 999) (b2 : ∀ j, j < 8 → s.2.1 j ≤ 9999) (b3 : s.2.2 = 0) : ∀ i, (∀ c, c < 16 → (hLv kd mm cl o s i).1 c ≤ 999) ∧ (∀ j, j < 8 → (hLv kd mm cl o s i).2.1 j ≤ 9999) ∧ (hLv kd mm cl o s i).2.2 < 2 ^ i := by
  intro i
  induction i with
  | zero => exact ⟨b1, b2, by show s.2.2 < 1; omega⟩
  | succ i ih =>
    obtain ⟨h1, h2, h3⟩ := ih
    refine ⟨fun c hc => ?_, fun j hj => ?_, ?_⟩
    · show va_up _ _ _ c ≤ 999
      unfold va_up
      split
      · rename_i q
        have := h1 c hc
        rw [← q]; omega
      · exact h1 c hc
    · show (if _ then va_up _ i _ else _) j ≤ 9999
      split
      · unfold va_up
        split
        · exact Nat.min_le_right _ _
        · exact h2 j hj
      · exact h2 j hj
    · show (if _ then _ ||| 2 ^ i else _) < 2 ^ (i + 1)
      have e : 2 ^ (i + 1) = 2 ^ i + 2 ^ i := by rw [Nat.pow_succ]; omega
      split
      · refine Nat.or_lt_two_pow (by omega) (by rw [e]; have := Nat.two_pow_pos i; omega)
      · omega
theorem s7_live {o n : Nat} {kd mm cl h u : Nat → Nat} {content : Int32} {heat km cell warm : Nat → Int32} {post : Int32 → (Nat → Int32) → (Nat → Int32) → Prop} (hn : n ≤ 8) (ho : o ≤ 20000) (hH : ∀ c, c < 16 → heat c = nI (h c)) (bH : ∀ c, c < 16 → h c ≤ 999) (hU : ∀ j, j < 8 → warm j = nI (u j)) (bU : ∀ j, j < 8 → u j ≤ 9999) (hKm : ∀ i, i < 8 → km i = nI (10 * kd i + mm i)) (bK : ∀ i, i < 8 → kd i ≤ 6) (bM : ∀ i, i < 8 → mm i ≤ 9) (hC : ∀ i, i < 8 → cell i = nI (cl i)) (bC : ∀ i, i < 8 → cl i < 16)
    (hp : ∀ heat' warm' : Nat → Int32, (∀ c, c < 16 → heat' c = nI ((hLv kd mm cl o (h, u, 0) n).1 c)) → (∀ j, j < 8 → warm' j = nI ((hLv kd mm cl o (h, u, 0) n).2.1 j)) → post (nI (hLv kd mm cl o (h, u, 0) n).2.2) heat' warm') : wp_X5_live (nI o) (nI n) content heat km cell warm post := by
  unfold wp_X5_live
  have bb := hLv_b (kd := kd) (mm := mm) (cl := cl) (o := o) (s := (h, u, 0)) bH bU rfl
  refine lpU (σ := Int32 × (Nat → Int32) × (Nat → Int32)) (fun f x s => wp_X5_live_b7 (nI o) (nI n) km cell post f x s.1 s.2.1 s.2.2) (fun i s => s.1 = nI (hLv kd mm cl o (h, u, 0) i).2.2 ∧ (∀ c, c < 16 → s.2.1 c = nI ((hLv kd mm cl o (h, u, 0) i).1 c)) ∧ ∀ j, j < 8 → s.2.2 j = nI ((hLv kd mm cl o (h, u, 0) i).2.1 j)) n 0 (0, heat, warm) (by omega) ⟨rfl, hH, hU⟩ (fun f s hI => ?_) (fun f i s hi hI ih => ?_)
  · obtain ⟨e1, e2, e3⟩ := hI
    refine br_t (nI_le (Nat.le_refl n) (by omega)) ?_
    rw [e1]
    exact hp _ _ e2 e3
  · obtain ⟨e1, e2, e3⟩ := hI
    obtain ⟨g1, g2, g3⟩ := bb i
    have i8 : i < 8 := by omega
    have ci := bC i i8
    have c0 : (nI i).toNatClampNeg = i := nI_clamp (by omega)
    refine br_f (nI_ge (by omega) (by omega)) (br_f (nI_ge (a := i) (b := 8) (by omega) (by omega)) ⟨ix i8 (by omega), ?_⟩)
    rw [c0, hC i i8]
    refine br_f (nI_pos (by omega)) (br_f (nI_ge (a := cl i) (b := 16) (by omega) (by omega)) ⟨ix ci (by omega), ?_⟩)
    have hv := g1 (cl i) ci
    refine p5_takesOf i8 (bM i i8) (bK i i8) ho ci (by omega) (hKm i i8) (hC i i8) (e2 _ ci) ⟨ix ci (by omega), ?_⟩
    rw [nI_clamp (n := cl i) (by omega)]
    have eh : s.2.1 (cl i) - nI (min (hTk (kd i) o) ((hLv kd mm cl o (h, u, 0) i).1 (cl i))) = nI ((hLv kd mm cl o (h, u, 0) i).1 (cl i) - hTk (kd i) o) := by
      rw [e2 _ ci, pk_sub (by omega)]
      congr 1; omega
    rw [eh]
    unfold wp_X5_live_b52
    have hnew : ∀ c, c < 16 → upd s.2.1 (cl i) (nI ((hLv kd mm cl o (h, u, 0) i).1 (cl i) - hTk (kd i) o)) c = nI ((hLv kd mm cl o (h, u, 0) (i + 1)).1 c) := fun c hc => by
      show upd _ _ _ c = nI (va_up _ _ _ c)
      unfold upd va_up
      by_cases q : c = cl i
      · rw [if_pos q, if_pos q]
      · rw [if_neg q, if_neg q]; exact e2 c hc
    have hv2 : upd s.2.1 (cl i) (nI ((hLv kd mm cl o (h, u, 0) i).1 (cl i) - hTk (kd i) o)) (cl i) = nI ((hLv kd mm cl o (h, u, 0) i).1 (cl i) - hTk (kd i) o) := by
      unfold upd; rw [if_pos rfl]
    refine p5_isContent i8 (bM i i8) (bK i i8) ho ci (by omega) (hKm i i8) (hC i i8) hv2 (fun hc => ?_) (fun hc => ?_)
    · refine br_f (by decide) ⟨ix i8 (by omega), ix i8 (by omega), ?_⟩
      rw [c0]
      refine ih (_, _, _) ⟨?_, hnew, fun j hj => ?_⟩
      · show s.1 ||| (1 : Int32) <<< (nI i &&& 31) = nI (if _ then _ else _)
        rw [if_pos hc, nI_shl1 (by omega), e1, nI_or]
      · show upd s.2.2 i _ j = nI ((if _ then va_up _ i _ else _) j)
        rw [if_pos hc]
        unfold upd va_up
        by_cases q : j = i
        · have g2' := g2 i i8
          rw [if_pos q, if_pos q, e3 i i8, show nI ((hLv kd mm cl o (h, u, 0) i).2.1 i) + (1 : Int32) = nI ((hLv kd mm cl o (h, u, 0) i).2.1 i + 1) from nI_1 _, show vmn (nI ((hLv kd mm cl o (h, u, 0) i).2.1 i + 1)) (9999 : Int32) = nI (min ((hLv kd mm cl o (h, u, 0) i).2.1 i + 1) 9999) from vmn_nI (b := 9999) (by omega) (by omega)]
        · rw [if_neg q, if_neg q]; exact e3 j hj
    · refine br_t rfl ?_
      refine ih (_, _, _) ⟨?_, hnew, fun j hj => ?_⟩
      · show s.1 = nI (if _ then _ else _)
        rw [if_neg hc]; exact e1
      · show s.2.2 j = nI ((if _ then va_up _ i _ else _) j)
        rw [if_neg hc]; exact e3 j hj
theorem s7_cool {h : Nat → Nat} {heat : Nat → Int32} {post : (Nat → Int32) → Prop} (hH : ∀ c, c < 16 → heat c = nI (h c)) (bH : ∀ c, c < 16 → h c ≤ 999) (hp : ∀ heat' : Nat → Int32, (∀ c, c < 16 → heat' c = nI (hCo h c)) → post heat') : wp_X5_cool heat post := by
  unfold wp_X5_cool
  refine lpU (σ := Nat → Int32) (fun f x s => wp_X5_cool_b3 post f x s) (fun i s => 12 ≤ i ∧ ∀ c, c < 16 → s c = nI (if c < i then hCo h c else h c)) 16 12 heat (by omega) ⟨by omega, fun c hc => ?_⟩ (fun f s hI => ?_) (fun f i s hi hI ih => ?_)
  · by_cases q : c < 12
    · rw [if_pos q]; unfold hCo; rw [if_neg (by omega)]; exact hH c hc
    · rw [if_neg q]; exact hH c hc
  · refine br_t (by decide) (hp _ (fun c hc => ?_))
    rw [hI.2 c hc, if_pos hc]
  · obtain ⟨h12, hI⟩ := hI
    have c0 : (nI i).toNatClampNeg = i := nI_clamp (by omega)
    refine br_f (nI_ge (a := i) (b := 16) (by omega) (by omega)) ⟨ix hi (by omega), ix hi (by omega), ix hi (by omega), ?_⟩
    rw [c0]
    refine ih _ ⟨by omega, fun c hc => ?_⟩
    have b := bH i hi
    unfold upd
    by_cases q : c = i
    · rw [if_pos q, hI i hi, if_neg (by omega), show nI (h i) / (4 : Int32) = nI (h i / 4) from pk_div (d := 4) (by omega) (by omega) (by omega), pk_sub (by omega), q, if_pos (by omega)]
      unfold hCo
      rw [if_pos h12]
    · rw [if_neg q, hI c hc]
      by_cases q2 : c < i
      · rw [if_pos q2, if_pos (by omega)]
      · rw [if_neg q2, if_neg (by omega)]
/-- what an hour does: heat, warm, wants, burnt, hour, content -/
abbrev hY : Type := (Nat → Nat) × (Nat → Nat) × Nat × Nat × Nat × Nat
/-- what stays: doors, fed, houses, kinds, numbers, cells, the two laws -/
abbrev hZ : Type := Nat × Nat × Nat × (Nat → Nat) × (Nat → Nat) × (Nat → Nat) × (Nat → Nat → Nat → Nat) × (Nat → Nat → Nat → Nat)
def hr (z : hZ) (y : hY) : hY :=
  let L := hLv z.2.2.2.1 z.2.2.2.2.1 z.2.2.2.2.2.1 y.2.2.2.2.1 (hF (hG z.2.2.2.2.2.2.2 z.1 y.2.2.2.2.1 (hB z.2.1 y.1)) (hB z.2.1 y.1), y.2.1, 0) z.2.2.1
  (hCo L.1, L.2.1, min (y.2.2.1 + z.2.2.2.2.2.2.1 z.2.1 (y.2.2.2.2.1 % 24) (y.2.2.1 % 100) - z.2.1) 9999, min (y.2.2.2.1 + 4 * z.2.1) 99999, y.2.2.2.2.1 + 1, L.2.2)
def hrN (z : hZ) (y : hY) : Nat → hY
  | 0 => y
  | n + 1 => hr z (hrN z y n)
/-- bounds of what stays, and of what changes -/
def ZB (z : hZ) : Prop := z.1 < 4096 ∧ z.2.1 ≤ 99 ∧ z.2.2.1 ≤ 8 ∧ (∀ i, i < 8 → z.2.2.2.1 i ≤ 6) ∧ (∀ i, i < 8 → z.2.2.2.2.1 i ≤ 9) ∧ (∀ i, i < 8 → z.2.2.2.2.2.1 i < 16) ∧ (∀ a b c, z.2.2.2.2.2.2.1 a b c ≤ 999) ∧ ∀ a b c, z.2.2.2.2.2.2.2 a b c ≤ 999
def YB (y : hY) : Prop := (∀ c, c < 16 → y.1 c ≤ 999) ∧ (∀ j, j < 8 → y.2.1 j ≤ 9999) ∧ y.2.2.1 ≤ 9999 ∧ y.2.2.2.1 ≤ 99999 ∧ y.2.2.2.2.2 < 256
theorem hB_b {fed : Nat} {h : Nat → Nat} (b : ∀ c, c < 16 → h c ≤ 999) : ∀ c, c < 16 → hB fed h c ≤ 999 := fun c hc => by
  unfold hB
  split
  · exact Nat.min_le_right _ _
  · exact b c hc
theorem hF_b {gg : Nat → Nat → Nat → Nat} {D o : Nat} {h : Nat → Nat} (b : ∀ c, c < 16 → h c ≤ 999) : ∀ c, c < 16 → hF (hG gg D o h) h c ≤ 999 := fun c hc => by
  unfold hF
  have b1 := b c hc
  by_cases q : 4 ≤ c
  · rw [if_pos q]
    have g := hG_le (gg := gg) (D := D) (o := o) (h := h) (c - 4)
    have b2 := b (c - 4) (by omega)
    rw [show c - 4 + 4 = c by omega] at g
    by_cases q2 : h c < h (c - 4)
    · omega
    · have : h (c - 4) - h c = 0 := by omega
      rw [this] at g
      omega
  · rw [if_neg q]; omega
theorem hCo_b {h : Nat → Nat} (b : ∀ c, c < 16 → h c ≤ 999) : ∀ c, c < 16 → hCo h c ≤ 999 := fun c hc => by
  unfold hCo
  have := b c hc
  split <;> omega
theorem hr_b {z : hZ} {y : hY} (hz : ZB z) (hy : YB y) : YB (hr z y) := by
  obtain ⟨z1, z2, z3, z4, z5, z6, z7, z8⟩ := hz
  obtain ⟨y1, y2, y3, y4, y5⟩ := hy
  have b := hLv_b (kd := z.2.2.2.1) (mm := z.2.2.2.2.1) (cl := z.2.2.2.2.2.1) (o := y.2.2.2.2.1) (s := (hF (hG z.2.2.2.2.2.2.2 z.1 y.2.2.2.2.1 (hB z.2.1 y.1)) (hB z.2.1 y.1), y.2.1, 0)) (hF_b (hB_b y1)) y2 rfl z.2.2.1
  refine ⟨hCo_b b.1, b.2.1, Nat.min_le_right _ _, Nat.min_le_right _ _, ?_⟩
  have : 2 ^ z.2.2.1 ≤ 2 ^ 8 := Nat.pow_le_pow_right (by omega) z3
  exact Nat.lt_of_lt_of_le b.2.2 this
theorem hrN_b {z : hZ} {y : hY} (hz : ZB z) (hy : YB y) : ∀ n, YB (hrN z y n) := by
  intro n
  induction n with
  | zero => exact hy
  | succ n ih => exact hr_b hz ih
theorem hrN_o {z : hZ} {y : hY} : ∀ n, (hrN z y n).2.2.2.2.1 = y.2.2.2.2.1 + n := by
  intro n
  induction n with
  | zero => rfl
  | succ n ih => show (hrN z y n).2.2.2.2.1 + 1 = _; rw [ih]; rfl
