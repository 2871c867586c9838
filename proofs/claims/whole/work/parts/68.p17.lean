/-! PURE 17: steps: houses -/
theorem h7t {i n : Nat} (hi : i < n) (hn : n ≤ 8) {P : Int32 → Prop} (hp : P 1) : wp_X7_isHouse (nI i) (nI n) P := br_f (nI_pos (by omega)) (br_f (nI_ge hi (by omega)) (br_f (nI_ge (a := i) (b := 8) (by omega) (by omega)) hp))
theorem h7f {a : Int32} {n : Nat} (h : ¬ ∃ i, i < n ∧ a = nI i) (hn : n ≤ 8) {P : Int32 → Prop} (hp : P 0) : wp_X7_isHouse a (nI n) P := ⟨fun _ => hp, fun q => ⟨fun _ => hp, fun z => by
  obtain ⟨j, hj, rfl⟩ := nI_of q
  exact absurd ⟨j, by have := Int32.not_le.mp z; exact (nI_ltI (by omega) (by omega)).mp this, rfl⟩ h⟩⟩
theorem hle {a : Int32} {n : Nat} (hn : n ≤ 8) : (0 ≤ a ∧ a ≤ nI n - (1 : Int32)) ↔ ∃ i, i < n ∧ a = nI i := by
  have e : (nI n - (1 : Int32)).toInt = (n : Int) - 1 := nI_subI (a := n) (b := 1) (by omega) (by omega)
  refine ⟨fun ⟨h1, h2⟩ => ?_, fun ⟨i, hi, ea⟩ => ?_⟩
  · obtain ⟨j, hj, rfl⟩ := nI_of (Int32.not_lt.mpr h1)
    have := nI_leT.mp h2
    rw [e, nI_toInt hj] at this
    exact ⟨j, by omega, rfl⟩
  · subst ea
    refine ⟨nI_pos' (by omega), nI_leT.mpr ?_⟩
    rw [e, nI_toInt (by omega)]
    omega
theorem h8t {i n : Nat} (hi : i < n) (hn : n ≤ 8) {d : Nat → Int32} (e : d 0 = nI n) {P : Int32 → Prop} (hp : P 1) : wp_X8_isHouse (nI i) d P := by
  unfold wp_X8_isHouse
  rw [kc0, e]
  exact w8t 0 (nI n - 1) ((hle hn).mpr ⟨i, hi, rfl⟩) hp
theorem h8f {a : Int32} {n : Nat} (h : ¬ ∃ i, i < n ∧ a = nI i) (hn : n ≤ 8) {d : Nat → Int32} (e : d 0 = nI n) {P : Int32 → Prop} (hp : P 0) : wp_X8_isHouse a d P := by
  unfold wp_X8_isHouse
  rw [kc0, e]
  exact w8f 0 (nI n - 1) (fun q => h ((hle hn).mp q)) hp
/-- one of a few numbers -/
theorem few (m : Nat) (hm : m < 2 ^ 31) (a : Int32) : (∃ j, j ≤ m ∧ a = nI j) ∨ ¬ (0 ≤ a ∧ a ≤ nI m) := by
  by_cases q : 0 ≤ a ∧ a ≤ nI m
  · exact .inl (rg hm q)
  · exact .inr q
theorem few_in {m j : Nat} (hm : m < 2 ^ 31) (h : j ≤ m) : 0 ≤ nI j ∧ nI j ≤ nI m := ⟨nI_pos' (by omega), nI_le h hm⟩
theorem few_no {m : Nat} (hm : m < 2 ^ 31) {a : Int32} (h : ¬ (0 ≤ a ∧ a ≤ nI m)) {j : Nat} (hj : j ≤ m) : ¬ a = nI j := fun e => h (by rw [e]; exact few_in hm hj)
theorem st_house : ST_house Rel := by
  intro cs ms h a1 a2
  obtain ⟨hT, hK, hC, hE, hV, s0, s1, s2, s3⟩ := id h
  have er := er_up hE (k := 1) (by omega)
  by_cases g1 : 0 ≤ a1 ∧ a1 ≤ 69
  · by_cases g2 : 0 ≤ a2 ∧ a2 ≤ 15
    · obtain ⟨t, a, b, i1, i2, i3, i4, i5, i6, i7⟩ := id hT
      have iO : TO _ _ _ _ _ _ _ a b _ := ⟨i5, i6, i7⟩
      obtain ⟨f1, f2, f3, f4, f5, f6, f7, f8, f9, f10, f11, f12⟩ := id i3
      have m := i4.1
      refine w7t g1 (yes (c7t g2 (yes ?_)))
      obtain ⟨k, hk, rfl⟩ := rg (m := 69) (by omega) g1
      obtain ⟨c, hc, rfl⟩ := rg (m := 15) (by omega) g2
      have hn := i1.1.2.2.1
      rw [f6]
      by_cases q : t.1.2.2.1 < 8
      · refine br_t (nI_lt (b := 8) q (by omega)) ⟨ix q (by omega), ix q (by omega), ix q (by omega), w8t 0 69 g1 (yes (c8t g2 (yes ?_)))⟩
        rw [kc0, m.1]
        refine br_f (fun z => ?_) ?_
        · have := (nI_eq (a := t.1.2.2.1) (b := 8) (by omega) (by omega)).mp z
          omega
        rw [nI_clamp (by omega), show nI k / (10 : Int32) = nI (k / 10) from pk_div (d := 10) (by omega) (by omega) (by omega), show vrem (nI k) (10 : Int32) = nI (k % 10) from vrem_nI (b := 10) (by omega) (by omega) (by omega)]
        refine p8_sets (w := 0) q (by omega) (p8_sets (w := 1) q (by omega) (p8_sets (w := 2) q (by omega) (p8_sets (w := 3) q (by omega) ?_)))
        have r1 := RDh_0 m q (k / 10)
        have r2 := RDh_1 r1 q (k % 10)
        have r3 := RDh_2 r2 q c
        have r4 := RDh_3 r3 q 0
        have r5 := RD_0 r4 (t.1.2.2.1 + 1)
        have k1 : kp (ms.2.1 0) (upd (ms.2.1 0) (25 + 4 * t.1.2.2.1 + 0) (nI (k / 10))) := kp_up (by omega) (by omega) (by omega) (by omega)
        have k2 := kp_tr k1 (kp_up (k := 25 + 4 * t.1.2.2.1 + 1) (x := nI (k % 10)) (by omega) (by omega) (by omega) (by omega))
        have k3 := kp_tr k2 (kp_up (k := 25 + 4 * t.1.2.2.1 + 2) (x := nI c) (by omega) (by omega) (by omega) (by omega))
        have k4 := kp_tr k3 (kp_up (k := 25 + 4 * t.1.2.2.1 + 3) (x := nI 0) (by omega) (by omega) (by omega) (by omega))
        have k5 := kp_tr k4 (kp_up (k := 0) (x := nI (t.1.2.2.1 + 1)) (by omega) (by omega) (by omega) (by omega))
        rw [show (upd (upd (upd (upd (ms.2.1 0) (25 + 4 * t.1.2.2.1 + 0) (nI (k / 10))) (25 + 4 * t.1.2.2.1 + 1) (nI (k % 10))) (25 + 4 * t.1.2.2.1 + 2) (nI c)) (25 + 4 * t.1.2.2.1 + 3) (0 : Int32)) 0 = nI t.1.2.2.1 from r4.1, nI_1]
        obtain ⟨⟨z1, z2, z3, z4, z5, z6, z7, z8⟩, ⟨y1, y2, y3, y4, y5⟩, zr⟩ := i1
        refine ⟨rfl, ⟨((t.1.1, t.1.2.1, t.1.2.2.1 + 1, va_up t.1.2.2.2.1 t.1.2.2.1 (k / 10), va_up t.1.2.2.2.2.1 t.1.2.2.1 (k % 10), va_up t.1.2.2.2.2.2.1 t.1.2.2.1 c, t.1.2.2.2.2.2.2), (t.2.1.1, va_up t.2.1.2.1 t.1.2.2.1 0, t.2.1.2.2), t.2.2), a, b, ⟨⟨z1, z2, q, fun i hi => ?_, fun i hi => ?_, fun i hi => ?_, z7, z8⟩, ⟨y1, fun i hi => ?_, y3, y4, y5⟩, zr⟩, i2, ⟨f1, f2, f3, f4, f5, rfl, f7, f8, fun i hi => ?_, fun i hi => ?_, fun i hi => ?_, f12⟩, TM_kp i4 k5 r5, TO_kp iO k5⟩, hK, hC, hE, hV, s0, s1, s2, s3⟩
        · show va_up _ _ _ i ≤ 6
          unfold va_up; split
          · omega
          · exact z4 i hi
        · show va_up _ _ _ i ≤ 9
          unfold va_up; split
          · omega
          · exact z5 i hi
        · show va_up _ _ _ i < 16
          unfold va_up; split
          · omega
          · exact z6 i hi
        · show va_up _ _ _ i ≤ 9999
          unfold va_up; split
          · omega
          · exact y2 i hi
        · show upd _ _ _ i = nI (10 * va_up _ _ _ i + va_up _ _ _ i)
          unfold upd va_up
          by_cases e : i = t.1.2.2.1
          · rw [if_pos e, if_pos e, if_pos e]; congr 1; omega
          · rw [if_neg e, if_neg e, if_neg e]; exact f9 i hi
        · show upd _ _ _ i = nI (va_up _ _ _ i)
          unfold upd va_up
          by_cases e : i = t.1.2.2.1
          · rw [if_pos e, if_pos e]
          · rw [if_neg e, if_neg e]; exact f10 i hi
        · show upd _ _ _ i = nI (va_up _ _ _ i)
          unfold upd va_up
          by_cases e : i = t.1.2.2.1
          · rw [if_pos e, if_pos e]; rfl
          · rw [if_neg e, if_neg e]; exact f11 i hi
      · have e8' : t.1.2.2.1 = 8 := by omega
        have er4 := er_up hE (k := 4) (by omega)
        refine br_f (fun z => ?_) (e7 4 (by omega) (w8t 0 69 g1 (yes (c8t g2 (yes ?_)))))
        · have := (nI_ltI (a := t.1.2.2.1) (b := 8) (by omega) (by omega)).mp z
          omega
        · rw [kc0, m.1]
          refine br_t (by rw [e8']; rfl) (e8 4 (by omega) ⟨rfl, ?_⟩)
          rw [← f6]
          exact ⟨hT, hK, hC, er4, hV, s0, s1, s2, s3⟩
    · exact w7t g1 (yes (c7f g2 (no (e7 1 (by omega) (w8t 0 69 g1 (yes (c8f g2 (no (e8 1 (by omega) ⟨rfl, hT, hK, hC, er, hV, s0, s1, s2, s3⟩)))))))))
  · exact w7f g1 (no (e7 1 (by omega) (w8f 0 69 g1 (no (e8 1 (by omega) ⟨rfl, hT, hK, hC, er, hV, s0, s1, s2, s3⟩)))))
theorem p5_leastOf {i k m o : Nat} (hi : i < 8) (hk : k ≤ 6) (hm : m ≤ 9) (ho : o ≤ 20000) {km : Nat → Int32} (e : km i = nI (10 * k + m)) {P : Int32 → Prop} (h : P (nI (hLe k m o))) : wp_X5_leastOf (nI i) (nI o) km P := p5_kindOf hi hm hk e (p5_mOf hi hm hk e (p0_least hk hm ho h))
theorem p5_mostOf {i k m : Nat} (hi : i < 8) (hk : k ≤ 6) (hm : m ≤ 9) {km : Nat → Int32} (e : km i = nI (10 * k + m)) {P : Int32 → Prop} (h : P (nI (hMo k))) : wp_X5_mostOf (nI i) km P := p5_kindOf hi hm hk e (p0_most hk h)
theorem st_ofHouse : ST_ofHouse Rel := by
  intro cs ms h a1 a2
  obtain ⟨hT, hK, hC, hE, hV, s0, s1, s2, s3⟩ := id h
  have er := er_up hE (k := 1) (by omega)
  obtain ⟨t, a, b, i1, i2, i3, i4, i5, i6, i7⟩ := id hT
  obtain ⟨f1, f2, f3, f4, f5, f6, f7, f8, f9, f10, f11, f12⟩ := id i3
  obtain ⟨m1, m2, m3, m4, m5, m6, m7, m8⟩ := i4.1
  obtain ⟨⟨z1, z2, z3, z4, z5, z6, z7, z8⟩, ⟨y1, y2, y3, y4, y5⟩, zr⟩ := id i1
  unfold wp_X7_ofHouse
  rw [f6]
  by_cases g1 : ∃ i, i < t.1.2.2.1 ∧ a1 = nI i
  · obtain ⟨i, hi, rfl⟩ := g1
    have i8 : i < 8 := by omega
    obtain ⟨n1, n2, n3, n4⟩ := m8 i i8
    have ek := f9 i i8
    have ec := f10 i i8
    have hcl := z6 i i8
    have eh := f8 _ hcl
    have hh := y1 _ hcl
    have bT := hTk_le (k := t.1.2.2.2.1 i) (o := t.2.1.2.2.2.2.1)
    refine h7t hi z3 (yes ?_)
    rw [f5]
    rcases few 7 (by omega) a2 with ⟨j, hj, rfl⟩ | g2
    · have ne : ∀ (x y : Nat), x < 8 → y < 8 → x ≠ y → ¬ nI x = nI y := fun x y hx hy n e => n ((nI_eq (by omega) (by omega)).mp e)
      have rs : ∀ {P : Int32 → (Nat → Int32) → Prop}, ((nI j = (4 : Int32) → (wp_X8_least (nI i) (ms.2.1 0) (fun r_7 => P r_7 (ms.2.1 3)))) ∧ (nI j = (5 : Int32) → (wp_X8_most (nI i) (ms.2.1 0) (fun r_9 => P r_9 (ms.2.1 3)))) ∧ (nI j = (6 : Int32) → (wp_X8_drains (nI i) (ms.2.1 0) (fun r_11 => wp_X8_of (nI i) (2 : Int32) (ms.2.1 0) (fun r_12 => vp_in ((9 : Int32) + r_12) 229 ∧ (wp_X8_held r_11 (0 : Int32) ((ms.2.1 0) ((9 : Int32) + r_12).toNatClampNeg) (fun r_13 => P r_13 (ms.2.1 3))))))) ∧ (nI j = (7 : Int32) → (wp_X8_isContent (nI i) (ms.2.1 0) (fun r_15 => (r_15 = 0 → (P (0 : Int32) (ms.2.1 3))) ∧ (¬ r_15 = 0 → (P (1 : Int32) (ms.2.1 3)))))) ∧ (¬ nI j = (4 : Int32) → ¬ nI j = (5 : Int32) → ¬ nI j = (6 : Int32) → ¬ nI j = (7 : Int32) → (wp_X8_of (nI i) (nI j) (ms.2.1 0) (fun r_18 => P r_18 (ms.2.1 3))))) → wp_X8_ofHouse (nI i) (nI j) (ms.2.1 0) (ms.2.1 3) P := fun p => h8t hi z3 m1 (yes (w8t 0 7 (few_in (m := 7) (by omega) hj) (yes p)))
      have low : j < 4 → ∀ {P : Int32 → (Nat → Int32) → Prop}, P ((ms.2.1 0) (25 + 4 * i + j)) (ms.2.1 3) → wp_X8_ofHouse (nI i) (nI j) (ms.2.1 0) (ms.2.1 3) P := fun l {P} p => rs ⟨fun e => absurd e (ne j 4 (by omega) (by omega) (by omega)), fun e => absurd e (ne j 5 (by omega) (by omega) (by omega)), fun e => absurd e (ne j 6 (by omega) (by omega) (by omega)), fun e => absurd e (ne j 7 (by omega) (by omega) (by omega)), fun _ _ _ _ => p8_of i8 l p⟩
      have q : j = 0 ∨ j = 1 ∨ j = 2 ∨ j = 3 ∨ j = 4 ∨ j = 5 ∨ j = 6 ∨ j = 7 := by omega
      rcases q with rfl | rfl | rfl | rfl | rfl | rfl | rfl | rfl
      · exact ⟨fun _ => p5_kindOf i8 (z5 i i8) (z4 i i8) ek (low (by omega) ⟨n1.symm, h⟩), fun e => absurd e (by decide), fun e => absurd e (by decide), fun e => absurd e (by decide), fun e => absurd e (by decide), fun e => absurd e (by decide), fun e => absurd e (by decide), fun e => absurd e (by decide), fun e => absurd rfl e⟩
      · exact ⟨fun e => absurd e (by decide), fun _ => p5_mOf i8 (z5 i i8) (z4 i i8) ek (low (by omega) ⟨n2.symm, h⟩), fun e => absurd e (by decide), fun e => absurd e (by decide), fun e => absurd e (by decide), fun e => absurd e (by decide), fun e => absurd e (by decide), fun e => absurd e (by decide), fun _ e => absurd rfl e⟩
      · refine ⟨fun e => absurd e (by decide), fun e => absurd e (by decide), fun _ => ⟨ix i8 (by omega), low (by omega) ⟨?_, h⟩⟩, fun e => absurd e (by decide), fun e => absurd e (by decide), fun e => absurd e (by decide), fun e => absurd e (by decide), fun e => absurd e (by decide), fun _ _ e => absurd rfl e⟩
        rw [nI_clamp (by omega)]
        exact ec.trans n3.symm
      · refine ⟨fun e => absurd e (by decide), fun e => absurd e (by decide), fun e => absurd e (by decide), fun _ => ⟨ix i8 (by omega), low (by omega) ⟨?_, h⟩⟩, fun e => absurd e (by decide), fun e => absurd e (by decide), fun e => absurd e (by decide), fun e => absurd e (by decide), fun _ _ _ e => absurd rfl e⟩
        rw [nI_clamp (by omega)]
        exact (f11 i i8).trans n4.symm
      · exact ⟨fun e => absurd e (by decide), fun e => absurd e (by decide), fun e => absurd e (by decide), fun e => absurd e (by decide), fun _ => p5_leastOf i8 (z4 i i8) (z5 i i8) (by omega) ek (rs ⟨fun _ => p8_least i8 (z4 i i8) (z5 i i8) (by omega) n1 n2 m2 ⟨rfl, h⟩, fun e => absurd e (by decide), fun e => absurd e (by decide), fun e => absurd e (by decide), fun e => absurd rfl e⟩), fun e => absurd e (by decide), fun e => absurd e (by decide), fun e => absurd e (by decide), fun _ _ _ _ e => absurd rfl e⟩
      · exact ⟨fun e => absurd e (by decide), fun e => absurd e (by decide), fun e => absurd e (by decide), fun e => absurd e (by decide), fun e => absurd e (by decide), fun _ => p5_mostOf i8 (z4 i i8) (z5 i i8) ek (rs ⟨fun e => absurd e (by decide), fun _ => p8_most i8 (z4 i i8) n1 ⟨rfl, h⟩, fun e => absurd e (by decide), fun e => absurd e (by decide), fun _ e => absurd rfl e⟩), fun e => absurd e (by decide), fun e => absurd e (by decide), fun _ _ _ _ _ e => absurd rfl e⟩
      · refine ⟨fun e => absurd e (by decide), fun e => absurd e (by decide), fun e => absurd e (by decide), fun e => absurd e (by decide), fun e => absurd e (by decide), fun e => absurd e (by decide), fun _ => p5_takesOf i8 (z5 i i8) (z4 i i8) (by omega) hcl (by omega) ek ec eh (rs ⟨fun e => absurd e (by decide), fun e => absurd e (by decide), fun _ => p8_drains i8 (z4 i i8) (by omega) n1 m2 (p8_of (w := 2) i8 (by omega) ?_), fun e => absurd e (by decide), fun _ _ e => absurd rfl e⟩), fun e => absurd e (by decide), fun _ _ _ _ _ _ e => absurd rfl e⟩
        rw [n3]
        refine ⟨v9 (by omega), ?_⟩
        rw [i9 (by omega), m7 _ hcl]
        exact p8_heldN (by omega) (by omega) ⟨rfl, h⟩
      · refine ⟨fun e => absurd e (by decide), fun e => absurd e (by decide), fun e => absurd e (by decide), fun e => absurd e (by decide), fun e => absurd e (by decide), fun e => absurd e (by decide), fun e => absurd e (by decide), fun _ => p5_isContent i8 (z5 i i8) (z4 i i8) (by omega) hcl (by omega) ek ec eh (fun g => yes (rs ⟨fun e => absurd e (by decide), fun e => absurd e (by decide), fun e => absurd e (by decide), fun _ => p8_isContent i8 (z5 i i8) (z4 i i8) (by omega) hcl (Nat.le_trans hh (by omega)) n1 n2 n3 m2 (m7 _ hcl) (fun _ => yes ⟨rfl, h⟩) (fun g' => absurd g g'), fun _ _ _ e => absurd rfl e⟩)) (fun g => no (rs ⟨fun e => absurd e (by decide), fun e => absurd e (by decide), fun e => absurd e (by decide), fun _ => p8_isContent i8 (z5 i i8) (z4 i i8) (by omega) hcl (Nat.le_trans hh (by omega)) n1 n2 n3 m2 (m7 _ hcl) (fun g' => absurd g' g) (fun _ => no ⟨rfl, h⟩), fun _ _ _ e => absurd rfl e⟩)), fun _ _ _ _ _ _ _ e => absurd rfl e⟩
    · have nn : ∀ j : Nat, j ≤ 7 → ¬ a2 = nI j := fun j hj => few_no (m := 7) (by omega) g2 hj
      exact ⟨fun e => absurd e (nn 0 (by omega)), fun e => absurd e (nn 1 (by omega)), fun e => absurd e (nn 2 (by omega)), fun e => absurd e (nn 3 (by omega)), fun e => absurd e (nn 4 (by omega)), fun e => absurd e (nn 5 (by omega)), fun e => absurd e (nn 6 (by omega)), fun e => absurd e (nn 7 (by omega)), fun _ _ _ _ _ _ _ _ => e7 1 (by omega) (h8t hi z3 m1 (yes (w8f 0 7 g2 (no (e8 1 (by omega) ⟨rfl, hT, hK, hC, er, hV, s0, s1, s2, s3⟩)))))⟩
  · exact h7f g1 z3 (no (e7 1 (by omega) (h8f g1 z3 m1 (no (e8 1 (by omega) ⟨rfl, hT, hK, hC, er, hV, s0, s1, s2, s3⟩)))))
