/-! PURE 18: steps: houses, their numbers; what is counted -/
theorem iof2 {i w : Nat} (hi : i < 8) (hw : w < 2) : ((((25 : Int32) + ((4 : Int32) * nI i)) + (2 : Int32)) + nI w) = nI (25 + 4 * i + (2 + w)) := by
  rw [show (((25 : Int32) + ((4 : Int32) * nI i)) + (2 : Int32)) = nI (25 + 4 * i + 2) from iof (w := 2) hi (by omega), nI_add]
  congr 1
  omega
theorem st_change : ST_change Rel := by
  intro cs ms h a1 a2 a3
  obtain ⟨hT, hK, hC, hE, hV, s0, s1, s2, s3⟩ := id h
  have er := er_up hE (k := 1) (by omega)
  obtain ⟨t, a, b, i1, i2, i3, i4, i5, i6, i7⟩ := id hT
  have iO : TO _ _ _ _ _ _ _ a b _ := ⟨i5, i6, i7⟩
  obtain ⟨f1, f2, f3, f4, f5, f6, f7, f8, f9, f10, f11, f12⟩ := id i3
  obtain ⟨m1, m2, m3, m4, m5, m6, m7, m8⟩ := i4.1
  obtain ⟨⟨z1, z2, z3, z4, z5, z6, z7, z8⟩, ⟨y1, y2, y3, y4, y5⟩, zr⟩ := id i1
  unfold wp_X7_change
  rw [f6]
  by_cases g1 : ∃ i, i < t.1.2.2.1 ∧ a1 = nI i
  · obtain ⟨i, hi, rfl⟩ := g1
    have i8 : i < 8 := by omega
    obtain ⟨n1, n2, n3, n4⟩ := m8 i i8
    refine h7t hi z3 (yes ?_)
    rcases few 1 (by omega) a2 with ⟨j, hj, rfl⟩ | g2
    · have q : j = 0 ∨ j = 1 := by omega
      rcases q with rfl | rfl
      · refine br_t rfl ?_
        by_cases g3 : 0 ≤ a3 ∧ a3 ≤ 15
        · obtain ⟨c, hc, rfl⟩ := rg (m := 15) (by omega) g3
          refine c7t g3 (yes ⟨ix i8 (by omega), ix i8 (by omega), h8t hi z3 m1 (yes (w8t 0 1 (by decide) (yes (br_t rfl (w8t 0 15 g3 (yes (p8_becomes (k := 25 + 4 * i + 2) (by omega) (iof2 (w := 0) i8 (by omega)) ?_)))))))⟩)
          have k2 : kp (ms.2.1 0) (upd (ms.2.1 0) (25 + 4 * i + 2) (nI c)) := kp_up (by omega) (by omega) (by omega) (by omega)
          rw [nI_clamp (by omega)]
          refine ⟨(f10 i i8).trans n3.symm, ⟨((t.1.1, t.1.2.1, t.1.2.2.1, t.1.2.2.2.1, t.1.2.2.2.2.1, va_up t.1.2.2.2.2.2.1 i c, t.1.2.2.2.2.2.2), t.2), a, b, ⟨⟨z1, z2, z3, z4, z5, fun l hl => ?_, z7, z8⟩, ⟨y1, y2, y3, y4, y5⟩, zr⟩, i2, ⟨f1, f2, f3, f4, f5, f6, f7, f8, f9, fun l hl => ?_, f11, f12⟩, TM_kp i4 k2 (RDh_2 i4.1 i8 c), TO_kp iO k2⟩, hK, hC, hE, hV, s0, s1, s2, s3⟩
          · show va_up _ _ _ l < 16
            unfold va_up; split
            · omega
            · exact z6 l hl
          · show upd _ _ _ l = nI (va_up _ _ _ l)
            unfold upd va_up
            by_cases e : l = i
            · rw [if_pos e, if_pos e]
            · rw [if_neg e, if_neg e]; exact f10 l hl
        · exact c7f g3 (no (br_f (by decide) (e7 1 (by omega) (h8t hi z3 m1 (yes (w8t 0 1 (by decide) (yes (br_t rfl (w8f 0 15 g3 (no (e8 1 (by omega) ⟨rfl, hT, hK, hC, er, hV, s0, s1, s2, s3⟩))))))))))) 
      · refine br_f (by decide) (br_t rfl ?_)
        by_cases g3 : 0 ≤ a3 ∧ a3 ≤ 9999
        · obtain ⟨c, hc, rfl⟩ := rg (m := 9999) (by omega) g3
          refine w7t g3 (yes ⟨ix i8 (by omega), ix i8 (by omega), h8t hi z3 m1 (yes (w8t 0 1 (by decide) (yes (br_f (by decide) (w8t 0 9999 g3 (yes (p8_becomes (k := 25 + 4 * i + 3) (by omega) (iof2 (w := 1) i8 (by omega)) ?_)))))))⟩)
          have k2 : kp (ms.2.1 0) (upd (ms.2.1 0) (25 + 4 * i + 3) (nI c)) := kp_up (by omega) (by omega) (by omega) (by omega)
          rw [nI_clamp (by omega)]
          refine ⟨(f11 i i8).trans n4.symm, ⟨(t.1, (t.2.1.1, va_up t.2.1.2.1 i c, t.2.1.2.2), t.2.2), a, b, ⟨⟨z1, z2, z3, z4, z5, z6, z7, z8⟩, ⟨y1, fun l hl => ?_, y3, y4, y5⟩, zr⟩, i2, ⟨f1, f2, f3, f4, f5, f6, f7, f8, f9, f10, fun l hl => ?_, f12⟩, TM_kp i4 k2 (RDh_3 i4.1 i8 c), TO_kp iO k2⟩, hK, hC, hE, hV, s0, s1, s2, s3⟩
          · show va_up _ _ _ l ≤ 9999
            unfold va_up; split
            · omega
            · exact y2 l hl
          · show upd _ _ _ l = nI (va_up _ _ _ l)
            unfold upd va_up
            by_cases e : l = i
            · rw [if_pos e, if_pos e]
            · rw [if_neg e, if_neg e]; exact f11 l hl
        · exact w7f g3 (no (e7 1 (by omega) (h8t hi z3 m1 (yes (w8t 0 1 (by decide) (yes (br_f (by decide) (w8f 0 9999 g3 (no (e8 1 (by omega) ⟨rfl, hT, hK, hC, er, hV, s0, s1, s2, s3⟩))))))))))
    · exact br_f (few_no (m := 1) (by omega) g2 (j := 0) (by omega)) (br_f (few_no (m := 1) (by omega) g2 (j := 1) (by omega)) (e7 1 (by omega) (h8t hi z3 m1 (yes (w8f 0 1 g2 (no (e8 1 (by omega) ⟨rfl, hT, hK, hC, er, hV, s0, s1, s2, s3⟩)))))))
  · exact h7f g1 z3 (no (e7 1 (by omega) (h8f g1 z3 m1 (no (e8 1 (by omega) ⟨rfl, hT, hK, hC, er, hV, s0, s1, s2, s3⟩)))))
theorem st_become : ST_become Rel := by
  intro cs ms h a1 a2
  obtain ⟨hT, hK, hC, hE, hV, s0, s1, s2, s3⟩ := id h
  have er := er_up hE (k := 1) (by omega)
  obtain ⟨t, a, b, i1, i2, i3, i4, i5, i6, i7⟩ := id hT
  have iO : TO _ _ _ _ _ _ _ a b _ := ⟨i5, i6, i7⟩
  obtain ⟨f1, f2, f3, f4, f5, f6, f7, f8, f9, f10, f11, f12⟩ := id i3
  obtain ⟨m1, m2, m3, m4, m5, m6, m7, m8⟩ := i4.1
  obtain ⟨⟨z1, z2, z3, z4, z5, z6, z7, z8⟩, ⟨y1, y2, y3, y4, y5⟩, zr⟩ := id i1
  unfold wp_X7_become
  rw [f6]
  by_cases g1 : ∃ i, i < t.1.2.2.1 ∧ a1 = nI i
  · obtain ⟨i, hi, rfl⟩ := g1
    have i8 : i < 8 := by omega
    obtain ⟨n1, n2, n3, n4⟩ := m8 i i8
    refine h7t hi z3 (yes ?_)
    by_cases g2 : 0 ≤ a2 ∧ a2 ≤ 69
    · obtain ⟨k, hk, rfl⟩ := rg (m := 69) (by omega) g2
      refine w7t g2 (yes (p5_kindOf i8 (z5 i i8) (z4 i i8) (f9 i i8) ⟨ix i8 (by omega), h8t hi z3 m1 (yes (w8t 0 69 g2 (yes ?_)))⟩))
      rw [nI_clamp (by omega), show nI k / (10 : Int32) = nI (k / 10) from pk_div (d := 10) (by omega) (by omega) (by omega), show vrem (nI k) (10 : Int32) = nI (k % 10) from vrem_nI (b := 10) (by omega) (by omega) (by omega)]
      refine p8_sets (w := 1) i8 (by omega) (p8_becomes (k := 25 + 4 * i + 0) (by omega) ?_ ?_)
      · rw [show (4 : Int32) * nI i = nI (4 * i) from pk_mul 4 i]
        exact nI_add 25 _
      have r1 := RDh_1 i4.1 i8 (k % 10)
      have r2 := RDh_0 r1 i8 (k / 10)
      have k1 : kp (ms.2.1 0) (upd (ms.2.1 0) (25 + 4 * i + 1) (nI (k % 10))) := kp_up (by omega) (by omega) (by omega) (by omega)
      have k2 := kp_tr k1 (kp_up (k := 25 + 4 * i + 0) (x := nI (k / 10)) (by omega) (by omega) (by omega) (by omega))
      refine ⟨?_, ⟨((t.1.1, t.1.2.1, t.1.2.2.1, va_up t.1.2.2.2.1 i (k / 10), va_up t.1.2.2.2.2.1 i (k % 10), t.1.2.2.2.2.2), t.2), a, b, ⟨⟨z1, z2, z3, fun l hl => ?_, fun l hl => ?_, z6, z7, z8⟩, ⟨y1, y2, y3, y4, y5⟩, zr⟩, i2, ⟨f1, f2, f3, f4, f5, f6, f7, f8, fun l hl => ?_, f10, f11, f12⟩, TM_kp i4 k2 r2, TO_kp iO k2⟩, hK, hC, hE, hV, s0, s1, s2, s3⟩
      · unfold upd; rw [if_neg (by omega)]; exact n1.symm
      · show va_up _ _ _ l ≤ 6
        unfold va_up; split
        · omega
        · exact z4 l hl
      · show va_up _ _ _ l ≤ 9
        unfold va_up; split
        · omega
        · exact z5 l hl
      · show upd _ _ _ l = nI (10 * va_up _ _ _ l + va_up _ _ _ l)
        unfold upd va_up
        by_cases e : l = i
        · rw [if_pos e, if_pos e, if_pos e]; congr 1; omega
        · rw [if_neg e, if_neg e, if_neg e]; exact f9 l hl
    · exact w7f g2 (no (e7 1 (by omega) (h8t hi z3 m1 (yes (w8f 0 69 g2 (no (e8 1 (by omega) ⟨rfl, hT, hK, hC, er, hV, s0, s1, s2, s3⟩)))))))
  · exact h7f g1 z3 (no (e7 1 (by omega) (h8f g1 z3 m1 (no (e8 1 (by omega) ⟨rfl, hT, hK, hC, er, hV, s0, s1, s2, s3⟩)))))
/-- the kind above a kind -/
def abv (k : Nat) : Nat := if k ≤ 3 then 0 else k - 3
def undr (k u : Nat) : Prop := u = 0 ∨ k = u ∨ abv k = u
theorem p0_isKind {k : Nat} (hk : k ≤ 6) {P : Int32 → Prop} (h : P 1) : wp_X0_isKind (nI k) P := br_f (nI_pos (by omega)) (br_f (nI_ge (a := k) (b := 7) (by omega) (by omega)) h)
theorem p0_isKindF {a : Int32} (hk : ¬ (0 ≤ a ∧ a ≤ 6)) {P : Int32 → Prop} (h : P 0) : wp_X0_isKind a P := ⟨fun _ => h, fun q => ⟨fun _ => h, fun z => by
  obtain ⟨j, hj, rfl⟩ := nI_of q
  have := (nI_ltI (a := j) (b := 7) hj (by omega)).mp (Int32.not_le.mp z)
  exact absurd (few_in (m := 6) (by omega) (by omega)) hk⟩⟩
theorem p0_above {k : Nat} (h1 : 1 ≤ k) (hk : k ≤ 6) {P : Int32 → Prop} (h : P (nI (abv k))) : wp_X0_above (nI k) P := by
  refine p0_isKind hk (yes ⟨ix (by omega) (by omega), ?_⟩)
  rw [nI_clamp (by omega)]
  have : ∀ k, k ≤ 6 → 1 ≤ k → vAbove k = nI (abv k) := by decide +kernel
  rw [this k hk h1]; exact h
theorem p0_above0 {P : Int32 → Prop} (h : P (-1)) : wp_X0_above (nI 0) P := by
  refine p0_isKind (by omega) (yes ⟨ix (by omega) (by omega), ?_⟩)
  rw [nI_clamp (by omega)]; exact h
theorem p0_aboveM {P : Int32 → Prop} (h : P (-1)) : wp_X0_above (-1) P := p0_isKindF (by decide) (no h)
theorem p0_isUnder {k u : Nat} (hk : k ≤ 6) (hu : u ≤ 6) {P : Int32 → Prop} (h1 : undr k u → P 1) (h0 : ¬ undr k u → P 0) : wp_X0_isUnder (nI k) (nI u) P := by
  have ne : ∀ x y : Nat, x ≤ 6 → y ≤ 6 → x ≠ y → ¬ nI x = nI y := fun x y hx hy n e => n ((nI_eq (by omega) (by omega)).mp e)
  have nm : ¬ (-1 : Int32) = nI u := fun e => by
    have := congrArg Int32.toInt e
    rw [nI_toInt (by omega), show (-1 : Int32).toInt = -1 from by decide +kernel] at this
    omega
  have stepM : ∀ n : Nat, n ≤ 7 → P 0 → wp_X0_isUnder_b4 (nI u) P (n + 1) (-1) (nI (7 - n)) := by
    intro n
    induction n with
    | zero =>
      intro _ q
      exact br_t (by decide) (br_f nm q)
    | succ n ih =>
      intro hn q
      refine br_f (nI_ge (a := 7 - (n + 1)) (b := 7) (by omega) (by omega)) (br_f nm (p0_aboveM ?_))
      rw [nI_1, show 7 - (n + 1) + 1 = 7 - n by omega]
      exact ih (by omega) q
  have S0 : ∀ n : Nat, n + 1 ≤ 7 → (u = 0 → P 1) → (¬ u = 0 → P 0) → wp_X0_isUnder_b4 (nI u) P (n + 1 + 1) (nI 0) (nI (7 - (n + 1))) := fun n hn p1 p0 => by
    refine br_f (nI_ge (a := 7 - (n + 1)) (b := 7) (by omega) (by omega)) ?_
    by_cases e : u = 0
    · exact br_t (by rw [e]) (br_t (by rw [e]) (p1 e))
    · refine br_f (ne 0 u (by omega) hu (Ne.symm e)) (p0_above0 ?_)
      rw [nI_1, show 7 - (n + 1) + 1 = 7 - n by omega]
      exact stepM n (by omega) (p0 e)
  have S1 : ∀ n : Nat, ∀ j, 1 ≤ j → j ≤ 3 → n + 2 ≤ 7 → (u = 0 ∨ j = u → P 1) → (¬ (u = 0 ∨ j = u) → P 0) → wp_X0_isUnder_b4 (nI u) P (n + 2 + 1) (nI j) (nI (7 - (n + 2))) := fun n j j1 j3 hn p1 p0 => by
    refine br_f (nI_ge (a := 7 - (n + 2)) (b := 7) (by omega) (by omega)) ?_
    by_cases e : j = u
    · exact br_t (by rw [e]) (br_t (by rw [e]) (p1 (.inr e)))
    · refine br_f (ne j u (by omega) hu e) (p0_above j1 (by omega) ?_)
      rw [nI_1, show 7 - (n + 2) + 1 = 7 - (n + 1) by omega, show abv j = 0 by unfold abv; rw [if_pos j3]]
      exact S0 n (by omega) (fun q => p1 (.inl q)) (fun q => p0 (fun w => w.elim q e))
  have q : k = 0 ∨ (1 ≤ k ∧ k ≤ 3) ∨ 4 ≤ k := by omega
  refine ⟨8, ?_⟩
  rcases q with rfl | ⟨q1, q2⟩ | q1
  · exact S0 6 (by omega) (fun e => h1 (.inl e)) (fun e => h0 (fun w => by
      rcases w with w | w | w
      · exact e w
      · exact e w.symm
      · exact e w.symm))
  · exact S1 5 k q1 q2 (by omega) (fun e => h1 (e.elim .inl (fun w => .inr (.inl w)))) (fun e => h0 (fun w => by
      rcases w with w | w | w
      · exact e (.inl w)
      · exact e (.inr w)
      · unfold abv at w; rw [if_pos q2] at w; exact e (.inl w.symm)))
  · show wp_X0_isUnder_b4 (nI u) P (7 + 1) (nI k) (nI 0)
    refine br_f (by decide) ?_
    by_cases e : k = u
    · exact br_t (by rw [e]) (br_t (by rw [e]) (h1 (.inr (.inl e))))
    · refine br_f (ne k u hk hu e) (p0_above (by omega) hk ?_)
      have ak : abv k = k - 3 := by unfold abv; rw [if_neg (by omega)]
      rw [nI_1]
      refine S1 4 (abv k) (by omega) (by omega) (by omega) (fun w => h1 (w.elim .inl (fun w => .inr (.inr w)))) (fun w => h0 (fun v => ?_))
      rcases v with v | v | v
      · exact w (.inl v)
      · exact e v
      · exact w (.inr v)
theorem st_as : ST_as Rel := by
  intro cs ms h a1 a2
  obtain ⟨hT, hK, hC, hE, hV, s0, s1, s2, s3⟩ := id h
  have er := er_up hE (k := 1) (by omega)
  obtain ⟨t, a, b, i1, i2, i3, i4, i5, i6, i7⟩ := id hT
  obtain ⟨f1, f2, f3, f4, f5, f6, f7, f8, f9, f10, f11, f12⟩ := id i3
  obtain ⟨m1, m2, m3, m4, m5, m6, m7, m8⟩ := i4.1
  obtain ⟨⟨z1, z2, z3, z4, z5, z6, z7, z8⟩, ⟨y1, y2, y3, y4, y5⟩, zr⟩ := id i1
  unfold wp_X7_as
  rw [f6]
  by_cases g1 : ∃ i, i < t.1.2.2.1 ∧ a1 = nI i
  · obtain ⟨i, hi, rfl⟩ := g1
    have i8 : i < 8 := by omega
    obtain ⟨n1, n2, n3, n4⟩ := m8 i i8
    have hk := z4 i i8
    refine h7t hi z3 (yes ?_)
    rcases few 6 (by omega) a2 with ⟨u, hu, rfl⟩ | g2
    · refine p0_isKind hu (yes (p5_kindOf i8 (z5 i i8) (z4 i i8) (f9 i i8) ?_))
      have ne : ∀ x y : Nat, x ≤ 6 → y ≤ 6 → x ≠ y → ¬ nI x = nI y := fun x y hx hy n e => n ((nI_eq (by omega) (by omega)).mp e)
      have eq : ∀ x y : Nat, x ≤ 6 → y ≤ 6 → nI x = nI y → x = y := fun x y hx hy e => (nI_eq (by omega) (by omega)).mp e
      have ab : abv (t.1.2.2.2.1 i) ≤ 6 := by unfold abv; split <;> omega
      have up : ∀ {P : Int32 → Prop}, P (nI (abv (t.1.2.2.2.1 i))) → wp_X8_above (nI (t.1.2.2.2.1 i)) P := fun p => by
        unfold abv at p
        refine ⟨fun e => ?_, fun e => ?_⟩
        · rw [if_pos ((nI_leI (b := 3) (by omega) (by omega)).mp e)] at p; exact p
        · have w : ¬ t.1.2.2.2.1 i ≤ 3 := fun z => e ((nI_leI (b := 3) (by omega) (by omega)).mpr z)
          rw [if_neg w] at p
          rw [show nI (t.1.2.2.2.1 i) - (3 : Int32) = nI (t.1.2.2.2.1 i - 3) from pk_sub (b := 3) (by omega)]
          exact p
      have n1' : (ms.2.1 0) (25 + 4 * i + 0) = nI (t.1.2.2.2.1 i) := n1
      refine p0_isUnder hk hu (fun g => yes (p5_mOf i8 (z5 i i8) (z4 i i8) (f9 i i8) (h8t hi z3 m1 (yes (w8t 0 6 (few_in (m := 6) (by omega) hu) (yes (p8_of (w := 0) i8 (by omega) ?_))))))) (fun g => no (e7 5 (by omega) (h8t hi z3 m1 (yes (w8t 0 6 (few_in (m := 6) (by omega) hu) (yes (p8_of (w := 0) i8 (by omega) ?_)))))))
      · have fin : ∀ {P : Int32 → Prop}, P (nI (t.1.2.2.2.2.1 i)) → wp_X8_of (nI i) (1 : Int32) (ms.2.1 0) P := fun p => p8_of (w := 1) i8 (by omega) (by rw [n2]; exact p)
        rw [n1']
        by_cases e1 : u = 0
        · exact br_t (by rw [e1]; rfl) (fin ⟨rfl, h⟩)
        · refine br_f (fun z => e1 (eq u 0 (by omega) (by omega) z)) ?_
          by_cases e2 : t.1.2.2.2.1 i = u
          · exact br_t (by rw [e2]) (fin ⟨rfl, h⟩)
          · refine br_f (ne _ _ hk hu e2) (up ?_)
            by_cases e3 : abv (t.1.2.2.2.1 i) = u
            · exact br_t (by rw [e3]) (fin ⟨rfl, h⟩)
            · exact absurd g (fun w => by
                rcases w with w | w | w
                · exact e1 w
                · exact e2 w
                · exact e3 w)
      · rw [n1']
        have er5 := er_up hE (k := 5) (by omega)
        refine br_f (fun z => g (.inl (eq u 0 (by omega) (by omega) z))) (br_f (fun z => g (.inr (.inl (eq _ _ hk hu z)))) (up (br_f (fun z => g (.inr (.inr (eq _ _ ab hu z)))) (e8 5 (by omega) ⟨rfl, ?_⟩))))
        exact ⟨hT, hK, hC, er5, hV, s0, s1, s2, s3⟩
    · exact p0_isKindF g2 (no (e7 1 (by omega) (h8t hi z3 m1 (yes (w8f 0 6 g2 (no (e8 1 (by omega) ⟨rfl, hT, hK, hC, er, hV, s0, s1, s2, s3⟩)))))))
  · exact h7f g1 z3 (no (e7 1 (by omega) (h8f g1 z3 m1 (no (e8 1 (by omega) ⟨rfl, hT, hK, hC, er, hV, s0, s1, s2, s3⟩)))))
