/-! PURE 34: sheets: numbers moved -/
theorem subT {a b : Nat} (ha : a < 2 ^ 30) (hb : b < 2 ^ 31) : (nI a - nI b).toInt = (a : Int) - b := by
  rw [Int32.toInt_sub, nI_toInt (by omega), nI_toInt (by omega)]
  exact Int.bmod_eq_of_le (by omega) (by omega)
theorem p3_hasRunT {i len n : Nat} {many : Int32} (e : many = nI n) (h : i + len ≤ n) (hn : n ≤ 40) {P : Int32 → Prop} (p : P 1) : wp_X3_hasRun 40 (nI i) (nI len) many P := by
  subst e
  refine br_f (nI_pos (by omega)) (br_f (nI_pos (by omega)) (br_f (nI_nlt (by omega) (by omega)) (br_f ?_ (br_f (nI_nlt (a := 40) (by omega) (by omega)) p))))
  rw [pk_sub (by omega)]
  exact nI_nlt (by omega) (by omega)
theorem p3_hasRunF {n : Nat} {many a1 a2 : Int32} (e : many = nI n) (hn : n ≤ 40) (h : ¬ ∃ i len, a1 = nI i ∧ a2 = nI len ∧ i + len ≤ n) {P : Int32 → Prop} (p : P 0) : wp_X3_hasRun 40 a1 a2 many P := by
  subst e
  refine ⟨fun _ => p, fun z1 => ⟨fun _ => p, fun z2 => ⟨fun _ => p, fun z3 => ⟨fun _ => p, fun z4 => ?_⟩⟩⟩⟩
  obtain ⟨i, hi, rfl⟩ := nI_of z1
  obtain ⟨len, hl, rfl⟩ := nI_of z2
  have q3 : len ≤ n := Nat.not_lt.mp (fun w => z3 (nI_lt w hl))
  rw [pk_sub q3] at z4
  have q4 : i ≤ n - len := Nat.not_lt.mp (fun w => z4 (nI_lt w hi))
  exact absurd ⟨i, len, rfl, rfl, by omega⟩ h
def mvM (np nq : Nat) (a2 a4 a5 : Int32) : Prop := ∃ i len j, a2 = nI i ∧ a5 = nI len ∧ a4 = nI j ∧ i + len ≤ np ∧ j + len ≤ nq
theorem mvF {np nq : Nat} (h1 : np ≤ 40) (h2 : nq ≤ 40) {a2 a4 a5 : Int32} (h : ¬ mvM np nq a2 a4 a5) {F G V1 V2 : Prop} (v1 : V1) (v2 : V2) (f : F) : (a5 < 0 → F) ∧ (¬ a5 < 0 → ((a2 < 0 → F) ∧ (¬ a2 < 0 → ((a4 < 0 → F) ∧ (¬ a4 < 0 → (V1 ∧ (((nI np - a2) < a5 → F) ∧ (¬ (nI np - a2) < a5 → (V2 ∧ ((a5 ≤ (nI nq - a4) → G) ∧ (¬ a5 ≤ (nI nq - a4) → F))))))))))) := by
  refine ⟨fun _ => f, fun z1 => ⟨fun _ => f, fun z2 => ⟨fun _ => f, fun z3 => ⟨v1, fun _ => f, fun z4 => ⟨v2, fun z5 => ?_, fun _ => f⟩⟩⟩⟩⟩
  obtain ⟨len, hl, rfl⟩ := nI_of z1
  obtain ⟨i, hi, rfl⟩ := nI_of z2
  obtain ⟨j, hj, rfl⟩ := nI_of z3
  have w4 : ¬ ((np : Int) - i < len) := fun w => z4 (nI_ltT.mpr (by rw [subT (by omega) hi, nI_toInt hl]; exact w))
  have w5 := nI_leT.mp z5
  rw [subT (by omega) hj, nI_toInt hl] at w5
  exact absurd ⟨i, len, j, rfl, rfl, rfl, by omega, by omega⟩ h
theorem mvT {np nq i len j : Nat} (h1 : np ≤ 40) (h2 : nq ≤ 40) (h3 : i + len ≤ np) (h4 : j + len ≤ nq) {F1 F2 F3 F4 F5 G V1 V2 : Prop} (v1 : V1) (v2 : V2) (g : G) : (nI len < 0 → F1) ∧ (¬ nI len < 0 → ((nI i < 0 → F2) ∧ (¬ nI i < 0 → ((nI j < 0 → F3) ∧ (¬ nI j < 0 → (V1 ∧ (((nI np - nI i) < nI len → F4) ∧ (¬ (nI np - nI i) < nI len → (V2 ∧ ((nI len ≤ (nI nq - nI j) → G) ∧ (¬ nI len ≤ (nI nq - nI j) → F5))))))))))) := by
  refine br_f (nI_pos (by omega)) (br_f (nI_pos (by omega)) (br_f (nI_pos (by omega)) ⟨v1, br_f ?_ ⟨v2, br_t ?_ g⟩⟩))
  · rw [pk_sub (by omega)]; exact nI_nlt (by omega) (by omega)
  · rw [pk_sub (by omega)]; exact nI_le (by omega) (by omega)
theorem n40x {q i x : Nat} : ((((40 : Int32) * nI q) + nI i) + nI x) = nI (40 * q + i + x) := by rw [n40, nI_add]
theorem s8_moveLoop {p q i j len : Nat} (hp : p ≤ 3) (hq : q ≤ 3) (h1 : i + len ≤ 40) (h2 : j + len ≤ 40) {found number lifted : Nat → Int32} {P : Int32 → (Nat → Int32) → (Nat → Int32) → (Nat → Int32) → Prop} (h : ∀ number' lifted' : Nat → Int32, (∀ x, number' x = if 40 * q + j ≤ x ∧ x < 40 * q + j + len then number (40 * p + i + (x - (40 * q + j))) else number x) → P (nI len) found number' lifted') : ∃ k, wp_X8_move_b115 (nI p) (nI i) (nI q) (nI j) (nI len) P k (0 : Int32) found number lifted := by
  refine lpU (σ := Nat → Int32) (fun f x s => wp_X8_move_b115 (nI p) (nI i) (nI q) (nI j) (nI len) P f x found number s) (fun k s => ∀ y, y < k → s y = number (40 * p + i + y)) len 0 lifted (by omega) (fun y hy => absurd hy (Nat.not_lt_zero _)) (fun f s hI => br_t (nI_le (Nat.le_refl _) (by omega)) ?_) (fun f k s hk hI ih => ?_)
  · refine lpU (σ := Nat → Int32) (fun f x u => wp_X8_move_b152 (nI q) (nI j) (nI len) P f x found u s) (fun k u => ∀ x, u x = if 40 * q + j ≤ x ∧ x < 40 * q + j + k then number (40 * p + i + (x - (40 * q + j))) else number x) len 0 number (by omega) (fun x => by rw [if_neg (by omega)]) (fun f u hJ => br_t (nI_le (Nat.le_refl _) (by omega)) (h u s hJ)) (fun f k u hk hJ ih => ?_)
    refine br_f (nI_ge hk (by omega)) ⟨ix (by omega) (by omega), ?_, ?_⟩
    · rw [n40x]; exact ix (by omega) (by omega)
    · rw [n40x, nI_clamp (n := 40 * q + j + k) (by omega), nI_clamp (n := k) (by omega), hI k hk]
      refine ih _ (fun x => ?_)
      unfold upd
      by_cases w : x = 40 * q + j + k
      · rw [if_pos w, if_pos (by omega), w]
        congr 1; omega
      · rw [if_neg w, hJ x]
        by_cases w' : 40 * q + j ≤ x ∧ x < 40 * q + j + k
        · rw [if_pos w', if_pos (by omega)]
        · rw [if_neg w', if_neg (by omega)]
  · refine br_f (nI_ge hk (by omega)) ⟨?_, ix (by omega) (by omega), ?_⟩
    · rw [n40x]; exact ix (by omega) (by omega)
    · rw [n40x, nI_clamp (n := 40 * p + i + k) (by omega), nI_clamp (n := k) (by omega)]
      refine ih _ (fun y hy => ?_)
      unfold upd
      by_cases w : y = k
      · rw [if_pos w, w]
      · rw [if_neg w]; exact hI y (by omega)
theorem st_move : ST_move Rel := by
  intro cs ms h a1 a2 a3 a4 a5
  obtain ⟨hT, hK, hC, hE, hV, s0, s1, s2, s3⟩ := id h
  have er := er_up hE (k := 1) (by omega)
  have er2 := er_up hE (k := 2) (by omega)
  have er5 := er_up hE (k := 5) (by omega)
  by_cases g1 : 0 ≤ a1 ∧ a1 ≤ 3
  · by_cases g2 : 0 ≤ a3 ∧ a3 ≤ 3
    · obtain ⟨p, hp, rfl⟩ := rg (m := 3) (by omega) g1
      obtain ⟨q, hq, rfl⟩ := rg (m := 3) (by omega) g2
      have v4 : vp_in (nI p) 4 := ix (by omega) (by omega)
      have v4' : vp_in (nI q) 4 := ix (by omega) (by omega)
      have cp : (nI p).toNatClampNeg = p := nI_clamp (by omega)
      have cq : (nI q).toNatClampNeg = q := nI_clamp (by omega)
      have f1 : (ms.2.1 10) p = 0 → ∀ {P : _}, P ((-1000000000 : Int32) - nI 2) (upd (ms.2.1 3) 2 ((ms.2.1 3) 2 + 1)) (ms.2.1 12) (ms.2.1 13) → wp_X8_move (nI p) a2 (nI q) a4 a5 (ms.2.1 3) (ms.2.1 10) (ms.2.1 11) (ms.2.1 12) (ms.2.1 13) P := fun b P z => s8t g1 (yes (s8t g2 (yes ⟨v4, by
        rw [cp]; exact br_t b (e8 2 (by omega) z)⟩)))
      have f2 : ¬ (ms.2.1 10) p = 0 → (ms.2.1 10) q = 0 → ∀ {P : _}, P ((-1000000000 : Int32) - nI 2) (upd (ms.2.1 3) 2 ((ms.2.1 3) 2 + 1)) (ms.2.1 12) (ms.2.1 13) → wp_X8_move (nI p) a2 (nI q) a4 a5 (ms.2.1 3) (ms.2.1 10) (ms.2.1 11) (ms.2.1 12) (ms.2.1 13) P := fun b b' P z => s8t g1 (yes (s8t g2 (yes ⟨v4, by
        rw [cp]
        refine br_f b ⟨v4', ?_⟩
        rw [cq]; exact br_t b' (e8 2 (by omega) z)⟩)))
      have f3 : ¬ (ms.2.1 10) p = 0 → ¬ (ms.2.1 10) q = 0 → ¬ (ms.2.1 10) p = (ms.2.1 10) q → ∀ {P : _}, P ((-1000000000 : Int32) - nI 5) (upd (ms.2.1 3) 5 ((ms.2.1 3) 5 + 1)) (ms.2.1 12) (ms.2.1 13) → wp_X8_move (nI p) a2 (nI q) a4 a5 (ms.2.1 3) (ms.2.1 10) (ms.2.1 11) (ms.2.1 12) (ms.2.1 13) P := fun b b' b2 P z => s8t g1 (yes (s8t g2 (yes ⟨v4, by
        rw [cp]
        refine br_f b ⟨v4', ?_⟩
        rw [cq]
        exact br_f b' ⟨v4, v4', br_f b2 (e8 5 (by omega) z)⟩⟩)))
      have f4 : ∀ np nq, np ≤ 40 → nq ≤ 40 → (ms.2.1 11) p = nI np → (ms.2.1 11) q = nI nq → ¬ (ms.2.1 10) p = 0 → ¬ (ms.2.1 10) q = 0 → (ms.2.1 10) p = (ms.2.1 10) q → ¬ mvM np nq a2 a4 a5 → ∀ {P : _}, P ((-1000000000 : Int32) - nI 1) (upd (ms.2.1 3) 1 ((ms.2.1 3) 1 + 1)) (ms.2.1 12) (ms.2.1 13) → wp_X8_move (nI p) a2 (nI q) a4 a5 (ms.2.1 3) (ms.2.1 10) (ms.2.1 11) (ms.2.1 12) (ms.2.1 13) P := fun np nq hn hn' es es' b b' b2 m P z => s8t g1 (yes (s8t g2 (yes ⟨v4, by
        rw [cp]
        refine br_f b ⟨v4', ?_⟩
        rw [cq, es, es']
        exact br_f b' ⟨v4, v4', br_t b2 (mvF hn hn' m v4 v4' (e8 1 (by omega) z))⟩⟩)))
      have f5 : ∀ np nq i len j, np ≤ 40 → nq ≤ 40 → (ms.2.1 11) p = nI np → (ms.2.1 11) q = nI nq → ¬ (ms.2.1 10) p = 0 → ¬ (ms.2.1 10) q = 0 → (ms.2.1 10) p = (ms.2.1 10) q → i + len ≤ np → j + len ≤ nq → ∀ {P : _}, (∀ number' lifted' : Nat → Int32, (∀ x, number' x = if 40 * q + j ≤ x ∧ x < 40 * q + j + len then (ms.2.1 12) (40 * p + i + (x - (40 * q + j))) else (ms.2.1 12) x) → P (nI len) (ms.2.1 3) number' lifted') → wp_X8_move (nI p) (nI i) (nI q) (nI j) (nI len) (ms.2.1 3) (ms.2.1 10) (ms.2.1 11) (ms.2.1 12) (ms.2.1 13) P := fun np nq i len j hn hn' es es' b b' b2 m m' P z => s8t g1 (yes (s8t g2 (yes ⟨v4, by
        rw [cp]
        refine br_f b ⟨v4', ?_⟩
        rw [cq, es, es']
        exact br_f b' ⟨v4, v4', br_t b2 (mvT hn hn' m m' v4 v4' (s8_moveLoop hp hq (by omega) (by omega) z))⟩⟩)))
      refine s7t g1 (yes (s7t g2 (yes ?_)))
      have hp' : p = 0 ∨ p = 1 ∨ p = 2 ∨ p = 3 := by omega
      have hq' : q = 0 ∨ q = 1 ∨ q = 2 ∨ q = 3 := by omega
      rcases hp' with rfl | rfl | rfl | rfl
      · rcases hq' with rfl | rfl | rfl | rfl
        · obtain ⟨p1, p2, p3', np, p4, p5, p6⟩ := id s0
          obtain ⟨q1, q2, q3', nq, q4, q5, q6⟩ := id s0
          refine pick0 (pick0 ?_)
          by_cases gb : (cs.1 50) = 0
          · exact br_t gb (yes (e7 2 (by omega) (f1 (p1.symm.trans gb) ⟨rfl, hT, hK, hC, er2, hV, s0, s1, s2, s3⟩)))
          · refine br_f gb (no ?_)
            have gb1 : ¬ (ms.2.1 10) 0 = 0 := fun z => gb (p1.trans z)
            by_cases gb' : (cs.1 50) = 0
            · exact br_t gb' (yes (e7 2 (by omega) (f2 gb1 (q1.symm.trans gb') ⟨rfl, hT, hK, hC, er2, hV, s0, s1, s2, s3⟩)))
            · refine br_f gb' (no ?_)
              have gb2 : ¬ (ms.2.1 10) 0 = 0 := fun z => gb' (q1.trans z)
              by_cases ge : (cs.1 50) = (cs.1 50)
              · refine br_t ge ?_
                have ge2 : (ms.2.1 10) 0 = (ms.2.1 10) 0 := p1.symm.trans (ge.trans q1)
                by_cases gM : mvM np nq a2 a4 a5
                · obtain ⟨i, len, j, rfl, rfl, rfl, h1, h2⟩ := gM
                  refine p3_hasRunT p5 h1 p4 (yes (p3_hasRunT q5 h2 q4 (yes ?_)))
                  rw [nI_clamp (n := i) (by omega), nI_clamp (n := j) (by omega), nI_clamp (n := len) (by omega)]
                  refine ⟨nI_pos (by omega), nI_pos (by omega), nI_pos (by omega), by omega, by omega, f5 np nq i len j p4 q4 (p2.symm.trans p5) (q2.symm.trans q5) gb1 gb2 ge2 h1 h2 (fun number' lifted' hN => ?_)⟩
                  have S : SR (cs.1 50) (cs.1 51) (va_cpy (cs.2.1 36) (cs.2.1 36) i j len) ((ms.2.1 10) 0) ((ms.2.1 11) 0) (fun x => number' (40 * 0 + x)) := by
                    refine ⟨q1, q2, q3', nq, q4, q5, fun x hx => ?_⟩
                    show va_cpy _ _ _ _ _ x = number' _
                    rw [hN]
                    by_cases w : j ≤ x ∧ x < j + len
                    · rw [pk_cpy_in w.1 w.2, if_pos (by omega), p6 (i + (x - j)) (by omega)]
                      have ei : 40 * 0 + (i + (x - j)) = 40 * 0 + i + (40 * 0 + x - (40 * 0 + j)) := by omega
                      exact congrArg (ms.2.1 12) ei
                    · rw [pk_cpy_out (by omega), if_neg (by omega)]
                      exact q6 x hx
                  refine ⟨rfl, hT, hK, hC, hE, hV, ?_, ?_, ?_, ?_⟩
                  · first
                      | exact S
                      | exact SR_ag s0 rfl rfl (fun x hx => (hN _).trans (if_neg (by omega)))
                  · first
                      | exact S
                      | exact SR_ag s1 rfl rfl (fun x hx => (hN _).trans (if_neg (by omega)))
                  · first
                      | exact S
                      | exact SR_ag s2 rfl rfl (fun x hx => (hN _).trans (if_neg (by omega)))
                  · first
                      | exact S
                      | exact SR_ag s3 rfl rfl (fun x hx => (hN _).trans (if_neg (by omega)))
                · by_cases gF : ∃ i len, a2 = nI i ∧ a5 = nI len ∧ i + len ≤ np
                  · obtain ⟨i, len, rfl, rfl, w⟩ := gF
                    exact p3_hasRunT p5 w p4 (yes (p3_hasRunF q5 q4 (fun ⟨j, l', ej, el, w'⟩ => gM ⟨i, len, j, rfl, rfl, ej, w, by
                      have := (nI_eq (a := len) (b := l') (by omega) (by omega)).mp el
                      omega⟩) (no (e7 1 (by omega) (f4 np nq p4 q4 (p2.symm.trans p5) (q2.symm.trans q5) gb1 gb2 ge2 gM ⟨rfl, hT, hK, hC, er, hV, s0, s1, s2, s3⟩)))))
                  · exact p3_hasRunF p5 p4 gF (no (e7 1 (by omega) (f4 np nq p4 q4 (p2.symm.trans p5) (q2.symm.trans q5) gb1 gb2 ge2 gM ⟨rfl, hT, hK, hC, er, hV, s0, s1, s2, s3⟩)))
              · exact br_f ge (e7 5 (by omega) (f3 gb1 gb2 (fun z => ge (p1.trans (z.trans q1.symm))) ⟨rfl, hT, hK, hC, er5, hV, s0, s1, s2, s3⟩))
        · obtain ⟨p1, p2, p3', np, p4, p5, p6⟩ := id s0
          obtain ⟨q1, q2, q3', nq, q4, q5, q6⟩ := id s1
          refine pick0 (pick1 ?_)
          by_cases gb : (cs.1 50) = 0
          · exact br_t gb (yes (e7 2 (by omega) (f1 (p1.symm.trans gb) ⟨rfl, hT, hK, hC, er2, hV, s0, s1, s2, s3⟩)))
          · refine br_f gb (no ?_)
            have gb1 : ¬ (ms.2.1 10) 0 = 0 := fun z => gb (p1.trans z)
            by_cases gb' : (cs.1 52) = 0
            · exact br_t gb' (yes (e7 2 (by omega) (f2 gb1 (q1.symm.trans gb') ⟨rfl, hT, hK, hC, er2, hV, s0, s1, s2, s3⟩)))
            · refine br_f gb' (no ?_)
              have gb2 : ¬ (ms.2.1 10) 1 = 0 := fun z => gb' (q1.trans z)
              by_cases ge : (cs.1 50) = (cs.1 52)
              · refine br_t ge ?_
                have ge2 : (ms.2.1 10) 0 = (ms.2.1 10) 1 := p1.symm.trans (ge.trans q1)
                by_cases gM : mvM np nq a2 a4 a5
                · obtain ⟨i, len, j, rfl, rfl, rfl, h1, h2⟩ := gM
                  refine p3_hasRunT p5 h1 p4 (yes (p3_hasRunT q5 h2 q4 (yes ?_)))
                  rw [nI_clamp (n := i) (by omega), nI_clamp (n := j) (by omega), nI_clamp (n := len) (by omega)]
                  refine ⟨nI_pos (by omega), nI_pos (by omega), nI_pos (by omega), by omega, by omega, f5 np nq i len j p4 q4 (p2.symm.trans p5) (q2.symm.trans q5) gb1 gb2 ge2 h1 h2 (fun number' lifted' hN => ?_)⟩
                  have S : SR (cs.1 52) (cs.1 53) (va_cpy (cs.2.1 36) (cs.2.1 37) i j len) ((ms.2.1 10) 1) ((ms.2.1 11) 1) (fun x => number' (40 * 1 + x)) := by
                    refine ⟨q1, q2, q3', nq, q4, q5, fun x hx => ?_⟩
                    show va_cpy _ _ _ _ _ x = number' _
                    rw [hN]
                    by_cases w : j ≤ x ∧ x < j + len
                    · rw [pk_cpy_in w.1 w.2, if_pos (by omega), p6 (i + (x - j)) (by omega)]
                      have ei : 40 * 0 + (i + (x - j)) = 40 * 0 + i + (40 * 1 + x - (40 * 1 + j)) := by omega
                      exact congrArg (ms.2.1 12) ei
                    · rw [pk_cpy_out (by omega), if_neg (by omega)]
                      exact q6 x hx
                  refine ⟨rfl, hT, hK, hC, hE, hV, ?_, ?_, ?_, ?_⟩
                  · first
                      | exact S
                      | exact SR_ag s0 rfl rfl (fun x hx => (hN _).trans (if_neg (by omega)))
                  · first
                      | exact S
                      | exact SR_ag s1 rfl rfl (fun x hx => (hN _).trans (if_neg (by omega)))
                  · first
                      | exact S
                      | exact SR_ag s2 rfl rfl (fun x hx => (hN _).trans (if_neg (by omega)))
                  · first
                      | exact S
                      | exact SR_ag s3 rfl rfl (fun x hx => (hN _).trans (if_neg (by omega)))
                · by_cases gF : ∃ i len, a2 = nI i ∧ a5 = nI len ∧ i + len ≤ np
                  · obtain ⟨i, len, rfl, rfl, w⟩ := gF
                    exact p3_hasRunT p5 w p4 (yes (p3_hasRunF q5 q4 (fun ⟨j, l', ej, el, w'⟩ => gM ⟨i, len, j, rfl, rfl, ej, w, by
                      have := (nI_eq (a := len) (b := l') (by omega) (by omega)).mp el
                      omega⟩) (no (e7 1 (by omega) (f4 np nq p4 q4 (p2.symm.trans p5) (q2.symm.trans q5) gb1 gb2 ge2 gM ⟨rfl, hT, hK, hC, er, hV, s0, s1, s2, s3⟩)))))
                  · exact p3_hasRunF p5 p4 gF (no (e7 1 (by omega) (f4 np nq p4 q4 (p2.symm.trans p5) (q2.symm.trans q5) gb1 gb2 ge2 gM ⟨rfl, hT, hK, hC, er, hV, s0, s1, s2, s3⟩)))
              · exact br_f ge (e7 5 (by omega) (f3 gb1 gb2 (fun z => ge (p1.trans (z.trans q1.symm))) ⟨rfl, hT, hK, hC, er5, hV, s0, s1, s2, s3⟩))
        · obtain ⟨p1, p2, p3', np, p4, p5, p6⟩ := id s0
          obtain ⟨q1, q2, q3', nq, q4, q5, q6⟩ := id s2
          refine pick0 (pick2 ?_)
          by_cases gb : (cs.1 50) = 0
          · exact br_t gb (yes (e7 2 (by omega) (f1 (p1.symm.trans gb) ⟨rfl, hT, hK, hC, er2, hV, s0, s1, s2, s3⟩)))
          · refine br_f gb (no ?_)
            have gb1 : ¬ (ms.2.1 10) 0 = 0 := fun z => gb (p1.trans z)
            by_cases gb' : (cs.1 54) = 0
            · exact br_t gb' (yes (e7 2 (by omega) (f2 gb1 (q1.symm.trans gb') ⟨rfl, hT, hK, hC, er2, hV, s0, s1, s2, s3⟩)))
            · refine br_f gb' (no ?_)
              have gb2 : ¬ (ms.2.1 10) 2 = 0 := fun z => gb' (q1.trans z)
              by_cases ge : (cs.1 50) = (cs.1 54)
              · refine br_t ge ?_
                have ge2 : (ms.2.1 10) 0 = (ms.2.1 10) 2 := p1.symm.trans (ge.trans q1)
                by_cases gM : mvM np nq a2 a4 a5
                · obtain ⟨i, len, j, rfl, rfl, rfl, h1, h2⟩ := gM
                  refine p3_hasRunT p5 h1 p4 (yes (p3_hasRunT q5 h2 q4 (yes ?_)))
                  rw [nI_clamp (n := i) (by omega), nI_clamp (n := j) (by omega), nI_clamp (n := len) (by omega)]
                  refine ⟨nI_pos (by omega), nI_pos (by omega), nI_pos (by omega), by omega, by omega, f5 np nq i len j p4 q4 (p2.symm.trans p5) (q2.symm.trans q5) gb1 gb2 ge2 h1 h2 (fun number' lifted' hN => ?_)⟩
                  have S : SR (cs.1 54) (cs.1 55) (va_cpy (cs.2.1 36) (cs.2.1 38) i j len) ((ms.2.1 10) 2) ((ms.2.1 11) 2) (fun x => number' (40 * 2 + x)) := by
                    refine ⟨q1, q2, q3', nq, q4, q5, fun x hx => ?_⟩
                    show va_cpy _ _ _ _ _ x = number' _
                    rw [hN]
                    by_cases w : j ≤ x ∧ x < j + len
                    · rw [pk_cpy_in w.1 w.2, if_pos (by omega), p6 (i + (x - j)) (by omega)]
                      have ei : 40 * 0 + (i + (x - j)) = 40 * 0 + i + (40 * 2 + x - (40 * 2 + j)) := by omega
                      exact congrArg (ms.2.1 12) ei
                    · rw [pk_cpy_out (by omega), if_neg (by omega)]
                      exact q6 x hx
                  refine ⟨rfl, hT, hK, hC, hE, hV, ?_, ?_, ?_, ?_⟩
                  · first
                      | exact S
                      | exact SR_ag s0 rfl rfl (fun x hx => (hN _).trans (if_neg (by omega)))
                  · first
                      | exact S
                      | exact SR_ag s1 rfl rfl (fun x hx => (hN _).trans (if_neg (by omega)))
                  · first
                      | exact S
                      | exact SR_ag s2 rfl rfl (fun x hx => (hN _).trans (if_neg (by omega)))
                  · first
                      | exact S
                      | exact SR_ag s3 rfl rfl (fun x hx => (hN _).trans (if_neg (by omega)))
                · by_cases gF : ∃ i len, a2 = nI i ∧ a5 = nI len ∧ i + len ≤ np
                  · obtain ⟨i, len, rfl, rfl, w⟩ := gF
                    exact p3_hasRunT p5 w p4 (yes (p3_hasRunF q5 q4 (fun ⟨j, l', ej, el, w'⟩ => gM ⟨i, len, j, rfl, rfl, ej, w, by
                      have := (nI_eq (a := len) (b := l') (by omega) (by omega)).mp el
                      omega⟩) (no (e7 1 (by omega) (f4 np nq p4 q4 (p2.symm.trans p5) (q2.symm.trans q5) gb1 gb2 ge2 gM ⟨rfl, hT, hK, hC, er, hV, s0, s1, s2, s3⟩)))))
                  · exact p3_hasRunF p5 p4 gF (no (e7 1 (by omega) (f4 np nq p4 q4 (p2.symm.trans p5) (q2.symm.trans q5) gb1 gb2 ge2 gM ⟨rfl, hT, hK, hC, er, hV, s0, s1, s2, s3⟩)))
              · exact br_f ge (e7 5 (by omega) (f3 gb1 gb2 (fun z => ge (p1.trans (z.trans q1.symm))) ⟨rfl, hT, hK, hC, er5, hV, s0, s1, s2, s3⟩))
        · obtain ⟨p1, p2, p3', np, p4, p5, p6⟩ := id s0
          obtain ⟨q1, q2, q3', nq, q4, q5, q6⟩ := id s3
          refine pick0 (pick3 ?_)
          by_cases gb : (cs.1 50) = 0
          · exact br_t gb (yes (e7 2 (by omega) (f1 (p1.symm.trans gb) ⟨rfl, hT, hK, hC, er2, hV, s0, s1, s2, s3⟩)))
          · refine br_f gb (no ?_)
            have gb1 : ¬ (ms.2.1 10) 0 = 0 := fun z => gb (p1.trans z)
            by_cases gb' : (cs.1 56) = 0
            · exact br_t gb' (yes (e7 2 (by omega) (f2 gb1 (q1.symm.trans gb') ⟨rfl, hT, hK, hC, er2, hV, s0, s1, s2, s3⟩)))
            · refine br_f gb' (no ?_)
              have gb2 : ¬ (ms.2.1 10) 3 = 0 := fun z => gb' (q1.trans z)
              by_cases ge : (cs.1 50) = (cs.1 56)
              · refine br_t ge ?_
                have ge2 : (ms.2.1 10) 0 = (ms.2.1 10) 3 := p1.symm.trans (ge.trans q1)
                by_cases gM : mvM np nq a2 a4 a5
                · obtain ⟨i, len, j, rfl, rfl, rfl, h1, h2⟩ := gM
                  refine p3_hasRunT p5 h1 p4 (yes (p3_hasRunT q5 h2 q4 (yes ?_)))
                  rw [nI_clamp (n := i) (by omega), nI_clamp (n := j) (by omega), nI_clamp (n := len) (by omega)]
                  refine ⟨nI_pos (by omega), nI_pos (by omega), nI_pos (by omega), by omega, by omega, f5 np nq i len j p4 q4 (p2.symm.trans p5) (q2.symm.trans q5) gb1 gb2 ge2 h1 h2 (fun number' lifted' hN => ?_)⟩
                  have S : SR (cs.1 56) (cs.1 57) (va_cpy (cs.2.1 36) (cs.2.1 39) i j len) ((ms.2.1 10) 3) ((ms.2.1 11) 3) (fun x => number' (40 * 3 + x)) := by
                    refine ⟨q1, q2, q3', nq, q4, q5, fun x hx => ?_⟩
                    show va_cpy _ _ _ _ _ x = number' _
                    rw [hN]
                    by_cases w : j ≤ x ∧ x < j + len
                    · rw [pk_cpy_in w.1 w.2, if_pos (by omega), p6 (i + (x - j)) (by omega)]
                      have ei : 40 * 0 + (i + (x - j)) = 40 * 0 + i + (40 * 3 + x - (40 * 3 + j)) := by omega
                      exact congrArg (ms.2.1 12) ei
                    · rw [pk_cpy_out (by omega), if_neg (by omega)]
                      exact q6 x hx
                  refine ⟨rfl, hT, hK, hC, hE, hV, ?_, ?_, ?_, ?_⟩
                  · first
                      | exact S
                      | exact SR_ag s0 rfl rfl (fun x hx => (hN _).trans (if_neg (by omega)))
                  · first
                      | exact S
                      | exact SR_ag s1 rfl rfl (fun x hx => (hN _).trans (if_neg (by omega)))
                  · first
                      | exact S
                      | exact SR_ag s2 rfl rfl (fun x hx => (hN _).trans (if_neg (by omega)))
                  · first
                      | exact S
                      | exact SR_ag s3 rfl rfl (fun x hx => (hN _).trans (if_neg (by omega)))
                · by_cases gF : ∃ i len, a2 = nI i ∧ a5 = nI len ∧ i + len ≤ np
                  · obtain ⟨i, len, rfl, rfl, w⟩ := gF
                    exact p3_hasRunT p5 w p4 (yes (p3_hasRunF q5 q4 (fun ⟨j, l', ej, el, w'⟩ => gM ⟨i, len, j, rfl, rfl, ej, w, by
                      have := (nI_eq (a := len) (b := l') (by omega) (by omega)).mp el
                      omega⟩) (no (e7 1 (by omega) (f4 np nq p4 q4 (p2.symm.trans p5) (q2.symm.trans q5) gb1 gb2 ge2 gM ⟨rfl, hT, hK, hC, er, hV, s0, s1, s2, s3⟩)))))
                  · exact p3_hasRunF p5 p4 gF (no (e7 1 (by omega) (f4 np nq p4 q4 (p2.symm.trans p5) (q2.symm.trans q5) gb1 gb2 ge2 gM ⟨rfl, hT, hK, hC, er, hV, s0, s1, s2, s3⟩)))
              · exact br_f ge (e7 5 (by omega) (f3 gb1 gb2 (fun z => ge (p1.trans (z.trans q1.symm))) ⟨rfl, hT, hK, hC, er5, hV, s0, s1, s2, s3⟩))
      · rcases hq' with rfl | rfl | rfl | rfl
        · obtain ⟨p1, p2, p3', np, p4, p5, p6⟩ := id s1
          obtain ⟨q1, q2, q3', nq, q4, q5, q6⟩ := id s0
          refine pick1 (pick0 ?_)
          by_cases gb : (cs.1 52) = 0
          · exact br_t gb (yes (e7 2 (by omega) (f1 (p1.symm.trans gb) ⟨rfl, hT, hK, hC, er2, hV, s0, s1, s2, s3⟩)))
          · refine br_f gb (no ?_)
            have gb1 : ¬ (ms.2.1 10) 1 = 0 := fun z => gb (p1.trans z)
            by_cases gb' : (cs.1 50) = 0
            · exact br_t gb' (yes (e7 2 (by omega) (f2 gb1 (q1.symm.trans gb') ⟨rfl, hT, hK, hC, er2, hV, s0, s1, s2, s3⟩)))
            · refine br_f gb' (no ?_)
              have gb2 : ¬ (ms.2.1 10) 0 = 0 := fun z => gb' (q1.trans z)
              by_cases ge : (cs.1 52) = (cs.1 50)
              · refine br_t ge ?_
                have ge2 : (ms.2.1 10) 1 = (ms.2.1 10) 0 := p1.symm.trans (ge.trans q1)
                by_cases gM : mvM np nq a2 a4 a5
                · obtain ⟨i, len, j, rfl, rfl, rfl, h1, h2⟩ := gM
                  refine p3_hasRunT p5 h1 p4 (yes (p3_hasRunT q5 h2 q4 (yes ?_)))
                  rw [nI_clamp (n := i) (by omega), nI_clamp (n := j) (by omega), nI_clamp (n := len) (by omega)]
                  refine ⟨nI_pos (by omega), nI_pos (by omega), nI_pos (by omega), by omega, by omega, f5 np nq i len j p4 q4 (p2.symm.trans p5) (q2.symm.trans q5) gb1 gb2 ge2 h1 h2 (fun number' lifted' hN => ?_)⟩
                  have S : SR (cs.1 50) (cs.1 51) (va_cpy (cs.2.1 37) (cs.2.1 36) i j len) ((ms.2.1 10) 0) ((ms.2.1 11) 0) (fun x => number' (40 * 0 + x)) := by
                    refine ⟨q1, q2, q3', nq, q4, q5, fun x hx => ?_⟩
                    show va_cpy _ _ _ _ _ x = number' _
                    rw [hN]
                    by_cases w : j ≤ x ∧ x < j + len
                    · rw [pk_cpy_in w.1 w.2, if_pos (by omega), p6 (i + (x - j)) (by omega)]
                      have ei : 40 * 1 + (i + (x - j)) = 40 * 1 + i + (40 * 0 + x - (40 * 0 + j)) := by omega
                      exact congrArg (ms.2.1 12) ei
                    · rw [pk_cpy_out (by omega), if_neg (by omega)]
                      exact q6 x hx
                  refine ⟨rfl, hT, hK, hC, hE, hV, ?_, ?_, ?_, ?_⟩
                  · first
                      | exact S
                      | exact SR_ag s0 rfl rfl (fun x hx => (hN _).trans (if_neg (by omega)))
                  · first
                      | exact S
                      | exact SR_ag s1 rfl rfl (fun x hx => (hN _).trans (if_neg (by omega)))
                  · first
                      | exact S
                      | exact SR_ag s2 rfl rfl (fun x hx => (hN _).trans (if_neg (by omega)))
                  · first
                      | exact S
                      | exact SR_ag s3 rfl rfl (fun x hx => (hN _).trans (if_neg (by omega)))
                · by_cases gF : ∃ i len, a2 = nI i ∧ a5 = nI len ∧ i + len ≤ np
                  · obtain ⟨i, len, rfl, rfl, w⟩ := gF
                    exact p3_hasRunT p5 w p4 (yes (p3_hasRunF q5 q4 (fun ⟨j, l', ej, el, w'⟩ => gM ⟨i, len, j, rfl, rfl, ej, w, by
                      have := (nI_eq (a := len) (b := l') (by omega) (by omega)).mp el
                      omega⟩) (no (e7 1 (by omega) (f4 np nq p4 q4 (p2.symm.trans p5) (q2.symm.trans q5) gb1 gb2 ge2 gM ⟨rfl, hT, hK, hC, er, hV, s0, s1, s2, s3⟩)))))
                  · exact p3_hasRunF p5 p4 gF (no (e7 1 (by omega) (f4 np nq p4 q4 (p2.symm.trans p5) (q2.symm.trans q5) gb1 gb2 ge2 gM ⟨rfl, hT, hK, hC, er, hV, s0, s1, s2, s3⟩)))
              · exact br_f ge (e7 5 (by omega) (f3 gb1 gb2 (fun z => ge (p1.trans (z.trans q1.symm))) ⟨rfl, hT, hK, hC, er5, hV, s0, s1, s2, s3⟩))
        · obtain ⟨p1, p2, p3', np, p4, p5, p6⟩ := id s1
          obtain ⟨q1, q2, q3', nq, q4, q5, q6⟩ := id s1
          refine pick1 (pick1 ?_)
          by_cases gb : (cs.1 52) = 0
          · exact br_t gb (yes (e7 2 (by omega) (f1 (p1.symm.trans gb) ⟨rfl, hT, hK, hC, er2, hV, s0, s1, s2, s3⟩)))
          · refine br_f gb (no ?_)
            have gb1 : ¬ (ms.2.1 10) 1 = 0 := fun z => gb (p1.trans z)
            by_cases gb' : (cs.1 52) = 0
            · exact br_t gb' (yes (e7 2 (by omega) (f2 gb1 (q1.symm.trans gb') ⟨rfl, hT, hK, hC, er2, hV, s0, s1, s2, s3⟩)))
            · refine br_f gb' (no ?_)
              have gb2 : ¬ (ms.2.1 10) 1 = 0 := fun z => gb' (q1.trans z)
              by_cases ge : (cs.1 52) = (cs.1 52)
              · refine br_t ge ?_
                have ge2 : (ms.2.1 10) 1 = (ms.2.1 10) 1 := p1.symm.trans (ge.trans q1)
                by_cases gM : mvM np nq a2 a4 a5
                · obtain ⟨i, len, j, rfl, rfl, rfl, h1, h2⟩ := gM
                  refine p3_hasRunT p5 h1 p4 (yes (p3_hasRunT q5 h2 q4 (yes ?_)))
                  rw [nI_clamp (n := i) (by omega), nI_clamp (n := j) (by omega), nI_clamp (n := len) (by omega)]
                  refine ⟨nI_pos (by omega), nI_pos (by omega), nI_pos (by omega), by omega, by omega, f5 np nq i len j p4 q4 (p2.symm.trans p5) (q2.symm.trans q5) gb1 gb2 ge2 h1 h2 (fun number' lifted' hN => ?_)⟩
                  have S : SR (cs.1 52) (cs.1 53) (va_cpy (cs.2.1 37) (cs.2.1 37) i j len) ((ms.2.1 10) 1) ((ms.2.1 11) 1) (fun x => number' (40 * 1 + x)) := by
                    refine ⟨q1, q2, q3', nq, q4, q5, fun x hx => ?_⟩
                    show va_cpy _ _ _ _ _ x = number' _
                    rw [hN]
                    by_cases w : j ≤ x ∧ x < j + len
                    · rw [pk_cpy_in w.1 w.2, if_pos (by omega), p6 (i + (x - j)) (by omega)]
                      have ei : 40 * 1 + (i + (x - j)) = 40 * 1 + i + (40 * 1 + x - (40 * 1 + j)) := by omega
                      exact congrArg (ms.2.1 12) ei
                    · rw [pk_cpy_out (by omega), if_neg (by omega)]
                      exact q6 x hx
                  refine ⟨rfl, hT, hK, hC, hE, hV, ?_, ?_, ?_, ?_⟩
                  · first
                      | exact S
                      | exact SR_ag s0 rfl rfl (fun x hx => (hN _).trans (if_neg (by omega)))
                  · first
                      | exact S
                      | exact SR_ag s1 rfl rfl (fun x hx => (hN _).trans (if_neg (by omega)))
                  · first
                      | exact S
                      | exact SR_ag s2 rfl rfl (fun x hx => (hN _).trans (if_neg (by omega)))
                  · first
                      | exact S
                      | exact SR_ag s3 rfl rfl (fun x hx => (hN _).trans (if_neg (by omega)))
                · by_cases gF : ∃ i len, a2 = nI i ∧ a5 = nI len ∧ i + len ≤ np
                  · obtain ⟨i, len, rfl, rfl, w⟩ := gF
                    exact p3_hasRunT p5 w p4 (yes (p3_hasRunF q5 q4 (fun ⟨j, l', ej, el, w'⟩ => gM ⟨i, len, j, rfl, rfl, ej, w, by
                      have := (nI_eq (a := len) (b := l') (by omega) (by omega)).mp el
                      omega⟩) (no (e7 1 (by omega) (f4 np nq p4 q4 (p2.symm.trans p5) (q2.symm.trans q5) gb1 gb2 ge2 gM ⟨rfl, hT, hK, hC, er, hV, s0, s1, s2, s3⟩)))))
                  · exact p3_hasRunF p5 p4 gF (no (e7 1 (by omega) (f4 np nq p4 q4 (p2.symm.trans p5) (q2.symm.trans q5) gb1 gb2 ge2 gM ⟨rfl, hT, hK, hC, er, hV, s0, s1, s2, s3⟩)))
              · exact br_f ge (e7 5 (by omega) (f3 gb1 gb2 (fun z => ge (p1.trans (z.trans q1.symm))) ⟨rfl, hT, hK, hC, er5, hV, s0, s1, s2, s3⟩))
        · obtain ⟨p1, p2, p3', np, p4, p5, p6⟩ := id s1
          obtain ⟨q1, q2, q3', nq, q4, q5, q6⟩ := id s2
          refine pick1 (pick2 ?_)
          by_cases gb : (cs.1 52) = 0
          · exact br_t gb (yes (e7 2 (by omega) (f1 (p1.symm.trans gb) ⟨rfl, hT, hK, hC, er2, hV, s0, s1, s2, s3⟩)))
          · refine br_f gb (no ?_)
            have gb1 : ¬ (ms.2.1 10) 1 = 0 := fun z => gb (p1.trans z)
            by_cases gb' : (cs.1 54) = 0
            · exact br_t gb' (yes (e7 2 (by omega) (f2 gb1 (q1.symm.trans gb') ⟨rfl, hT, hK, hC, er2, hV, s0, s1, s2, s3⟩)))
            · refine br_f gb' (no ?_)
              have gb2 : ¬ (ms.2.1 10) 2 = 0 := fun z => gb' (q1.trans z)
              by_cases ge : (cs.1 52) = (cs.1 54)
              · refine br_t ge ?_
                have ge2 : (ms.2.1 10) 1 = (ms.2.1 10) 2 := p1.symm.trans (ge.trans q1)
                by_cases gM : mvM np nq a2 a4 a5
                · obtain ⟨i, len, j, rfl, rfl, rfl, h1, h2⟩ := gM
                  refine p3_hasRunT p5 h1 p4 (yes (p3_hasRunT q5 h2 q4 (yes ?_)))
                  rw [nI_clamp (n := i) (by omega), nI_clamp (n := j) (by omega), nI_clamp (n := len) (by omega)]
                  refine ⟨nI_pos (by omega), nI_pos (by omega), nI_pos (by omega), by omega, by omega, f5 np nq i len j p4 q4 (p2.symm.trans p5) (q2.symm.trans q5) gb1 gb2 ge2 h1 h2 (fun number' lifted' hN => ?_)⟩
                  have S : SR (cs.1 54) (cs.1 55) (va_cpy (cs.2.1 37) (cs.2.1 38) i j len) ((ms.2.1 10) 2) ((ms.2.1 11) 2) (fun x => number' (40 * 2 + x)) := by
                    refine ⟨q1, q2, q3', nq, q4, q5, fun x hx => ?_⟩
                    show va_cpy _ _ _ _ _ x = number' _
                    rw [hN]
                    by_cases w : j ≤ x ∧ x < j + len
                    · rw [pk_cpy_in w.1 w.2, if_pos (by omega), p6 (i + (x - j)) (by omega)]
                      have ei : 40 * 1 + (i + (x - j)) = 40 * 1 + i + (40 * 2 + x - (40 * 2 + j)) := by omega
                      exact congrArg (ms.2.1 12) ei
                    · rw [pk_cpy_out (by omega), if_neg (by omega)]
                      exact q6 x hx
                  refine ⟨rfl, hT, hK, hC, hE, hV, ?_, ?_, ?_, ?_⟩
                  · first
                      | exact S
                      | exact SR_ag s0 rfl rfl (fun x hx => (hN _).trans (if_neg (by omega)))
                  · first
                      | exact S
                      | exact SR_ag s1 rfl rfl (fun x hx => (hN _).trans (if_neg (by omega)))
                  · first
                      | exact S
                      | exact SR_ag s2 rfl rfl (fun x hx => (hN _).trans (if_neg (by omega)))
                  · first
                      | exact S
                      | exact SR_ag s3 rfl rfl (fun x hx => (hN _).trans (if_neg (by omega)))
                · by_cases gF : ∃ i len, a2 = nI i ∧ a5 = nI len ∧ i + len ≤ np
                  · obtain ⟨i, len, rfl, rfl, w⟩ := gF
                    exact p3_hasRunT p5 w p4 (yes (p3_hasRunF q5 q4 (fun ⟨j, l', ej, el, w'⟩ => gM ⟨i, len, j, rfl, rfl, ej, w, by
                      have := (nI_eq (a := len) (b := l') (by omega) (by omega)).mp el
                      omega⟩) (no (e7 1 (by omega) (f4 np nq p4 q4 (p2.symm.trans p5) (q2.symm.trans q5) gb1 gb2 ge2 gM ⟨rfl, hT, hK, hC, er, hV, s0, s1, s2, s3⟩)))))
                  · exact p3_hasRunF p5 p4 gF (no (e7 1 (by omega) (f4 np nq p4 q4 (p2.symm.trans p5) (q2.symm.trans q5) gb1 gb2 ge2 gM ⟨rfl, hT, hK, hC, er, hV, s0, s1, s2, s3⟩)))
              · exact br_f ge (e7 5 (by omega) (f3 gb1 gb2 (fun z => ge (p1.trans (z.trans q1.symm))) ⟨rfl, hT, hK, hC, er5, hV, s0, s1, s2, s3⟩))
        · obtain ⟨p1, p2, p3', np, p4, p5, p6⟩ := id s1
          obtain ⟨q1, q2, q3', nq, q4, q5, q6⟩ := id s3
          refine pick1 (pick3 ?_)
          by_cases gb : (cs.1 52) = 0
          · exact br_t gb (yes (e7 2 (by omega) (f1 (p1.symm.trans gb) ⟨rfl, hT, hK, hC, er2, hV, s0, s1, s2, s3⟩)))
          · refine br_f gb (no ?_)
            have gb1 : ¬ (ms.2.1 10) 1 = 0 := fun z => gb (p1.trans z)
            by_cases gb' : (cs.1 56) = 0
            · exact br_t gb' (yes (e7 2 (by omega) (f2 gb1 (q1.symm.trans gb') ⟨rfl, hT, hK, hC, er2, hV, s0, s1, s2, s3⟩)))
            · refine br_f gb' (no ?_)
              have gb2 : ¬ (ms.2.1 10) 3 = 0 := fun z => gb' (q1.trans z)
              by_cases ge : (cs.1 52) = (cs.1 56)
              · refine br_t ge ?_
                have ge2 : (ms.2.1 10) 1 = (ms.2.1 10) 3 := p1.symm.trans (ge.trans q1)
                by_cases gM : mvM np nq a2 a4 a5
                · obtain ⟨i, len, j, rfl, rfl, rfl, h1, h2⟩ := gM
                  refine p3_hasRunT p5 h1 p4 (yes (p3_hasRunT q5 h2 q4 (yes ?_)))
                  rw [nI_clamp (n := i) (by omega), nI_clamp (n := j) (by omega), nI_clamp (n := len) (by omega)]
                  refine ⟨nI_pos (by omega), nI_pos (by omega), nI_pos (by omega), by omega, by omega, f5 np nq i len j p4 q4 (p2.symm.trans p5) (q2.symm.trans q5) gb1 gb2 ge2 h1 h2 (fun number' lifted' hN => ?_)⟩
                  have S : SR (cs.1 56) (cs.1 57) (va_cpy (cs.2.1 37) (cs.2.1 39) i j len) ((ms.2.1 10) 3) ((ms.2.1 11) 3) (fun x => number' (40 * 3 + x)) := by
                    refine ⟨q1, q2, q3', nq, q4, q5, fun x hx => ?_⟩
                    show va_cpy _ _ _ _ _ x = number' _
                    rw [hN]
                    by_cases w : j ≤ x ∧ x < j + len
                    · rw [pk_cpy_in w.1 w.2, if_pos (by omega), p6 (i + (x - j)) (by omega)]
                      have ei : 40 * 1 + (i + (x - j)) = 40 * 1 + i + (40 * 3 + x - (40 * 3 + j)) := by omega
                      exact congrArg (ms.2.1 12) ei
                    · rw [pk_cpy_out (by omega), if_neg (by omega)]
                      exact q6 x hx
                  refine ⟨rfl, hT, hK, hC, hE, hV, ?_, ?_, ?_, ?_⟩
                  · first
                      | exact S
                      | exact SR_ag s0 rfl rfl (fun x hx => (hN _).trans (if_neg (by omega)))
                  · first
                      | exact S
                      | exact SR_ag s1 rfl rfl (fun x hx => (hN _).trans (if_neg (by omega)))
                  · first
                      | exact S
                      | exact SR_ag s2 rfl rfl (fun x hx => (hN _).trans (if_neg (by omega)))
                  · first
                      | exact S
                      | exact SR_ag s3 rfl rfl (fun x hx => (hN _).trans (if_neg (by omega)))
                · by_cases gF : ∃ i len, a2 = nI i ∧ a5 = nI len ∧ i + len ≤ np
                  · obtain ⟨i, len, rfl, rfl, w⟩ := gF
                    exact p3_hasRunT p5 w p4 (yes (p3_hasRunF q5 q4 (fun ⟨j, l', ej, el, w'⟩ => gM ⟨i, len, j, rfl, rfl, ej, w, by
                      have := (nI_eq (a := len) (b := l') (by omega) (by omega)).mp el
                      omega⟩) (no (e7 1 (by omega) (f4 np nq p4 q4 (p2.symm.trans p5) (q2.symm.trans q5) gb1 gb2 ge2 gM ⟨rfl, hT, hK, hC, er, hV, s0, s1, s2, s3⟩)))))
                  · exact p3_hasRunF p5 p4 gF (no (e7 1 (by omega) (f4 np nq p4 q4 (p2.symm.trans p5) (q2.symm.trans q5) gb1 gb2 ge2 gM ⟨rfl, hT, hK, hC, er, hV, s0, s1, s2, s3⟩)))
              · exact br_f ge (e7 5 (by omega) (f3 gb1 gb2 (fun z => ge (p1.trans (z.trans q1.symm))) ⟨rfl, hT, hK, hC, er5, hV, s0, s1, s2, s3⟩))
      · rcases hq' with rfl | rfl | rfl | rfl
        · obtain ⟨p1, p2, p3', np, p4, p5, p6⟩ := id s2
          obtain ⟨q1, q2, q3', nq, q4, q5, q6⟩ := id s0
          refine pick2 (pick0 ?_)
          by_cases gb : (cs.1 54) = 0
          · exact br_t gb (yes (e7 2 (by omega) (f1 (p1.symm.trans gb) ⟨rfl, hT, hK, hC, er2, hV, s0, s1, s2, s3⟩)))
          · refine br_f gb (no ?_)
            have gb1 : ¬ (ms.2.1 10) 2 = 0 := fun z => gb (p1.trans z)
            by_cases gb' : (cs.1 50) = 0
            · exact br_t gb' (yes (e7 2 (by omega) (f2 gb1 (q1.symm.trans gb') ⟨rfl, hT, hK, hC, er2, hV, s0, s1, s2, s3⟩)))
            · refine br_f gb' (no ?_)
              have gb2 : ¬ (ms.2.1 10) 0 = 0 := fun z => gb' (q1.trans z)
              by_cases ge : (cs.1 54) = (cs.1 50)
              · refine br_t ge ?_
                have ge2 : (ms.2.1 10) 2 = (ms.2.1 10) 0 := p1.symm.trans (ge.trans q1)
                by_cases gM : mvM np nq a2 a4 a5
                · obtain ⟨i, len, j, rfl, rfl, rfl, h1, h2⟩ := gM
                  refine p3_hasRunT p5 h1 p4 (yes (p3_hasRunT q5 h2 q4 (yes ?_)))
                  rw [nI_clamp (n := i) (by omega), nI_clamp (n := j) (by omega), nI_clamp (n := len) (by omega)]
                  refine ⟨nI_pos (by omega), nI_pos (by omega), nI_pos (by omega), by omega, by omega, f5 np nq i len j p4 q4 (p2.symm.trans p5) (q2.symm.trans q5) gb1 gb2 ge2 h1 h2 (fun number' lifted' hN => ?_)⟩
                  have S : SR (cs.1 50) (cs.1 51) (va_cpy (cs.2.1 38) (cs.2.1 36) i j len) ((ms.2.1 10) 0) ((ms.2.1 11) 0) (fun x => number' (40 * 0 + x)) := by
                    refine ⟨q1, q2, q3', nq, q4, q5, fun x hx => ?_⟩
                    show va_cpy _ _ _ _ _ x = number' _
                    rw [hN]
                    by_cases w : j ≤ x ∧ x < j + len
                    · rw [pk_cpy_in w.1 w.2, if_pos (by omega), p6 (i + (x - j)) (by omega)]
                      have ei : 40 * 2 + (i + (x - j)) = 40 * 2 + i + (40 * 0 + x - (40 * 0 + j)) := by omega
                      exact congrArg (ms.2.1 12) ei
                    · rw [pk_cpy_out (by omega), if_neg (by omega)]
                      exact q6 x hx
                  refine ⟨rfl, hT, hK, hC, hE, hV, ?_, ?_, ?_, ?_⟩
                  · first
                      | exact S
                      | exact SR_ag s0 rfl rfl (fun x hx => (hN _).trans (if_neg (by omega)))
                  · first
                      | exact S
                      | exact SR_ag s1 rfl rfl (fun x hx => (hN _).trans (if_neg (by omega)))
                  · first
                      | exact S
                      | exact SR_ag s2 rfl rfl (fun x hx => (hN _).trans (if_neg (by omega)))
                  · first
                      | exact S
                      | exact SR_ag s3 rfl rfl (fun x hx => (hN _).trans (if_neg (by omega)))
                · by_cases gF : ∃ i len, a2 = nI i ∧ a5 = nI len ∧ i + len ≤ np
                  · obtain ⟨i, len, rfl, rfl, w⟩ := gF
                    exact p3_hasRunT p5 w p4 (yes (p3_hasRunF q5 q4 (fun ⟨j, l', ej, el, w'⟩ => gM ⟨i, len, j, rfl, rfl, ej, w, by
                      have := (nI_eq (a := len) (b := l') (by omega) (by omega)).mp el
                      omega⟩) (no (e7 1 (by omega) (f4 np nq p4 q4 (p2.symm.trans p5) (q2.symm.trans q5) gb1 gb2 ge2 gM ⟨rfl, hT, hK, hC, er, hV, s0, s1, s2, s3⟩)))))
                  · exact p3_hasRunF p5 p4 gF (no (e7 1 (by omega) (f4 np nq p4 q4 (p2.symm.trans p5) (q2.symm.trans q5) gb1 gb2 ge2 gM ⟨rfl, hT, hK, hC, er, hV, s0, s1, s2, s3⟩)))
              · exact br_f ge (e7 5 (by omega) (f3 gb1 gb2 (fun z => ge (p1.trans (z.trans q1.symm))) ⟨rfl, hT, hK, hC, er5, hV, s0, s1, s2, s3⟩))
        · obtain ⟨p1, p2, p3', np, p4, p5, p6⟩ := id s2
          obtain ⟨q1, q2, q3', nq, q4, q5, q6⟩ := id s1
          refine pick2 (pick1 ?_)
          by_cases gb : (cs.1 54) = 0
          · exact br_t gb (yes (e7 2 (by omega) (f1 (p1.symm.trans gb) ⟨rfl, hT, hK, hC, er2, hV, s0, s1, s2, s3⟩)))
          · refine br_f gb (no ?_)
            have gb1 : ¬ (ms.2.1 10) 2 = 0 := fun z => gb (p1.trans z)
            by_cases gb' : (cs.1 52) = 0
            · exact br_t gb' (yes (e7 2 (by omega) (f2 gb1 (q1.symm.trans gb') ⟨rfl, hT, hK, hC, er2, hV, s0, s1, s2, s3⟩)))
            · refine br_f gb' (no ?_)
              have gb2 : ¬ (ms.2.1 10) 1 = 0 := fun z => gb' (q1.trans z)
              by_cases ge : (cs.1 54) = (cs.1 52)
              · refine br_t ge ?_
                have ge2 : (ms.2.1 10) 2 = (ms.2.1 10) 1 := p1.symm.trans (ge.trans q1)
                by_cases gM : mvM np nq a2 a4 a5
                · obtain ⟨i, len, j, rfl, rfl, rfl, h1, h2⟩ := gM
                  refine p3_hasRunT p5 h1 p4 (yes (p3_hasRunT q5 h2 q4 (yes ?_)))
                  rw [nI_clamp (n := i) (by omega), nI_clamp (n := j) (by omega), nI_clamp (n := len) (by omega)]
                  refine ⟨nI_pos (by omega), nI_pos (by omega), nI_pos (by omega), by omega, by omega, f5 np nq i len j p4 q4 (p2.symm.trans p5) (q2.symm.trans q5) gb1 gb2 ge2 h1 h2 (fun number' lifted' hN => ?_)⟩
                  have S : SR (cs.1 52) (cs.1 53) (va_cpy (cs.2.1 38) (cs.2.1 37) i j len) ((ms.2.1 10) 1) ((ms.2.1 11) 1) (fun x => number' (40 * 1 + x)) := by
                    refine ⟨q1, q2, q3', nq, q4, q5, fun x hx => ?_⟩
                    show va_cpy _ _ _ _ _ x = number' _
                    rw [hN]
                    by_cases w : j ≤ x ∧ x < j + len
                    · rw [pk_cpy_in w.1 w.2, if_pos (by omega), p6 (i + (x - j)) (by omega)]
                      have ei : 40 * 2 + (i + (x - j)) = 40 * 2 + i + (40 * 1 + x - (40 * 1 + j)) := by omega
                      exact congrArg (ms.2.1 12) ei
                    · rw [pk_cpy_out (by omega), if_neg (by omega)]
                      exact q6 x hx
                  refine ⟨rfl, hT, hK, hC, hE, hV, ?_, ?_, ?_, ?_⟩
                  · first
                      | exact S
                      | exact SR_ag s0 rfl rfl (fun x hx => (hN _).trans (if_neg (by omega)))
                  · first
                      | exact S
                      | exact SR_ag s1 rfl rfl (fun x hx => (hN _).trans (if_neg (by omega)))
                  · first
                      | exact S
                      | exact SR_ag s2 rfl rfl (fun x hx => (hN _).trans (if_neg (by omega)))
                  · first
                      | exact S
                      | exact SR_ag s3 rfl rfl (fun x hx => (hN _).trans (if_neg (by omega)))
                · by_cases gF : ∃ i len, a2 = nI i ∧ a5 = nI len ∧ i + len ≤ np
                  · obtain ⟨i, len, rfl, rfl, w⟩ := gF
                    exact p3_hasRunT p5 w p4 (yes (p3_hasRunF q5 q4 (fun ⟨j, l', ej, el, w'⟩ => gM ⟨i, len, j, rfl, rfl, ej, w, by
                      have := (nI_eq (a := len) (b := l') (by omega) (by omega)).mp el
                      omega⟩) (no (e7 1 (by omega) (f4 np nq p4 q4 (p2.symm.trans p5) (q2.symm.trans q5) gb1 gb2 ge2 gM ⟨rfl, hT, hK, hC, er, hV, s0, s1, s2, s3⟩)))))
                  · exact p3_hasRunF p5 p4 gF (no (e7 1 (by omega) (f4 np nq p4 q4 (p2.symm.trans p5) (q2.symm.trans q5) gb1 gb2 ge2 gM ⟨rfl, hT, hK, hC, er, hV, s0, s1, s2, s3⟩)))
              · exact br_f ge (e7 5 (by omega) (f3 gb1 gb2 (fun z => ge (p1.trans (z.trans q1.symm))) ⟨rfl, hT, hK, hC, er5, hV, s0, s1, s2, s3⟩))
        · obtain ⟨p1, p2, p3', np, p4, p5, p6⟩ := id s2
          obtain ⟨q1, q2, q3', nq, q4, q5, q6⟩ := id s2
          refine pick2 (pick2 ?_)
          by_cases gb : (cs.1 54) = 0
          · exact br_t gb (yes (e7 2 (by omega) (f1 (p1.symm.trans gb) ⟨rfl, hT, hK, hC, er2, hV, s0, s1, s2, s3⟩)))
          · refine br_f gb (no ?_)
            have gb1 : ¬ (ms.2.1 10) 2 = 0 := fun z => gb (p1.trans z)
            by_cases gb' : (cs.1 54) = 0
            · exact br_t gb' (yes (e7 2 (by omega) (f2 gb1 (q1.symm.trans gb') ⟨rfl, hT, hK, hC, er2, hV, s0, s1, s2, s3⟩)))
            · refine br_f gb' (no ?_)
              have gb2 : ¬ (ms.2.1 10) 2 = 0 := fun z => gb' (q1.trans z)
              by_cases ge : (cs.1 54) = (cs.1 54)
              · refine br_t ge ?_
                have ge2 : (ms.2.1 10) 2 = (ms.2.1 10) 2 := p1.symm.trans (ge.trans q1)
                by_cases gM : mvM np nq a2 a4 a5
                · obtain ⟨i, len, j, rfl, rfl, rfl, h1, h2⟩ := gM
                  refine p3_hasRunT p5 h1 p4 (yes (p3_hasRunT q5 h2 q4 (yes ?_)))
                  rw [nI_clamp (n := i) (by omega), nI_clamp (n := j) (by omega), nI_clamp (n := len) (by omega)]
                  refine ⟨nI_pos (by omega), nI_pos (by omega), nI_pos (by omega), by omega, by omega, f5 np nq i len j p4 q4 (p2.symm.trans p5) (q2.symm.trans q5) gb1 gb2 ge2 h1 h2 (fun number' lifted' hN => ?_)⟩
                  have S : SR (cs.1 54) (cs.1 55) (va_cpy (cs.2.1 38) (cs.2.1 38) i j len) ((ms.2.1 10) 2) ((ms.2.1 11) 2) (fun x => number' (40 * 2 + x)) := by
                    refine ⟨q1, q2, q3', nq, q4, q5, fun x hx => ?_⟩
                    show va_cpy _ _ _ _ _ x = number' _
                    rw [hN]
                    by_cases w : j ≤ x ∧ x < j + len
                    · rw [pk_cpy_in w.1 w.2, if_pos (by omega), p6 (i + (x - j)) (by omega)]
                      have ei : 40 * 2 + (i + (x - j)) = 40 * 2 + i + (40 * 2 + x - (40 * 2 + j)) := by omega
                      exact congrArg (ms.2.1 12) ei
                    · rw [pk_cpy_out (by omega), if_neg (by omega)]
                      exact q6 x hx
                  refine ⟨rfl, hT, hK, hC, hE, hV, ?_, ?_, ?_, ?_⟩
                  · first
                      | exact S
                      | exact SR_ag s0 rfl rfl (fun x hx => (hN _).trans (if_neg (by omega)))
                  · first
                      | exact S
                      | exact SR_ag s1 rfl rfl (fun x hx => (hN _).trans (if_neg (by omega)))
                  · first
                      | exact S
                      | exact SR_ag s2 rfl rfl (fun x hx => (hN _).trans (if_neg (by omega)))
                  · first
                      | exact S
                      | exact SR_ag s3 rfl rfl (fun x hx => (hN _).trans (if_neg (by omega)))
                · by_cases gF : ∃ i len, a2 = nI i ∧ a5 = nI len ∧ i + len ≤ np
                  · obtain ⟨i, len, rfl, rfl, w⟩ := gF
                    exact p3_hasRunT p5 w p4 (yes (p3_hasRunF q5 q4 (fun ⟨j, l', ej, el, w'⟩ => gM ⟨i, len, j, rfl, rfl, ej, w, by
                      have := (nI_eq (a := len) (b := l') (by omega) (by omega)).mp el
                      omega⟩) (no (e7 1 (by omega) (f4 np nq p4 q4 (p2.symm.trans p5) (q2.symm.trans q5) gb1 gb2 ge2 gM ⟨rfl, hT, hK, hC, er, hV, s0, s1, s2, s3⟩)))))
                  · exact p3_hasRunF p5 p4 gF (no (e7 1 (by omega) (f4 np nq p4 q4 (p2.symm.trans p5) (q2.symm.trans q5) gb1 gb2 ge2 gM ⟨rfl, hT, hK, hC, er, hV, s0, s1, s2, s3⟩)))
              · exact br_f ge (e7 5 (by omega) (f3 gb1 gb2 (fun z => ge (p1.trans (z.trans q1.symm))) ⟨rfl, hT, hK, hC, er5, hV, s0, s1, s2, s3⟩))
        · obtain ⟨p1, p2, p3', np, p4, p5, p6⟩ := id s2
          obtain ⟨q1, q2, q3', nq, q4, q5, q6⟩ := id s3
          refine pick2 (pick3 ?_)
          by_cases gb : (cs.1 54) = 0
          · exact br_t gb (yes (e7 2 (by omega) (f1 (p1.symm.trans gb) ⟨rfl, hT, hK, hC, er2, hV, s0, s1, s2, s3⟩)))
          · refine br_f gb (no ?_)
            have gb1 : ¬ (ms.2.1 10) 2 = 0 := fun z => gb (p1.trans z)
            by_cases gb' : (cs.1 56) = 0
            · exact br_t gb' (yes (e7 2 (by omega) (f2 gb1 (q1.symm.trans gb') ⟨rfl, hT, hK, hC, er2, hV, s0, s1, s2, s3⟩)))
            · refine br_f gb' (no ?_)
              have gb2 : ¬ (ms.2.1 10) 3 = 0 := fun z => gb' (q1.trans z)
              by_cases ge : (cs.1 54) = (cs.1 56)
              · refine br_t ge ?_
                have ge2 : (ms.2.1 10) 2 = (ms.2.1 10) 3 := p1.symm.trans (ge.trans q1)
                by_cases gM : mvM np nq a2 a4 a5
                · obtain ⟨i, len, j, rfl, rfl, rfl, h1, h2⟩ := gM
                  refine p3_hasRunT p5 h1 p4 (yes (p3_hasRunT q5 h2 q4 (yes ?_)))
                  rw [nI_clamp (n := i) (by omega), nI_clamp (n := j) (by omega), nI_clamp (n := len) (by omega)]
                  refine ⟨nI_pos (by omega), nI_pos (by omega), nI_pos (by omega), by omega, by omega, f5 np nq i len j p4 q4 (p2.symm.trans p5) (q2.symm.trans q5) gb1 gb2 ge2 h1 h2 (fun number' lifted' hN => ?_)⟩
                  have S : SR (cs.1 56) (cs.1 57) (va_cpy (cs.2.1 38) (cs.2.1 39) i j len) ((ms.2.1 10) 3) ((ms.2.1 11) 3) (fun x => number' (40 * 3 + x)) := by
                    refine ⟨q1, q2, q3', nq, q4, q5, fun x hx => ?_⟩
                    show va_cpy _ _ _ _ _ x = number' _
                    rw [hN]
                    by_cases w : j ≤ x ∧ x < j + len
                    · rw [pk_cpy_in w.1 w.2, if_pos (by omega), p6 (i + (x - j)) (by omega)]
                      have ei : 40 * 2 + (i + (x - j)) = 40 * 2 + i + (40 * 3 + x - (40 * 3 + j)) := by omega
                      exact congrArg (ms.2.1 12) ei
                    · rw [pk_cpy_out (by omega), if_neg (by omega)]
                      exact q6 x hx
                  refine ⟨rfl, hT, hK, hC, hE, hV, ?_, ?_, ?_, ?_⟩
                  · first
                      | exact S
                      | exact SR_ag s0 rfl rfl (fun x hx => (hN _).trans (if_neg (by omega)))
                  · first
                      | exact S
                      | exact SR_ag s1 rfl rfl (fun x hx => (hN _).trans (if_neg (by omega)))
                  · first
                      | exact S
                      | exact SR_ag s2 rfl rfl (fun x hx => (hN _).trans (if_neg (by omega)))
                  · first
                      | exact S
                      | exact SR_ag s3 rfl rfl (fun x hx => (hN _).trans (if_neg (by omega)))
                · by_cases gF : ∃ i len, a2 = nI i ∧ a5 = nI len ∧ i + len ≤ np
                  · obtain ⟨i, len, rfl, rfl, w⟩ := gF
                    exact p3_hasRunT p5 w p4 (yes (p3_hasRunF q5 q4 (fun ⟨j, l', ej, el, w'⟩ => gM ⟨i, len, j, rfl, rfl, ej, w, by
                      have := (nI_eq (a := len) (b := l') (by omega) (by omega)).mp el
                      omega⟩) (no (e7 1 (by omega) (f4 np nq p4 q4 (p2.symm.trans p5) (q2.symm.trans q5) gb1 gb2 ge2 gM ⟨rfl, hT, hK, hC, er, hV, s0, s1, s2, s3⟩)))))
                  · exact p3_hasRunF p5 p4 gF (no (e7 1 (by omega) (f4 np nq p4 q4 (p2.symm.trans p5) (q2.symm.trans q5) gb1 gb2 ge2 gM ⟨rfl, hT, hK, hC, er, hV, s0, s1, s2, s3⟩)))
              · exact br_f ge (e7 5 (by omega) (f3 gb1 gb2 (fun z => ge (p1.trans (z.trans q1.symm))) ⟨rfl, hT, hK, hC, er5, hV, s0, s1, s2, s3⟩))
      · rcases hq' with rfl | rfl | rfl | rfl
        · obtain ⟨p1, p2, p3', np, p4, p5, p6⟩ := id s3
          obtain ⟨q1, q2, q3', nq, q4, q5, q6⟩ := id s0
          refine pick3 (pick0 ?_)
          by_cases gb : (cs.1 56) = 0
          · exact br_t gb (yes (e7 2 (by omega) (f1 (p1.symm.trans gb) ⟨rfl, hT, hK, hC, er2, hV, s0, s1, s2, s3⟩)))
          · refine br_f gb (no ?_)
            have gb1 : ¬ (ms.2.1 10) 3 = 0 := fun z => gb (p1.trans z)
            by_cases gb' : (cs.1 50) = 0
            · exact br_t gb' (yes (e7 2 (by omega) (f2 gb1 (q1.symm.trans gb') ⟨rfl, hT, hK, hC, er2, hV, s0, s1, s2, s3⟩)))
            · refine br_f gb' (no ?_)
              have gb2 : ¬ (ms.2.1 10) 0 = 0 := fun z => gb' (q1.trans z)
              by_cases ge : (cs.1 56) = (cs.1 50)
              · refine br_t ge ?_
                have ge2 : (ms.2.1 10) 3 = (ms.2.1 10) 0 := p1.symm.trans (ge.trans q1)
                by_cases gM : mvM np nq a2 a4 a5
                · obtain ⟨i, len, j, rfl, rfl, rfl, h1, h2⟩ := gM
                  refine p3_hasRunT p5 h1 p4 (yes (p3_hasRunT q5 h2 q4 (yes ?_)))
                  rw [nI_clamp (n := i) (by omega), nI_clamp (n := j) (by omega), nI_clamp (n := len) (by omega)]
                  refine ⟨nI_pos (by omega), nI_pos (by omega), nI_pos (by omega), by omega, by omega, f5 np nq i len j p4 q4 (p2.symm.trans p5) (q2.symm.trans q5) gb1 gb2 ge2 h1 h2 (fun number' lifted' hN => ?_)⟩
                  have S : SR (cs.1 50) (cs.1 51) (va_cpy (cs.2.1 39) (cs.2.1 36) i j len) ((ms.2.1 10) 0) ((ms.2.1 11) 0) (fun x => number' (40 * 0 + x)) := by
                    refine ⟨q1, q2, q3', nq, q4, q5, fun x hx => ?_⟩
                    show va_cpy _ _ _ _ _ x = number' _
                    rw [hN]
                    by_cases w : j ≤ x ∧ x < j + len
                    · rw [pk_cpy_in w.1 w.2, if_pos (by omega), p6 (i + (x - j)) (by omega)]
                      have ei : 40 * 3 + (i + (x - j)) = 40 * 3 + i + (40 * 0 + x - (40 * 0 + j)) := by omega
                      exact congrArg (ms.2.1 12) ei
                    · rw [pk_cpy_out (by omega), if_neg (by omega)]
                      exact q6 x hx
                  refine ⟨rfl, hT, hK, hC, hE, hV, ?_, ?_, ?_, ?_⟩
                  · first
                      | exact S
                      | exact SR_ag s0 rfl rfl (fun x hx => (hN _).trans (if_neg (by omega)))
                  · first
                      | exact S
                      | exact SR_ag s1 rfl rfl (fun x hx => (hN _).trans (if_neg (by omega)))
                  · first
                      | exact S
                      | exact SR_ag s2 rfl rfl (fun x hx => (hN _).trans (if_neg (by omega)))
                  · first
                      | exact S
                      | exact SR_ag s3 rfl rfl (fun x hx => (hN _).trans (if_neg (by omega)))
                · by_cases gF : ∃ i len, a2 = nI i ∧ a5 = nI len ∧ i + len ≤ np
                  · obtain ⟨i, len, rfl, rfl, w⟩ := gF
                    exact p3_hasRunT p5 w p4 (yes (p3_hasRunF q5 q4 (fun ⟨j, l', ej, el, w'⟩ => gM ⟨i, len, j, rfl, rfl, ej, w, by
                      have := (nI_eq (a := len) (b := l') (by omega) (by omega)).mp el
                      omega⟩) (no (e7 1 (by omega) (f4 np nq p4 q4 (p2.symm.trans p5) (q2.symm.trans q5) gb1 gb2 ge2 gM ⟨rfl, hT, hK, hC, er, hV, s0, s1, s2, s3⟩)))))
                  · exact p3_hasRunF p5 p4 gF (no (e7 1 (by omega) (f4 np nq p4 q4 (p2.symm.trans p5) (q2.symm.trans q5) gb1 gb2 ge2 gM ⟨rfl, hT, hK, hC, er, hV, s0, s1, s2, s3⟩)))
              · exact br_f ge (e7 5 (by omega) (f3 gb1 gb2 (fun z => ge (p1.trans (z.trans q1.symm))) ⟨rfl, hT, hK, hC, er5, hV, s0, s1, s2, s3⟩))
        · obtain ⟨p1, p2, p3', np, p4, p5, p6⟩ := id s3
          obtain ⟨q1, q2, q3', nq, q4, q5, q6⟩ := id s1
          refine pick3 (pick1 ?_)
          by_cases gb : (cs.1 56) = 0
          · exact br_t gb (yes (e7 2 (by omega) (f1 (p1.symm.trans gb) ⟨rfl, hT, hK, hC, er2, hV, s0, s1, s2, s3⟩)))
          · refine br_f gb (no ?_)
            have gb1 : ¬ (ms.2.1 10) 3 = 0 := fun z => gb (p1.trans z)
            by_cases gb' : (cs.1 52) = 0
            · exact br_t gb' (yes (e7 2 (by omega) (f2 gb1 (q1.symm.trans gb') ⟨rfl, hT, hK, hC, er2, hV, s0, s1, s2, s3⟩)))
            · refine br_f gb' (no ?_)
              have gb2 : ¬ (ms.2.1 10) 1 = 0 := fun z => gb' (q1.trans z)
              by_cases ge : (cs.1 56) = (cs.1 52)
              · refine br_t ge ?_
                have ge2 : (ms.2.1 10) 3 = (ms.2.1 10) 1 := p1.symm.trans (ge.trans q1)
                by_cases gM : mvM np nq a2 a4 a5
                · obtain ⟨i, len, j, rfl, rfl, rfl, h1, h2⟩ := gM
                  refine p3_hasRunT p5 h1 p4 (yes (p3_hasRunT q5 h2 q4 (yes ?_)))
                  rw [nI_clamp (n := i) (by omega), nI_clamp (n := j) (by omega), nI_clamp (n := len) (by omega)]
                  refine ⟨nI_pos (by omega), nI_pos (by omega), nI_pos (by omega), by omega, by omega, f5 np nq i len j p4 q4 (p2.symm.trans p5) (q2.symm.trans q5) gb1 gb2 ge2 h1 h2 (fun number' lifted' hN => ?_)⟩
                  have S : SR (cs.1 52) (cs.1 53) (va_cpy (cs.2.1 39) (cs.2.1 37) i j len) ((ms.2.1 10) 1) ((ms.2.1 11) 1) (fun x => number' (40 * 1 + x)) := by
                    refine ⟨q1, q2, q3', nq, q4, q5, fun x hx => ?_⟩
                    show va_cpy _ _ _ _ _ x = number' _
                    rw [hN]
                    by_cases w : j ≤ x ∧ x < j + len
                    · rw [pk_cpy_in w.1 w.2, if_pos (by omega), p6 (i + (x - j)) (by omega)]
                      have ei : 40 * 3 + (i + (x - j)) = 40 * 3 + i + (40 * 1 + x - (40 * 1 + j)) := by omega
                      exact congrArg (ms.2.1 12) ei
                    · rw [pk_cpy_out (by omega), if_neg (by omega)]
                      exact q6 x hx
                  refine ⟨rfl, hT, hK, hC, hE, hV, ?_, ?_, ?_, ?_⟩
                  · first
                      | exact S
                      | exact SR_ag s0 rfl rfl (fun x hx => (hN _).trans (if_neg (by omega)))
                  · first
                      | exact S
                      | exact SR_ag s1 rfl rfl (fun x hx => (hN _).trans (if_neg (by omega)))
                  · first
                      | exact S
                      | exact SR_ag s2 rfl rfl (fun x hx => (hN _).trans (if_neg (by omega)))
                  · first
                      | exact S
                      | exact SR_ag s3 rfl rfl (fun x hx => (hN _).trans (if_neg (by omega)))
                · by_cases gF : ∃ i len, a2 = nI i ∧ a5 = nI len ∧ i + len ≤ np
                  · obtain ⟨i, len, rfl, rfl, w⟩ := gF
                    exact p3_hasRunT p5 w p4 (yes (p3_hasRunF q5 q4 (fun ⟨j, l', ej, el, w'⟩ => gM ⟨i, len, j, rfl, rfl, ej, w, by
                      have := (nI_eq (a := len) (b := l') (by omega) (by omega)).mp el
                      omega⟩) (no (e7 1 (by omega) (f4 np nq p4 q4 (p2.symm.trans p5) (q2.symm.trans q5) gb1 gb2 ge2 gM ⟨rfl, hT, hK, hC, er, hV, s0, s1, s2, s3⟩)))))
                  · exact p3_hasRunF p5 p4 gF (no (e7 1 (by omega) (f4 np nq p4 q4 (p2.symm.trans p5) (q2.symm.trans q5) gb1 gb2 ge2 gM ⟨rfl, hT, hK, hC, er, hV, s0, s1, s2, s3⟩)))
              · exact br_f ge (e7 5 (by omega) (f3 gb1 gb2 (fun z => ge (p1.trans (z.trans q1.symm))) ⟨rfl, hT, hK, hC, er5, hV, s0, s1, s2, s3⟩))
        · obtain ⟨p1, p2, p3', np, p4, p5, p6⟩ := id s3
          obtain ⟨q1, q2, q3', nq, q4, q5, q6⟩ := id s2
          refine pick3 (pick2 ?_)
          by_cases gb : (cs.1 56) = 0
          · exact br_t gb (yes (e7 2 (by omega) (f1 (p1.symm.trans gb) ⟨rfl, hT, hK, hC, er2, hV, s0, s1, s2, s3⟩)))
          · refine br_f gb (no ?_)
            have gb1 : ¬ (ms.2.1 10) 3 = 0 := fun z => gb (p1.trans z)
            by_cases gb' : (cs.1 54) = 0
            · exact br_t gb' (yes (e7 2 (by omega) (f2 gb1 (q1.symm.trans gb') ⟨rfl, hT, hK, hC, er2, hV, s0, s1, s2, s3⟩)))
            · refine br_f gb' (no ?_)
              have gb2 : ¬ (ms.2.1 10) 2 = 0 := fun z => gb' (q1.trans z)
              by_cases ge : (cs.1 56) = (cs.1 54)
              · refine br_t ge ?_
                have ge2 : (ms.2.1 10) 3 = (ms.2.1 10) 2 := p1.symm.trans (ge.trans q1)
                by_cases gM : mvM np nq a2 a4 a5
                · obtain ⟨i, len, j, rfl, rfl, rfl, h1, h2⟩ := gM
                  refine p3_hasRunT p5 h1 p4 (yes (p3_hasRunT q5 h2 q4 (yes ?_)))
                  rw [nI_clamp (n := i) (by omega), nI_clamp (n := j) (by omega), nI_clamp (n := len) (by omega)]
                  refine ⟨nI_pos (by omega), nI_pos (by omega), nI_pos (by omega), by omega, by omega, f5 np nq i len j p4 q4 (p2.symm.trans p5) (q2.symm.trans q5) gb1 gb2 ge2 h1 h2 (fun number' lifted' hN => ?_)⟩
                  have S : SR (cs.1 54) (cs.1 55) (va_cpy (cs.2.1 39) (cs.2.1 38) i j len) ((ms.2.1 10) 2) ((ms.2.1 11) 2) (fun x => number' (40 * 2 + x)) := by
                    refine ⟨q1, q2, q3', nq, q4, q5, fun x hx => ?_⟩
                    show va_cpy _ _ _ _ _ x = number' _
                    rw [hN]
                    by_cases w : j ≤ x ∧ x < j + len
                    · rw [pk_cpy_in w.1 w.2, if_pos (by omega), p6 (i + (x - j)) (by omega)]
                      have ei : 40 * 3 + (i + (x - j)) = 40 * 3 + i + (40 * 2 + x - (40 * 2 + j)) := by omega
                      exact congrArg (ms.2.1 12) ei
                    · rw [pk_cpy_out (by omega), if_neg (by omega)]
                      exact q6 x hx
                  refine ⟨rfl, hT, hK, hC, hE, hV, ?_, ?_, ?_, ?_⟩
                  · first
                      | exact S
                      | exact SR_ag s0 rfl rfl (fun x hx => (hN _).trans (if_neg (by omega)))
                  · first
                      | exact S
                      | exact SR_ag s1 rfl rfl (fun x hx => (hN _).trans (if_neg (by omega)))
                  · first
                      | exact S
                      | exact SR_ag s2 rfl rfl (fun x hx => (hN _).trans (if_neg (by omega)))
                  · first
                      | exact S
                      | exact SR_ag s3 rfl rfl (fun x hx => (hN _).trans (if_neg (by omega)))
                · by_cases gF : ∃ i len, a2 = nI i ∧ a5 = nI len ∧ i + len ≤ np
                  · obtain ⟨i, len, rfl, rfl, w⟩ := gF
                    exact p3_hasRunT p5 w p4 (yes (p3_hasRunF q5 q4 (fun ⟨j, l', ej, el, w'⟩ => gM ⟨i, len, j, rfl, rfl, ej, w, by
                      have := (nI_eq (a := len) (b := l') (by omega) (by omega)).mp el
                      omega⟩) (no (e7 1 (by omega) (f4 np nq p4 q4 (p2.symm.trans p5) (q2.symm.trans q5) gb1 gb2 ge2 gM ⟨rfl, hT, hK, hC, er, hV, s0, s1, s2, s3⟩)))))
                  · exact p3_hasRunF p5 p4 gF (no (e7 1 (by omega) (f4 np nq p4 q4 (p2.symm.trans p5) (q2.symm.trans q5) gb1 gb2 ge2 gM ⟨rfl, hT, hK, hC, er, hV, s0, s1, s2, s3⟩)))
              · exact br_f ge (e7 5 (by omega) (f3 gb1 gb2 (fun z => ge (p1.trans (z.trans q1.symm))) ⟨rfl, hT, hK, hC, er5, hV, s0, s1, s2, s3⟩))
        · obtain ⟨p1, p2, p3', np, p4, p5, p6⟩ := id s3
          obtain ⟨q1, q2, q3', nq, q4, q5, q6⟩ := id s3
          refine pick3 (pick3 ?_)
          by_cases gb : (cs.1 56) = 0
          · exact br_t gb (yes (e7 2 (by omega) (f1 (p1.symm.trans gb) ⟨rfl, hT, hK, hC, er2, hV, s0, s1, s2, s3⟩)))
          · refine br_f gb (no ?_)
            have gb1 : ¬ (ms.2.1 10) 3 = 0 := fun z => gb (p1.trans z)
            by_cases gb' : (cs.1 56) = 0
            · exact br_t gb' (yes (e7 2 (by omega) (f2 gb1 (q1.symm.trans gb') ⟨rfl, hT, hK, hC, er2, hV, s0, s1, s2, s3⟩)))
            · refine br_f gb' (no ?_)
              have gb2 : ¬ (ms.2.1 10) 3 = 0 := fun z => gb' (q1.trans z)
              by_cases ge : (cs.1 56) = (cs.1 56)
              · refine br_t ge ?_
                have ge2 : (ms.2.1 10) 3 = (ms.2.1 10) 3 := p1.symm.trans (ge.trans q1)
                by_cases gM : mvM np nq a2 a4 a5
                · obtain ⟨i, len, j, rfl, rfl, rfl, h1, h2⟩ := gM
                  refine p3_hasRunT p5 h1 p4 (yes (p3_hasRunT q5 h2 q4 (yes ?_)))
                  rw [nI_clamp (n := i) (by omega), nI_clamp (n := j) (by omega), nI_clamp (n := len) (by omega)]
                  refine ⟨nI_pos (by omega), nI_pos (by omega), nI_pos (by omega), by omega, by omega, f5 np nq i len j p4 q4 (p2.symm.trans p5) (q2.symm.trans q5) gb1 gb2 ge2 h1 h2 (fun number' lifted' hN => ?_)⟩
                  have S : SR (cs.1 56) (cs.1 57) (va_cpy (cs.2.1 39) (cs.2.1 39) i j len) ((ms.2.1 10) 3) ((ms.2.1 11) 3) (fun x => number' (40 * 3 + x)) := by
                    refine ⟨q1, q2, q3', nq, q4, q5, fun x hx => ?_⟩
                    show va_cpy _ _ _ _ _ x = number' _
                    rw [hN]
                    by_cases w : j ≤ x ∧ x < j + len
                    · rw [pk_cpy_in w.1 w.2, if_pos (by omega), p6 (i + (x - j)) (by omega)]
                      have ei : 40 * 3 + (i + (x - j)) = 40 * 3 + i + (40 * 3 + x - (40 * 3 + j)) := by omega
                      exact congrArg (ms.2.1 12) ei
                    · rw [pk_cpy_out (by omega), if_neg (by omega)]
                      exact q6 x hx
                  refine ⟨rfl, hT, hK, hC, hE, hV, ?_, ?_, ?_, ?_⟩
                  · first
                      | exact S
                      | exact SR_ag s0 rfl rfl (fun x hx => (hN _).trans (if_neg (by omega)))
                  · first
                      | exact S
                      | exact SR_ag s1 rfl rfl (fun x hx => (hN _).trans (if_neg (by omega)))
                  · first
                      | exact S
                      | exact SR_ag s2 rfl rfl (fun x hx => (hN _).trans (if_neg (by omega)))
                  · first
                      | exact S
                      | exact SR_ag s3 rfl rfl (fun x hx => (hN _).trans (if_neg (by omega)))
                · by_cases gF : ∃ i len, a2 = nI i ∧ a5 = nI len ∧ i + len ≤ np
                  · obtain ⟨i, len, rfl, rfl, w⟩ := gF
                    exact p3_hasRunT p5 w p4 (yes (p3_hasRunF q5 q4 (fun ⟨j, l', ej, el, w'⟩ => gM ⟨i, len, j, rfl, rfl, ej, w, by
                      have := (nI_eq (a := len) (b := l') (by omega) (by omega)).mp el
                      omega⟩) (no (e7 1 (by omega) (f4 np nq p4 q4 (p2.symm.trans p5) (q2.symm.trans q5) gb1 gb2 ge2 gM ⟨rfl, hT, hK, hC, er, hV, s0, s1, s2, s3⟩)))))
                  · exact p3_hasRunF p5 p4 gF (no (e7 1 (by omega) (f4 np nq p4 q4 (p2.symm.trans p5) (q2.symm.trans q5) gb1 gb2 ge2 gM ⟨rfl, hT, hK, hC, er, hV, s0, s1, s2, s3⟩)))
              · exact br_f ge (e7 5 (by omega) (f3 gb1 gb2 (fun z => ge (p1.trans (z.trans q1.symm))) ⟨rfl, hT, hK, hC, er5, hV, s0, s1, s2, s3⟩))
    · exact s7t g1 (yes (s7f g2 (no (e7 1 (by omega) (s8t g1 (yes (s8f g2 (no (e8 1 (by omega) ⟨rfl, hT, hK, hC, er, hV, s0, s1, s2, s3⟩)))))))))
  · exact s7f g1 (no (e7 1 (by omega) (s8f g1 (no (e8 1 (by omega) ⟨rfl, hT, hK, hC, er, hV, s0, s1, s2, s3⟩)))))
