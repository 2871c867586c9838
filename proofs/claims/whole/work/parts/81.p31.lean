/-! PURE 31: odds -/
def oN (t : TT) (n i : Nat) : Nat → Nat
  | 0 => 0
  | j + 1 => oN t n i j + wF t n (10 * j) / 2 ^ i % 2
theorem oN_le {t : TT} {n i : Nat} : ∀ j, oN t n i j ≤ j := by
  intro j
  induction j with
  | zero => exact Nat.le_refl 0
  | succ j ih =>
    have h := Nat.mod_lt (wF t n (10 * j) / 2 ^ i) (show 0 < 2 by omega)
    show oN t n i j + wF t n (10 * j) / 2 ^ i % 2 ≤ j + 1
    generalize wF t n (10 * j) / 2 ^ i % 2 = q at h ⊢
    omega
theorem s7_common {c : Nat} (hc : c ≤ 10) {P : Int32 → Prop} (h : P (nI (Nat.gcd c 10))) : wp_X7_commonWithTen (nI c) P := by
  have q : ∀ c, c ≤ 10 → Nat.gcd c 10 = if c % 10 = 0 then 10 else if c % 5 = 0 then 5 else if c % 2 = 0 then 2 else 1 := by decide +kernel
  rw [q c hc] at h
  unfold wp_X7_commonWithTen
  rw [show vrem (nI c) (10 : Int32) = nI (c % 10) from vrem_nI (b := 10) (by omega) (by omega) (by omega), show vrem (nI c) (5 : Int32) = nI (c % 5) from vrem_nI (b := 5) (by omega) (by omega) (by omega), show vrem (nI c) (2 : Int32) = nI (c % 2) from vrem_nI (b := 2) (by omega) (by omega) (by omega)]
  have z : ∀ x : Nat, x < 10 → (nI x = 0 ↔ x = 0) := fun x hx => nI_eq (a := x) (b := 0) (by omega) (by omega)
  refine ⟨fun e => ?_, fun e => ⟨fun f => ?_, fun f => ⟨fun g => ?_, fun g => ?_⟩⟩⟩
  · rw [if_pos ((z _ (by omega)).mp e)] at h; exact h
  · rw [if_neg (fun w => e ((z _ (by omega)).mpr w)), if_pos ((z _ (by omega)).mp f)] at h; exact h
  · rw [if_neg (fun w => e ((z _ (by omega)).mpr w)), if_neg (fun w => f ((z _ (by omega)).mpr w)), if_pos ((z _ (by omega)).mp g)] at h; exact h
  · rw [if_neg (fun w => e ((z _ (by omega)).mpr w)), if_neg (fun w => f ((z _ (by omega)).mpr w)), if_neg (fun w => g ((z _ (by omega)).mpr w))] at h; exact h
theorem s8_commonL {P : Int32 → Prop} : ∀ k x y : Nat, y ≤ k → x < 2 ^ 30 → y < 2 ^ 30 → P (nI (Nat.gcd x y)) → wp_X8_common_b4 P (k + 1) (nI x) (nI y) := by
  intro k
  induction k with
  | zero =>
    intro x y hy _ _ h
    have e : y = 0 := by omega
    subst e
    rw [Nat.gcd_zero_right] at h
    exact br_t rfl h
  | succ k ih =>
    intro x y hy hx hy2 h
    by_cases e : y = 0
    · subst e
      rw [Nat.gcd_zero_right] at h
      exact br_t rfl h
    · have ne : ¬ nI y = 0 := fun w => e ((nI_eq (b := 0) (by omega) (by omega)).mp w)
      refine br_f ne ⟨ne, ?_⟩
      rw [vrem_nI (by omega) (by omega) (by omega)]
      have m := Nat.mod_lt x (show 0 < y by omega)
      refine ih y (x % y) (by omega) hy2 (by omega) ?_
      rw [Nat.gcd_comm y, ← Nat.gcd_rec, Nat.gcd_comm]
      exact h
theorem s8_common {c : Nat} (hc : c ≤ 10) {P : Int32 → Prop} (h : P (nI (Nat.gcd c 10))) : wp_X8_common (nI c) (10 : Int32) P := ⟨11, s8_commonL 10 c 10 (by omega) (by omega) (by omega) h⟩
theorem gcd10 {c : Nat} : ¬ nI (Nat.gcd c 10) = 0 := fun w => by
  have h1 := Nat.gcd_le_right c (show 0 < 10 by omega)
  have h2 := Nat.gcd_pos_of_pos_right c (show 0 < 10 by omega)
  have := (nI_eq (b := 0) (by omega) (by omega)).mp w
  omega
theorem ten_mul (j : Nat) : nI j * (10 : Int32) = nI (10 * j) := (pk_mul j 10).trans (by rw [Nat.mul_comm])
theorem bitF {t : TT} (hI : TI t) {n i f : Nat} (hi : i < 8) (hf : f ≤ 99) : ((nI (hrN (t.1.1, f, t.1.2.2) t.2.1 n).2.2.2.2.2 >>> (nI i &&& 31)) &&& (1 : Int32)) = nI (wF t n f / 2 ^ i % 2) := nI_bit (D := wF t n f) (Nat.lt_of_lt_of_le (wF_b hI hf) (by omega)) (by omega)
theorem s7_oddsLoop {i n : Nat} {t : TT} (hI : TI t) (hi : i < 8) (hn : n ≤ 1000) (ho : t.2.1.2.2.2.2.1 + n ≤ 20000) {cs : CS} {a b : Nat} (hC : TC (cs.1 1) (cs.1 2) (cs.1 3) (cs.1 4) (cs.1 5) (cs.1 6) (cs.1 7) (cs.2.1 0) (cs.2.1 1) (cs.2.1 2) (cs.2.1 3) (cs.1 10) (cs.1 12) (cs.2.1 5) (cs.2.1 7) t) {wuse guse : Int32} (hw : wuse = 0) (hg : guse = 1) (ha : a ≤ 50) (hb : b ≤ 20) (ea : (cs.1 13) = nI a) (eb : (cs.1 14) = nI b) (a3 : Int32) (errors : Nat → Int32) (post : _)
    (hp : ∀ (o1 o2 o3 o4 o5 o6 o7 o8 : Int32) (r1 r2 r3 r4 r5 : Nat → Int32) (o9 o10 o11 : Int32) (r6 : Nat → Int32) (o12 : Int32) (r7 r8 r9 r10 r11 : Nat → Int32), (a3 = 0 → post (nI (oN t n i 10) / nI (Nat.gcd (oN t n i 10) 10)) o1 o2 o3 o4 o5 o6 o7 o8 errors r1 r2 r3 r4 r5 o9 o10 o11 r6 o12 r7 r8 r9 r10 r11) ∧ (¬ a3 = 0 → post ((10 : Int32) / nI (Nat.gcd (oN t n i 10) 10)) o1 o2 o3 o4 o5 o6 o7 o8 errors r1 r2 r3 r4 r5 o9 o10 o11 r6 o12 r7 r8 r9 r10 r11)) :
    ∀ k j, j + k = 10 → ∀ (o1 o2 o3 o4 o5 o6 o7 o8 : Int32) (r1 r2 r3 r4 r5 : Nat → Int32) (o9 o10 o11 : Int32) (r6 : Nat → Int32) (o12 : Int32) (r7 r8 r9 r10 r11 : Nat → Int32), wp_X7_odds_b39 (nI i) (nI n) a3 (cs.1 1) (cs.1 2) (cs.1 3) (cs.1 4) (cs.1 5) (cs.1 6) (cs.1 7) (cs.1 8) (cs.2.1 0) (cs.2.1 1) (cs.2.1 2) (cs.2.1 3) (cs.1 13) (cs.1 14) wuse guse (cs.1 10) (cs.1 12) (cs.2.1 9) (cs.2.1 10) (cs.2.1 5) (cs.2.1 7) post (k + 1) (nI (oN t n i j)) (nI j) o1 o2 o3 o4 o5 o6 o7 o8 errors r1 r2 r3 r4 r5 o9 o10 o11 r6 o12 r7 r8 r9 r10 r11 := by
  intro k
  induction k with
  | zero =>
    intro j hj o1 o2 o3 o4 o5 o6 o7 o8 r1 r2 r3 r4 r5 o9 o10 o11 r6 o12 r7 r8 r9 r10 r11
    have e : j = 10 := by omega
    subst e
    exact br_t (by decide) (s7_common (oN_le 10) ⟨fun q => ⟨gcd10, (hp o1 o2 o3 o4 o5 o6 o7 o8 r1 r2 r3 r4 r5 o9 o10 o11 r6 o12 r7 r8 r9 r10 r11).1 q⟩, fun q => ⟨gcd10, (hp o1 o2 o3 o4 o5 o6 o7 o8 r1 r2 r3 r4 r5 o9 o10 o11 r6 o12 r7 r8 r9 r10 r11).2 q⟩⟩)
  | succ k ih =>
    intro j hj o1 o2 o3 o4 o5 o6 o7 o8 r1 r2 r3 r4 r5 o9 o10 o11 r6 o12 r7 r8 r9 r10 r11
    refine br_f (nI_ge (b := 10) (by omega) (by omega)) ?_
    rw [ten_mul]
    refine s7_contentWith (f := 10 * j) hI hC (by omega) hn ho hw hg ha hb ea eb (fun o1 o2 o3 o4 o5 o6 o7 o8 r1 r2 r3 r4 r5 o9 o10 o11 r6 o12 r7 r8 r9 r10 r11 _ => ?_)
    rw [bitF hI hi (by omega), nI_add, nI_1]
    exact ih (j + 1) (by omega) o1 o2 o3 o4 o5 o6 o7 o8 r1 r2 r3 r4 r5 o9 o10 o11 r6 o12 r7 r8 r9 r10 r11
theorem s8_oddsLoop {i n : Nat} {t : TT} (hI : TI t) (hi : i < 8) (hn : n ≤ 1000) (n1 : n ≠ 0) (ho : t.2.1.2.2.2.2.1 + n ≤ 20000) {dA aside found : Nat → Int32} (hT : TM dA t) (ha : ∀ i, i < 57 → aside i = dA i) (a3 : Int32) (post : _)
    (hp : ∀ (ct : Nat) (na pi fl : Nat → Int32), ct < 256 → (a3 = 0 → post (nI (oN t n i 10) / nI (Nat.gcd (oN t n i 10) 10)) (nI ct) dA aside found na pi fl) ∧ (¬ a3 = 0 → post ((10 : Int32) / nI (Nat.gcd (oN t n i 10) 10)) (nI ct) dA aside found na pi fl)) :
    ∀ k j, j + k = 10 → ∀ (ct : Nat) (na pi fl : Nat → Int32), ct < 256 → wp_X8_odds_b46 (nI i) (nI n) a3 post (k + 1) (nI (oN t n i j)) (nI (10 * j)) (nI ct) dA aside found na pi fl := by
  intro k
  induction k with
  | zero =>
    intro j hj ct na pi fl hct
    have e : j = 10 := by omega
    subst e
    exact br_t (by decide) ⟨fun q => s8_common (oN_le 10) ⟨gcd10, (hp ct na pi fl hct).1 q⟩, fun q => s8_common (oN_le 10) ⟨gcd10, (hp ct na pi fl hct).2 q⟩⟩
  | succ k ih =>
    intro j hj ct na pi fl hct
    refine br_f (nI_ge (a := 10 * j) (b := 100) (by omega) (by omega)) ?_
    rw [kc2]
    have k2 : kp dA (upd dA 2 (nI (10 * j))) := kp_up (by omega) (by omega) (by omega) (by omega)
    refine s8_hoursT (t := ((t.1.1, 10 * j, t.1.2.2), t.2)) ⟨ZB_f hI.1 (by omega), hI.2⟩ (TM_kp hT k2 (RD_2 hT.1 _)) hn ho rfl hct (fun c' d' na' pi' fl' _ k3 _ ec => ?_)
    have e : c' = wF t n (10 * j) := ec n1
    subst e
    refine s8_back ha (fun i hi => (k3.2.2.2 i hi).trans (k2.2.2.2 i hi)) ?_
    rw [nI_bit (Nat.lt_of_lt_of_le (wF_b hI (f := 10 * j) (by omega)) (by omega)) (by omega), nI_add, show nI (10 * j) + (10 : Int32) = nI (10 * (j + 1)) from nI_add (10 * j) 10]
    exact ih (j + 1) (by omega) _ na' pi' fl' (wF_b hI (by omega))
theorem st_odds : ST_odds Rel := by
  intro cs ms h a1 a2 a3
  obtain ⟨hT, hK, hC, hE, hV, s0, s1, s2, s3⟩ := id h
  have er := er_up hE (k := 1) (by omega)
  obtain ⟨t, a, b, i1, i2, i3, i4, i5, i6, i7⟩ := id hT
  have f6 := i3.2.2.2.2.2.1
  obtain ⟨ct, bc, hct⟩ := id hC
  have hN := i1.1.2.2.1
  unfold wp_X7_odds
  rw [f6]
  by_cases g1 : ∃ i, i < t.1.2.2.1 ∧ a1 = nI i
  · obtain ⟨i, hi, rfl⟩ := g1
    have i8 : i < 8 := by omega
    refine h7t hi hN (yes ?_)
    by_cases g2 : 1 ≤ a2 ∧ a2 ≤ 60
    · by_cases g3 : 0 ≤ a3 ∧ a3 ≤ 1
      · obtain ⟨n, n1, hn, rfl⟩ := rg1 (l := 1) (m := 60) (by omega) (by omega) g2
        refine w7t g2 (yes (w7t g3 (yes ⟨11, ?_⟩)))
        rw [← f6]
        have ref : ∀ {P : _}, (∀ (as : Nat → Int32) (ct : Nat) (na pi fl : Nat → Int32), ct < 256 → (a3 = 0 → P (nI (oN t n i 10) / nI (Nat.gcd (oN t n i 10) 10)) (nI ct) (ms.2.1 0) as (ms.2.1 3) na pi fl) ∧ (¬ a3 = 0 → P ((10 : Int32) / nI (Nat.gcd (oN t n i 10) 10)) (nI ct) (ms.2.1 0) as (ms.2.1 3) na pi fl)) → wp_X8_odds (nI i) (nI n) a3 (ms.1 8) (ms.2.1 0) (ms.2.1 2) (ms.2.1 3) (ms.2.1 4) (ms.2.1 6) (ms.2.1 7) P := fun {P} p => h8t hi hN i4.1.1 (yes (w8t 1 60 g2 (yes (w8t 0 1 g3 (yes (s8_keepAside (fun a' hA => ⟨11, by
          rw [hct]
          exact s8_oddsLoop i1 i8 (by omega) (by omega) (by omega) i4 hA a3 P (fun ct na pi fl h => p a' ct na pi fl h) 10 0 rfl ct _ _ _ bc⟩)))))))
        exact s7_oddsLoop i1 i8 (by omega) (by omega) i3 hK.2.2.2.2.1 hK.2.2.2.2.2 i6.1 i7.1 i6.2.1 i7.2.1 a3 _ _ (fun _ _ _ _ _ _ _ _ _ _ _ _ _ _ _ _ _ _ _ _ _ _ _ => ⟨fun q => ref (fun as ct' na pi fl hct' => ⟨fun _ => ⟨rfl, hT, hK, ⟨ct', hct', rfl⟩, hE, hV, s0, s1, s2, s3⟩, fun w => absurd q w⟩), fun q => ref (fun as ct' na pi fl hct' => ⟨fun w => absurd w q, fun _ => ⟨rfl, hT, hK, ⟨ct', hct', rfl⟩, hE, hV, s0, s1, s2, s3⟩⟩)⟩) 10 0 rfl _ _ _ _ _ _ _ _ _ _ _ _ _ _ _ _ _ _ _ _ _ _ _
      · exact w7t g2 (yes (w7f g3 (no (e7 1 (by omega) (h8t hi hN i4.1.1 (yes (w8t 1 60 g2 (yes (w8f 0 1 g3 (no (e8 1 (by omega) ⟨rfl, hT, hK, hC, er, hV, s0, s1, s2, s3⟩)))))))))))
    · exact w7f g2 (no (e7 1 (by omega) (h8t hi hN i4.1.1 (yes (w8f 1 60 g2 (no (e8 1 (by omega) ⟨rfl, hT, hK, hC, er, hV, s0, s1, s2, s3⟩)))))))
  · exact h7f g1 hN (no (e7 1 (by omega) (h8f g1 hN i4.1.1 (no (e8 1 (by omega) ⟨rfl, hT, hK, hC, er, hV, s0, s1, s2, s3⟩)))))
