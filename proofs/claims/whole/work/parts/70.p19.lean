/-! PURE 19: steps: what is counted, told, traced, fed -/
/-- a sum -/
def smI (f : Nat → Int32) : Nat → Int32
  | 0 => 0
  | n + 1 => smI f n + f n
theorem s7_heatOfAll {heat f : Nat → Int32} (e : ∀ c, c < 16 → heat c = f c) {P : Int32 → Prop} (h : P (smI f 16)) : wp_X5_heatOfAll heat P := by
  unfold wp_X5_heatOfAll
  refine lpU (σ := Int32) (fun n x s => wp_X5_heatOfAll_b4 heat P n s x) (fun i s => s = smI f i) 16 0 0 (by omega) rfl (fun n s hI => ?_) (fun n i s hi hI ih => ?_)
  · refine br_t (by decide) ?_
    rw [hI]; exact h
  · refine br_f (nI_ge (a := i) (b := 16) hi (by omega)) ⟨ix hi (by omega), ih _ ?_⟩
    rw [nI_clamp (by omega), e i hi, hI]
    rfl
theorem s8_allHeat {d f : Nat → Int32} (e : ∀ c, c < 16 → d (9 + c) = f c) {P : Int32 → Prop} (h : P (smI f 16)) : wp_X8_allHeat d P := by
  unfold wp_X8_allHeat
  refine lpU (σ := Int32) (fun n x s => wp_X8_allHeat_b4 d P n s x) (fun i s => s = smI f i) 16 0 0 (by omega) rfl (fun n s hI => ?_) (fun n i s hi hI ih => ?_)
  · refine br_t (by decide) ?_
    rw [hI]; exact h
  · refine br_f (nI_ge (a := i) (b := 16) hi (by omega)) ⟨v9 (by omega), ih _ ?_⟩
    rw [i9 (by omega), e i hi, hI]
    rfl
theorem s7_warmOfAll {n : Nat} (hn : n ≤ 8) {warm f : Nat → Int32} (e : ∀ c, c < 8 → warm c = f c) {P : Int32 → Prop} (h : P (smI f n)) : wp_X5_warmOfAll (nI n) warm P := by
  unfold wp_X5_warmOfAll
  refine lpU (σ := Int32) (fun k x s => wp_X5_warmOfAll_b4 (nI n) warm P k s x) (fun i s => s = smI f i) n 0 0 (by omega) rfl (fun k s hI => ?_) (fun k i s hi hI ih => ?_)
  · refine br_t (nI_le (Nat.le_refl n) (by omega)) ?_
    rw [hI]; exact h
  · refine br_f (nI_ge hi (by omega)) (br_f (nI_ge (a := i) (b := 8) (by omega) (by omega)) ⟨ix (by omega) (by omega), ih _ ?_⟩)
    rw [nI_clamp (by omega), e i (by omega), hI]
    rfl
theorem s8_allWarm {n : Nat} (hn : n ≤ 8) {d f : Nat → Int32} (e0 : d 0 = nI n) (e : ∀ c, c < 8 → d (25 + 4 * c + 3) = f c) {P : Int32 → Prop} (h : P (smI f n)) : wp_X8_allWarm d P := by
  unfold wp_X8_allWarm
  refine lpU (σ := Int32) (fun k x s => wp_X8_allWarm_b4 d P k s x) (fun i s => s = smI f i) n 0 0 (by omega) rfl (fun k s hI => ?_) (fun k i s hi hI ih => ?_)
  · show (_ ≤ _ → _) ∧ _
    rw [kc0, e0]
    refine br_t (nI_le (Nat.le_refl n) (by omega)) ?_
    rw [hI]; exact h
  · show (_ ≤ _ → _) ∧ _
    rw [kc0, e0]
    refine br_f (nI_ge hi (by omega)) (p8_of (w := 3) (by omega) (by omega) (ih _ ?_))
    rw [e i (by omega), hI]
    rfl
theorem st_count : ST_count Rel := by
  intro cs ms h a1
  obtain ⟨hT, hK, hC, hE, hV, s0, s1, s2, s3⟩ := id h
  have er := er_up hE (k := 1) (by omega)
  obtain ⟨t, a, b, i1, i2, i3, i4, i5, i6, i7⟩ := id hT
  obtain ⟨f1, f2, f3, f4, f5, f6, f7, f8, f9, f10, f11, f12⟩ := id i3
  obtain ⟨m1, m2, m3, m4, m5, m6, m7, m8⟩ := i4.1
  have hn := i1.1.2.2.1
  rcases few 10 (by omega) a1 with ⟨j, hj, rfl⟩ | g1
  · have q : j = 0 ∨ j = 1 ∨ j = 2 ∨ j = 3 ∨ j = 4 ∨ j = 5 ∨ j = 6 ∨ j = 7 ∨ j = 8 ∨ j = 9 ∨ j = 10 := by omega
    rcases q with rfl | rfl | rfl | rfl | rfl | rfl | rfl | rfl | rfl | rfl | rfl
    · exact ⟨fun _ => ⟨fun _ => ⟨ix (by omega) (by omega), by rw [nI_clamp (by omega)]; exact ⟨f6.trans m1.symm, h⟩⟩, fun e => absurd e (by decide), fun e => absurd e (by decide), fun e => absurd e (by decide), fun e => absurd e (by decide), fun e => absurd e (by decide), fun e => absurd e (by decide), fun e => absurd e (by decide), fun e => absurd e (by decide), fun e => absurd e (by decide), fun e => absurd e (by decide), fun e => absurd rfl e⟩, fun e => absurd e (by decide), fun e => absurd e (by decide), fun e => absurd e (by decide), fun e => absurd e (by decide), fun e => absurd e (by decide), fun e => absurd e (by decide), fun e => absurd e (by decide), fun e => absurd e (by decide), fun e => absurd e (by decide), fun e => absurd e (by decide), fun e => absurd rfl e⟩
    · exact ⟨fun e => absurd e (by decide), fun _ => ⟨fun e => absurd e (by decide), fun _ => ⟨ix (by omega) (by omega), by rw [nI_clamp (by omega)]; exact ⟨f5.trans m2.symm, h⟩⟩, fun e => absurd e (by decide), fun e => absurd e (by decide), fun e => absurd e (by decide), fun e => absurd e (by decide), fun e => absurd e (by decide), fun e => absurd e (by decide), fun e => absurd e (by decide), fun e => absurd e (by decide), fun e => absurd e (by decide), fun _ e => absurd rfl e⟩, fun e => absurd e (by decide), fun e => absurd e (by decide), fun e => absurd e (by decide), fun e => absurd e (by decide), fun e => absurd e (by decide), fun e => absurd e (by decide), fun e => absurd e (by decide), fun e => absurd e (by decide), fun e => absurd e (by decide), fun _ e => absurd rfl e⟩
    · exact ⟨fun e => absurd e (by decide), fun e => absurd e (by decide), fun _ => ⟨fun e => absurd e (by decide), fun e => absurd e (by decide), fun _ => ⟨ix (by omega) (by omega), by rw [nI_clamp (by omega)]; exact ⟨f2.trans m3.symm, h⟩⟩, fun e => absurd e (by decide), fun e => absurd e (by decide), fun e => absurd e (by decide), fun e => absurd e (by decide), fun e => absurd e (by decide), fun e => absurd e (by decide), fun e => absurd e (by decide), fun e => absurd e (by decide), fun _ _ e => absurd rfl e⟩, fun e => absurd e (by decide), fun e => absurd e (by decide), fun e => absurd e (by decide), fun e => absurd e (by decide), fun e => absurd e (by decide), fun e => absurd e (by decide), fun e => absurd e (by decide), fun e => absurd e (by decide), fun _ _ e => absurd rfl e⟩
    · exact ⟨fun e => absurd e (by decide), fun e => absurd e (by decide), fun e => absurd e (by decide), fun _ => ⟨fun e => absurd e (by decide), fun e => absurd e (by decide), fun e => absurd e (by decide), fun _ => ⟨ix (by omega) (by omega), by rw [nI_clamp (by omega)]; exact ⟨f3.trans m4.symm, h⟩⟩, fun e => absurd e (by decide), fun e => absurd e (by decide), fun e => absurd e (by decide), fun e => absurd e (by decide), fun e => absurd e (by decide), fun e => absurd e (by decide), fun e => absurd e (by decide), fun _ _ _ e => absurd rfl e⟩, fun e => absurd e (by decide), fun e => absurd e (by decide), fun e => absurd e (by decide), fun e => absurd e (by decide), fun e => absurd e (by decide), fun e => absurd e (by decide), fun e => absurd e (by decide), fun _ _ _ e => absurd rfl e⟩
    · exact ⟨fun e => absurd e (by decide), fun e => absurd e (by decide), fun e => absurd e (by decide), fun e => absurd e (by decide), fun _ => ⟨fun e => absurd e (by decide), fun e => absurd e (by decide), fun e => absurd e (by decide), fun e => absurd e (by decide), fun _ => ⟨ix (by omega) (by omega), by rw [nI_clamp (by omega)]; exact ⟨f4.trans m5.symm, h⟩⟩, fun e => absurd e (by decide), fun e => absurd e (by decide), fun e => absurd e (by decide), fun e => absurd e (by decide), fun e => absurd e (by decide), fun e => absurd e (by decide), fun _ _ _ _ e => absurd rfl e⟩, fun e => absurd e (by decide), fun e => absurd e (by decide), fun e => absurd e (by decide), fun e => absurd e (by decide), fun e => absurd e (by decide), fun e => absurd e (by decide), fun _ _ _ _ e => absurd rfl e⟩
    · exact ⟨fun e => absurd e (by decide), fun e => absurd e (by decide), fun e => absurd e (by decide), fun e => absurd e (by decide), fun e => absurd e (by decide), fun _ => s7_heatOfAll f8 ⟨fun e => absurd e (by decide), fun e => absurd e (by decide), fun e => absurd e (by decide), fun e => absurd e (by decide), fun e => absurd e (by decide), fun _ => s8_allHeat m7 ⟨rfl, h⟩, fun e => absurd e (by decide), fun e => absurd e (by decide), fun e => absurd e (by decide), fun e => absurd e (by decide), fun e => absurd e (by decide), fun _ _ _ _ _ e => absurd rfl e⟩, fun e => absurd e (by decide), fun e => absurd e (by decide), fun e => absurd e (by decide), fun e => absurd e (by decide), fun e => absurd e (by decide), fun _ _ _ _ _ e => absurd rfl e⟩
    · refine ⟨fun e => absurd e (by decide), fun e => absurd e (by decide), fun e => absurd e (by decide), fun e => absurd e (by decide), fun e => absurd e (by decide), fun e => absurd e (by decide), fun _ => ?_, fun e => absurd e (by decide), fun e => absurd e (by decide), fun e => absurd e (by decide), fun e => absurd e (by decide), fun _ _ _ _ _ _ e => absurd rfl e⟩
      rw [f6]
      exact s7_warmOfAll hn f11 ⟨fun e => absurd e (by decide), fun e => absurd e (by decide), fun e => absurd e (by decide), fun e => absurd e (by decide), fun e => absurd e (by decide), fun e => absurd e (by decide), fun _ => s8_allWarm hn m1 (fun c hc => (m8 c hc).2.2.2) ⟨rfl, h⟩, fun e => absurd e (by decide), fun e => absurd e (by decide), fun e => absurd e (by decide), fun e => absurd e (by decide), fun _ _ _ _ _ _ e => absurd rfl e⟩
    · exact ⟨fun e => absurd e (by decide), fun e => absurd e (by decide), fun e => absurd e (by decide), fun e => absurd e (by decide), fun e => absurd e (by decide), fun e => absurd e (by decide), fun e => absurd e (by decide), fun _ => ⟨fun e => absurd e (by decide), fun e => absurd e (by decide), fun e => absurd e (by decide), fun e => absurd e (by decide), fun e => absurd e (by decide), fun e => absurd e (by decide), fun e => absurd e (by decide), fun _ => by rw [kc6]; exact ⟨i6.2.1.trans i6.2.2.1.symm, h⟩, fun e => absurd e (by decide), fun e => absurd e (by decide), fun e => absurd e (by decide), fun _ _ _ _ _ _ _ e => absurd rfl e⟩, fun e => absurd e (by decide), fun e => absurd e (by decide), fun e => absurd e (by decide), fun _ _ _ _ _ _ _ e => absurd rfl e⟩
    · exact ⟨fun e => absurd e (by decide), fun e => absurd e (by decide), fun e => absurd e (by decide), fun e => absurd e (by decide), fun e => absurd e (by decide), fun e => absurd e (by decide), fun e => absurd e (by decide), fun e => absurd e (by decide), fun _ => ⟨fun e => absurd e (by decide), fun e => absurd e (by decide), fun e => absurd e (by decide), fun e => absurd e (by decide), fun e => absurd e (by decide), fun e => absurd e (by decide), fun e => absurd e (by decide), fun e => absurd e (by decide), fun _ => by rw [kc7]; exact ⟨i7.2.1.trans i7.2.2.1.symm, h⟩, fun e => absurd e (by decide), fun e => absurd e (by decide), fun _ _ _ _ _ _ _ _ e => absurd rfl e⟩, fun e => absurd e (by decide), fun e => absurd e (by decide), fun _ _ _ _ _ _ _ _ e => absurd rfl e⟩
    · obtain ⟨n, v1, v2, v3, v4⟩ := id hV
      exact ⟨fun e => absurd e (by decide), fun e => absurd e (by decide), fun e => absurd e (by decide), fun e => absurd e (by decide), fun e => absurd e (by decide), fun e => absurd e (by decide), fun e => absurd e (by decide), fun e => absurd e (by decide), fun e => absurd e (by decide), fun _ => ⟨fun e => absurd e (by decide), fun e => absurd e (by decide), fun e => absurd e (by decide), fun e => absurd e (by decide), fun e => absurd e (by decide), fun e => absurd e (by decide), fun e => absurd e (by decide), fun e => absurd e (by decide), fun e => absurd e (by decide), fun _ => ⟨v2.trans v3.symm, h⟩, fun e => absurd e (by decide), fun _ _ _ _ _ _ _ _ _ e => absurd rfl e⟩, fun e => absurd e (by decide), fun _ _ _ _ _ _ _ _ _ e => absurd rfl e⟩
    · exact ⟨fun e => absurd e (by decide), fun e => absurd e (by decide), fun e => absurd e (by decide), fun e => absurd e (by decide), fun e => absurd e (by decide), fun e => absurd e (by decide), fun e => absurd e (by decide), fun e => absurd e (by decide), fun e => absurd e (by decide), fun e => absurd e (by decide), fun _ => ⟨fun e => absurd e (by decide), fun e => absurd e (by decide), fun e => absurd e (by decide), fun e => absurd e (by decide), fun e => absurd e (by decide), fun e => absurd e (by decide), fun e => absurd e (by decide), fun e => absurd e (by decide), fun e => absurd e (by decide), fun e => absurd e (by decide), fun _ => by rw [kc5]; exact ⟨i5.2.2, h⟩, fun _ _ _ _ _ _ _ _ _ _ e => absurd rfl e⟩, fun _ _ _ _ _ _ _ _ _ _ e => absurd rfl e⟩
  · have nn : ∀ j : Nat, j ≤ 10 → ¬ a1 = nI j := fun j hj => few_no (m := 10) (by omega) g1 hj
    exact ⟨fun e => absurd e (nn 0 (by omega)), fun e => absurd e (nn 1 (by omega)), fun e => absurd e (nn 2 (by omega)), fun e => absurd e (nn 3 (by omega)), fun e => absurd e (nn 4 (by omega)), fun e => absurd e (nn 5 (by omega)), fun e => absurd e (nn 6 (by omega)), fun e => absurd e (nn 7 (by omega)), fun e => absurd e (nn 8 (by omega)), fun e => absurd e (nn 9 (by omega)), fun e => absurd e (nn 10 (by omega)), fun _ _ _ _ _ _ _ _ _ _ _ => e7 1 (by omega) ⟨fun e => absurd e (nn 0 (by omega)), fun e => absurd e (nn 1 (by omega)), fun e => absurd e (nn 2 (by omega)), fun e => absurd e (nn 3 (by omega)), fun e => absurd e (nn 4 (by omega)), fun e => absurd e (nn 5 (by omega)), fun e => absurd e (nn 6 (by omega)), fun e => absurd e (nn 7 (by omega)), fun e => absurd e (nn 8 (by omega)), fun e => absurd e (nn 9 (by omega)), fun e => absurd e (nn 10 (by omega)), fun _ _ _ _ _ _ _ _ _ _ _ => e8 1 (by omega) ⟨rfl, hT, hK, hC, er, hV, s0, s1, s2, s3⟩⟩⟩
theorem p3_has {N n : Nat} (hN : N < 2 ^ 31) {i : Nat} (h1 : i < n) (h2 : n ≤ N) {P : Int32 → Prop} (h : P 1) : wp_X3_has N (nI i) (nI n) P := br_f (nI_pos (by omega)) (br_f (nI_ge h1 (by omega)) (br_f (nI_ge (a := i) (b := N) (by omega) hN) h))
theorem p3_hasF {N n : Nat} (h2 : n < 2 ^ 31) {a : Int32} (h1 : ¬ ∃ i, i < n ∧ a = nI i) {P : Int32 → Prop} (h : P 0) : wp_X3_has N a (nI n) P := ⟨fun _ => h, fun q => ⟨fun _ => h, fun z => by
  obtain ⟨j, hj, rfl⟩ := nI_of q
  exact absurd ⟨j, (nI_ltI hj h2).mp (Int32.not_le.mp z), rfl⟩ h1⟩⟩
theorem p3_at {N n : Nat} (hN : N < 2 ^ 31) {i : Nat} (h1 : i < n) (h2 : n ≤ N) {nums : Nat → Int32} {P : Int32 → Prop} (h : P (nums i)) : wp_X3_at N (nI i) (nI n) nums P := p3_has hN h1 h2 (yes ⟨ix (by omega) hN, by rw [nI_clamp (by omega)]; exact h⟩)
theorem hleN {a : Int32} {n : Nat} (hn : n ≤ 1000) : (0 ≤ a ∧ a ≤ nI n - (1 : Int32)) ↔ ∃ i, i < n ∧ a = nI i := by
  have e : (nI n - (1 : Int32)).toInt = (n : Int) - 1 := nI_subI (a := n) (b := 1) (by omega) (by omega)
  refine ⟨fun ⟨h1, h2⟩ => ?_, fun ⟨i, hi, ea⟩ => ?_⟩
  · obtain ⟨j, hj, rfl⟩ := nI_of (Int32.not_lt.mpr h1)
    have := nI_leT.mp h2
    rw [e, nI_toInt hj] at this
    exact ⟨j, by omega, rfl⟩
  · subst ea
    refine ⟨nI_pos' (by omega), nI_leT.mpr ?_⟩
    rw [e, nI_toInt (by omega)]
    omega
theorem st_trace : ST_trace Rel := by
  intro cs ms h a1
  obtain ⟨hT, hK, hC, hE, hV, s0, s1, s2, s3⟩ := id h
  have er := er_up hE (k := 2) (by omega)
  obtain ⟨n, v1, v2, v3, v4⟩ := id hV
  unfold wp_X7_trace wp_X8_trace
  rw [v2, v3]
  by_cases g : ∃ i, i < n ∧ a1 = nI i
  · obtain ⟨i, hi, rfl⟩ := g
    refine p3_has (by omega) hi v1 (yes (p3_at (by omega) hi v1 (w8t 0 (nI n - 1) ((hleN (by omega)).mpr ⟨i, hi, rfl⟩) (yes ⟨ix (by omega) (by omega), ?_⟩))))
    rw [nI_clamp (by omega)]
    exact ⟨v4 i hi, h⟩
  · exact p3_hasF (by omega) g (no (e7 2 (by omega) (w8f 0 (nI n - 1) (fun q => g ((hleN (by omega)).mp q)) (no (e8 2 (by omega) ⟨rfl, hT, hK, hC, er, hV, s0, s1, s2, s3⟩)))))
theorem p3_add {N n : Nat} (hN : N < 2 ^ 31) (h1 : n < N) {a : Int32} {nums : Nat → Int32} {P : Int32 → Int32 → (Nat → Int32) → Prop} (h : P 1 (nI (n + 1)) (upd nums n a)) : wp_X3_add N a (nI n) nums P := by
  refine br_f (nI_pos (by omega)) (br_t (nI_lt h1 hN) ⟨ix h1 hN, ?_⟩)
  rw [nI_clamp (by omega), nI_1]
  exact h
theorem i59 {b : Nat} (hb : b < 20) : ((59 : Int32) + nI b) = nI (59 + b) := nI_add 59 b
theorem kp_59 {d : Nat → Int32} {z : hZ} {y : hY} (h : RD d z y) {k : Nat} (hk : 57 ≤ k) (x : Int32) : RD (upd d k x) z y := RD_ag h (fun j h1 _ _ _ => by unfold upd; rw [if_neg (by omega)])
theorem st_tell : ST_tell Rel := by
  intro cs ms h a1
  obtain ⟨hT, hK, hC, hE, hV, s0, s1, s2, s3⟩ := id h
  have er := er_up hE (k := 4) (by omega)
  obtain ⟨t, a, b, i1, i2, i3, i4, i5, i6, j1, j2, j3, j4⟩ := id hT
  unfold wp_X7_tell wp_X8_tell wp_X3_room
  rw [kc7, j2, j3]
  by_cases g : b = 20
  · subst g
    refine br_t (by decide) (e7 4 (by omega) (br_t (by decide) (e8 4 (by omega) ⟨rfl, ?_⟩)))
    rw [← j2]
    exact ⟨hT, hK, hC, er, hV, s0, s1, s2, s3⟩
  · have hb : b < 20 := by omega
    refine br_f (fun z => ?_) (p3_add (by omega) hb (br_f (fun z => ?_) ?_))
    · have e : Int32.ofNat 20 - nI b = nI (20 - b) := pk_sub (a := 20) (b := b) (by omega)
      rw [e] at z
      have := (nI_eq (a := 20 - b) (b := 0) (by omega) (by omega)).mp z
      omega
    · have := (nI_eq (a := b) (b := 20) (by omega) (by omega)).mp z
      omega
    · rw [i59 hb, nI_clamp (by omega)]
      refine ⟨ix (by omega) (by omega), ?_⟩
      have u1 : ∀ j, j ≠ 59 + b → upd (ms.2.1 0) (59 + b) a1 j = (ms.2.1 0) j := fun j hj => by unfold upd; rw [if_neg hj]
      rw [u1 7 (by omega), j3, nI_1]
      have u2 : ∀ j, j ≠ 59 + b → j ≠ 7 → upd (upd (ms.2.1 0) (59 + b) a1) 7 (nI (b + 1)) j = (ms.2.1 0) j := fun j hj h7 => by
        show upd _ 7 _ j = _
        rw [show upd (upd (ms.2.1 0) (59 + b) a1) 7 (nI (b + 1)) j = upd (ms.2.1 0) (59 + b) a1 j from by unfold upd; rw [if_neg h7]]
        exact u1 j hj
      refine ⟨?_, ⟨t, a, b + 1, i1, i2, i3, ⟨RD_ag i4.1 (fun j g1 g2 g3 g4 => u2 j (by omega) g4), (u2 57 (by omega) (by omega)).trans i4.2.1, (u2 58 (by omega) (by omega)).trans i4.2.2.1, fun i hi => (u2 _ (by omega) (by omega)).trans (i4.2.2.2.1 i hi), fun i hi => (u2 _ (by omega) (by omega)).trans (i4.2.2.2.2 i hi)⟩, ⟨i5.1, i5.2.1, i5.2.2.trans (u2 5 (by omega) (by omega)).symm⟩, ⟨i6.1, i6.2.1, (u2 6 (by omega) (by omega)).trans i6.2.2.1, fun i hi => ⟨(i6.2.2.2 i hi).1.trans (u2 _ (by omega) (by omega)).symm, ?_⟩⟩, ⟨hb, rfl, ?_, fun i hi => ?_⟩⟩, hK, hC, hE, hV, s0, s1, s2, s3⟩
      · unfold upd; rw [if_pos rfl]
      · obtain ⟨v, q1, q2⟩ := (i6.2.2.2 i hi).2
        exact ⟨v, q1, (u2 _ (by omega) (by omega)).trans q2⟩
      · show upd (upd (ms.2.1 0) (59 + b) a1) 7 (nI (b + 1)) 7 = nI (b + 1)
        unfold upd; rw [if_pos rfl]
      · show upd _ b a1 i = upd (upd _ (59 + b) a1) 7 _ (59 + i)
        by_cases e : i = b
        · subst e
          unfold upd
          rw [if_pos rfl, if_neg (by omega), if_pos rfl]
        · rw [u2 _ (by omega) (by omega)]
          unfold upd
          rw [if_neg e]
          exact j4 i (by omega)
