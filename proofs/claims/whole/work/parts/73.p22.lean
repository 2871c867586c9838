/-! PURE 22: the cold one; what to feed -/
def cI (h : Nat → Nat) : Nat → Nat
  | 0 => 0
  | i + 1 => if h (cI h i) ≤ h i then cI h i else i
theorem cI_lt (h : Nat → Nat) : ∀ i, i ≤ 16 → cI h i < 16 := by
  intro i
  induction i with
  | zero => intro _; show 0 < 16; omega
  | succ i ih =>
    intro hi
    show (if _ then _ else _) < 16
    split
    · exact ih (by omega)
    · omega
theorem s7_coldest {h : Nat → Nat} {heat : Nat → Int32} (e : ∀ c, c < 16 → heat c = nI (h c)) (b : ∀ c, c < 16 → h c ≤ 999) {P : Int32 → Prop} (hp : P (nI (cI h 16))) : wp_X5_coldest heat P := by
  unfold wp_X5_coldest
  refine lpU (σ := Int32) (fun n x s => wp_X5_coldest_b4 heat P n s x) (fun i s => s = nI (cI h i)) 16 1 0 (by omega) (by show _ = nI (if _ then 0 else 0); split <;> rfl) (fun n s hI => ?_) (fun n i s hi hI ih => ?_)
  · refine br_t (by decide) ?_
    rw [hI]; exact hp
  · have hc := cI_lt h i (by omega)
    have b1 := b _ hc
    have b2 := b _ hi
    rw [hI]
    refine br_f (nI_ge (b := 16) hi (by omega)) ⟨ix hi (by omega), ix hc (by omega), ?_⟩
    rw [nI_clamp (by omega), nI_clamp (by omega), e _ hc, e _ hi]
    refine ⟨fun q => ih _ ?_, fun q => ih _ ?_⟩
    · show _ = nI (if _ then _ else _)
      rw [if_pos ((nI_leI (by omega) (by omega)).mp q)]
    · show _ = nI (if _ then _ else _)
      rw [if_neg (fun w => q ((nI_leI (by omega) (by omega)).mpr w))]
theorem st_cold : ST_cold Rel := by
  intro cs ms h a1 a2
  obtain ⟨hT, hK, hC, hE, hV, s0, s1, s2, s3⟩ := id h
  have er := er_up hE (k := 1) (by omega)
  obtain ⟨t, a, b, i1, i2, i3, i4, i5, i6, i7⟩ := id hT
  obtain ⟨ct, bc, hct⟩ := id hC
  by_cases g1 : 0 ≤ a1 ∧ a1 ≤ 60
  · by_cases g2 : 0 ≤ a2 ∧ a2 ≤ 1
    · obtain ⟨n, hn, rfl⟩ := rg (m := 60) (by omega) g1
      have hb := hrN_b i1.1 i1.2.1 n
      have hc := cI_lt (hrN t.1 t.2.1 n).1 16 (by omega)
      refine w7t g1 (yes (w7t g2 (yes (s7_behind (set := 0) i1 i3 (by omega) (by omega) (by omega) hK.2.2.2.2.1 hK.2.2.2.2.2 i6.1 i7.1 i6.2.1 i7.2.1 (fun o1 o2 o3 o4 o5 o6 o7 o8 r1 r2 r3 r4 r5 o9 o10 o11 r6 o12 r7 r8 r9 r10 r11 hT' => ?_)))))
      rw [tB0] at hT'
      have hh := hT'.2.2.2.2.2.2.2.1
      have ref : ∀ {P : _}, (∀ (ct : Nat) (as na pi fl : Nat → Int32), ct < 256 → (a2 = 0 → P (nI (cI (hrN t.1 t.2.1 n).1 16)) (nI ct) (ms.2.1 0) as (ms.2.1 3) na pi fl) ∧ (¬ a2 = 0 → P (nI ((hrN t.1 t.2.1 n).1 (cI (hrN t.1 t.2.1 n).1 16))) (nI ct) (ms.2.1 0) as (ms.2.1 3) na pi fl)) → wp_X8_cold (nI n) a2 (ms.1 8) (ms.2.1 0) (ms.2.1 2) (ms.2.1 3) (ms.2.1 4) (ms.2.1 6) (ms.2.1 7) P := fun {P} p => w8t 0 60 g1 (yes (w8t 0 1 g2 (yes (s8_keepAside (fun a' ha => s8_hoursT i1 i4 (by omega) (by omega) hct bc (fun c' d' na pi fl hd' k2 hc' _ => by
        have ed : ∀ c, c < 16 → d' (9 + c) = nI ((hrN t.1 t.2.1 n).1 c) := hd'.1.2.2.2.2.2.2.1
        refine lpU (σ := Int32) (fun f x s => wp_X8_cold_b42 a2 P f s x (nI c') d' a' (ms.2.1 3) na pi fl) (fun i s => s = nI (cI (hrN t.1 t.2.1 n).1 i)) 16 1 0 (by omega) (by show _ = nI (if _ then 0 else 0); split <;> rfl) (fun f s hI => ?_) (fun f i s hi hI ih => ?_)
        · rw [hI]
          refine br_t (by decide) ⟨fun q => s8_back ha k2.2.2.2 ((p c' a' na pi fl hc').1 q), fun q => ⟨v9 (by omega), s8_back ha k2.2.2.2 ?_⟩⟩
          rw [i9 (by omega), ed _ hc]
          exact (p c' a' na pi fl hc').2 q
        · have hc := cI_lt (hrN t.1 t.2.1 n).1 i (by omega)
          have b1 := hb.1 _ hc
          have b2 := hb.1 _ hi
          rw [hI]
          refine br_f (nI_ge (b := 16) hi (by omega)) ⟨v9 (by omega), v9 (by omega), ?_⟩
          rw [i9 (by omega), i9 (by omega), ed _ hc, ed _ hi]
          refine ⟨fun q => ih _ ?_, fun q => ih _ ?_⟩
          · show _ = nI (if _ then _ else _)
            rw [if_pos ((nI_leI (by omega) (by omega)).mp q)]
          · show _ = nI (if _ then _ else _)
            rw [if_neg (fun w => q ((nI_leI (by omega) (by omega)).mpr w))]))))))
      refine s7_coldest hh hb.1 ⟨fun q => ref (fun ct' as na pi fl hct' => ⟨fun _ => ⟨rfl, hT, hK, ⟨ct', hct', rfl⟩, hE, hV, s0, s1, s2, s3⟩, fun q' => absurd q q'⟩), fun q => p5_heatOf hc ?_⟩
      rw [hh _ hc]
      exact ref (fun ct' as na pi fl hct' => ⟨fun q' => absurd q' q, fun _ => ⟨rfl, hT, hK, ⟨ct', hct', rfl⟩, hE, hV, s0, s1, s2, s3⟩⟩)
    · exact w7t g1 (yes (w7f g2 (no (e7 1 (by omega) (w8t 0 60 g1 (yes (w8f 0 1 g2 (no (e8 1 (by omega) ⟨rfl, hT, hK, hC, er, hV, s0, s1, s2, s3⟩)))))))))
  · exact w7f g1 (no (e7 1 (by omega) (w8f 0 60 g1 (no (e8 1 (by omega) ⟨rfl, hT, hK, hC, er, hV, s0, s1, s2, s3⟩)))))
theorem mask_iff {w j : Nat} (hw : w < 256) (hj : j < 256) : nI j &&& (nI w ^^^ (-1 : Int32)) = 0 ↔ nI w &&& nI j = nI j := by
  rw [m1N, nI_xor, nI_and, nI_and]
  have l1 : j &&& (w ^^^ (2 ^ 32 - 1)) ≤ j := Nat.and_le_left
  have l2 : w &&& j ≤ j := Nat.and_le_right
  rw [show (0 : Int32) = nI 0 from rfl, nI_eq (by omega) (by omega), nI_eq (by omega) (by omega)]
  have big : ∀ b, ¬ b < 32 → j.testBit b = false := fun b h => Nat.testBit_lt_two_pow (Nat.lt_of_lt_of_le hj (Nat.le_trans (show 256 ≤ 2 ^ 32 by decide) (Nat.pow_le_pow_right (by decide) (by omega))))
  refine ⟨fun e => Nat.eq_of_testBit_eq (fun b => ?_), fun e => Nat.eq_of_testBit_eq (fun b => ?_)⟩
  · have q := congrArg (fun x => Nat.testBit x b) e
    simp only [Nat.testBit_and, Nat.testBit_xor, Nat.testBit_two_pow_sub_one, Nat.zero_testBit] at q
    rw [Nat.testBit_and]
    by_cases h32 : b < 32
    · cases hwb : w.testBit b <;> cases hjb : j.testBit b <;> simp_all
    · rw [big b h32]; simp
  · have q := congrArg (fun x => Nat.testBit x b) e
    simp only [Nat.testBit_and] at q
    rw [Nat.testBit_and, Nat.testBit_xor, Nat.testBit_two_pow_sub_one, Nat.zero_testBit]
    by_cases h32 : b < 32
    · cases hwb : w.testBit b <;> cases hjb : j.testBit b <;> simp_all
    · rw [big b h32]; simp
/-- who is content with so much fed -/
def wF (t : TT) (n f : Nat) : Nat := (hrN (t.1.1, f, t.1.2.2) t.2.1 n).2.2.2.2.2
theorem wF_b {t : TT} (hI : TI t) {n f : Nat} (hf : f ≤ 99) : wF t n f < 256 := (hrN_b (ZB_f hI.1 hf) hI.2.1 n).2.2.2.2
theorem s7_feedLoop {x n : Nat} {t : TT} (hI : TI t) (hn : n ≤ 1000) (ho : t.2.1.2.2.2.2.1 + n ≤ 20000) {cs : CS} {a b : Nat} (hC : TC (cs.1 1) (cs.1 2) (cs.1 3) (cs.1 4) (cs.1 5) (cs.1 6) (cs.1 7) (cs.2.1 0) (cs.2.1 1) (cs.2.1 2) (cs.2.1 3) (cs.1 10) (cs.1 12) (cs.2.1 5) (cs.2.1 7) t) {wuse guse : Int32} (hw : wuse = 0) (hg : guse = 1) (ha : a ≤ 50) (hb : b ≤ 20) (ea : (cs.1 13) = nI a) (eb : (cs.1 14) = nI b) (errors : Nat → Int32) (post : _)
    (h1 : ∀ f, f ≤ 99 → (∀ j, j < f → ¬ nI (wF t n j) &&& nI x = nI x) → nI (wF t n f) &&& nI x = nI x → ∀ (o1 o2 o3 o4 o5 o6 o7 o8 : Int32) (r1 r2 r3 r4 r5 : Nat → Int32) (o9 o10 o11 : Int32) (r6 : Nat → Int32) (o12 : Int32) (r7 r8 r9 r10 r11 : Nat → Int32), post (nI f) o1 o2 o3 o4 o5 o6 o7 o8 errors r1 r2 r3 r4 r5 o9 o10 o11 r6 o12 r7 r8 r9 r10 r11)
    (h0 : (∀ j, j ≤ 99 → ¬ nI (wF t n j) &&& nI x = nI x) → ∀ (o1 o2 o3 o4 o5 o6 o7 o8 : Int32) (r1 r2 r3 r4 r5 : Nat → Int32) (o9 o10 o11 : Int32) (r6 : Nat → Int32) (o12 : Int32) (r7 r8 r9 r10 r11 : Nat → Int32), post ((-1000000000 : Int32) - nI 2) o1 o2 o3 o4 o5 o6 o7 o8 (upd errors 2 (errors 2 + 1)) r1 r2 r3 r4 r5 o9 o10 o11 r6 o12 r7 r8 r9 r10 r11) :
    ∀ k f, f + k = 100 → (∀ j, j < f → ¬ nI (wF t n j) &&& nI x = nI x) → ∀ (o1 o2 o3 o4 o5 o6 o7 o8 : Int32) (r1 r2 r3 r4 r5 : Nat → Int32) (o9 o10 o11 : Int32) (r6 : Nat → Int32) (o12 : Int32) (r7 r8 r9 r10 r11 : Nat → Int32), wp_X7_feedFor_b34 (nI x) (nI n) (cs.1 1) (cs.1 2) (cs.1 3) (cs.1 4) (cs.1 5) (cs.1 6) (cs.1 7) (cs.1 8) (cs.2.1 0) (cs.2.1 1) (cs.2.1 2) (cs.2.1 3) (cs.1 13) (cs.1 14) wuse guse (cs.1 10) (cs.1 12) (cs.2.1 9) (cs.2.1 10) (cs.2.1 5) (cs.2.1 7) post (k + 1) (nI f) o1 o2 o3 o4 o5 o6 o7 o8 errors r1 r2 r3 r4 r5 o9 o10 o11 r6 o12 r7 r8 r9 r10 r11 := by
  intro k
  induction k with
  | zero =>
    intro f hf hz o1 o2 o3 o4 o5 o6 o7 o8 r1 r2 r3 r4 r5 o9 o10 o11 r6 o12 r7 r8 r9 r10 r11
    exact br_t (nI_lt (a := 99) (by omega) (by omega)) (e7 2 (by omega) (h0 (fun j hj => hz j (by omega)) o1 o2 o3 o4 o5 o6 o7 o8 r1 r2 r3 r4 r5 o9 o10 o11 r6 o12 r7 r8 r9 r10 r11))
  | succ k ih =>
    intro f hf hz o1 o2 o3 o4 o5 o6 o7 o8 r1 r2 r3 r4 r5 o9 o10 o11 r6 o12 r7 r8 r9 r10 r11
    refine br_f (fun z => ?_) (s7_contentWith (f := f) hI hC (by omega) hn ho hw hg ha hb ea eb (fun _ _ _ _ _ _ _ _ _ _ _ _ _ _ _ _ _ _ _ _ _ _ _ _ => ⟨fun q => h1 f (by omega) hz q _ _ _ _ _ _ _ _ _ _ _ _ _ _ _ _ _ _ _ _ _ _ _, fun q => ?_⟩))
    · have := (nI_ltI (a := 99) (b := f) (by omega) (by omega)).mp z
      omega
    · rw [nI_1]
      refine ih (f + 1) (by omega) (fun j hj => ?_) _ _ _ _ _ _ _ _ _ _ _ _ _ _ _ _ _ _ _ _ _ _ _
      by_cases w : j = f
      · rw [w]; exact q
      · exact hz j (by omega)
theorem s8_feedYes {x n : Nat} (hx : x < 256) {t : TT} (hI : TI t) (hn : n ≤ 1000) (n1 : n ≠ 0) (ho : t.2.1.2.2.2.2.1 + n ≤ 20000) {dA aside found : Nat → Int32} (hT : TM dA t) (ha : ∀ i, i < 57 → aside i = dA i) (post : _) {f : Nat} (hf : f ≤ 99) (hz : ∀ j, j < f → ¬ nI (wF t n j) &&& nI x = nI x) (hy : nI (wF t n f) &&& nI x = nI x)
    (hp : ∀ (ct : Nat) (na pi fl : Nat → Int32), ct < 256 → post (nI f) (nI ct) dA aside found na pi fl) :
    ∀ k j, j + k = f → ∀ (ct : Nat) (na pi fl : Nat → Int32), ct < 256 → wp_X8_feedFor_b44 (nI x) (nI n) post (k + 1) (nI j) (nI ct) dA aside found na pi fl := by
  have one : ∀ (j : Nat), j ≤ 99 → ∀ (ct : Nat) (na pi fl : Nat → Int32), ct < 256 → ∀ {P : Int32 → (Nat → Int32) → (Nat → Int32) → (Nat → Int32) → (Nat → Int32) → Prop}, (∀ (na pi fl : Nat → Int32), P (nI (wF t n j)) dA na pi fl) → wp_X8_hoursGo (nI n) (nI ct) (upd dA 2 (nI j)) na pi fl (fun c d' na' pi' fl' => wp_X8_putBack d' aside (fun d2 => P c d2 na' pi' fl')) := fun j hj ct na pi fl hct P p => by
    have k2 : kp dA (upd dA 2 (nI j)) := kp_up (by omega) (by omega) (by omega) (by omega)
    refine s8_hoursT (t := ((t.1.1, j, t.1.2.2), t.2)) ⟨ZB_f hI.1 hj, hI.2⟩ (TM_kp hT k2 (RD_2 hT.1 j)) hn ho rfl hct (fun c' d' na' pi' fl' _ k3 _ ec => ?_)
    have e : c' = wF t n j := ec n1
    subst e
    exact s8_back ha (fun i hi => (k3.2.2.2 i hi).trans (k2.2.2.2 i hi)) (p na' pi' fl')
  intro k
  induction k with
  | zero =>
    intro j hj ct na pi fl hct
    have e : j = f := by omega
    subst e
    refine br_f (nI_ge (a := j) (b := 100) (by omega) (by omega)) ?_
    rw [kc2]
    exact one j (by omega) ct na pi fl hct (fun na pi fl => br_t ((mask_iff (wF_b hI (by omega)) hx).mpr hy) (hp _ na pi fl (wF_b hI (by omega))))
  | succ k ih =>
    intro j hj ct na pi fl hct
    refine br_f (nI_ge (a := j) (b := 100) (by omega) (by omega)) ?_
    rw [kc2]
    refine one j (by omega) ct na pi fl hct (fun na pi fl => br_f (fun w => hz j (by omega) ((mask_iff (wF_b hI (by omega)) hx).mp w)) ?_)
    rw [nI_1]
    exact ih (j + 1) (by omega) _ na pi fl (wF_b hI (by omega))
theorem s8_feedNo {x n : Nat} (hx : x < 256) {t : TT} (hI : TI t) (hn : n ≤ 1000) (n1 : n ≠ 0) (ho : t.2.1.2.2.2.2.1 + n ≤ 20000) {dA aside found : Nat → Int32} (hT : TM dA t) (ha : ∀ i, i < 57 → aside i = dA i) (post : _) (hz : ∀ j, j ≤ 99 → ¬ nI (wF t n j) &&& nI x = nI x)
    (hp : ∀ (ct : Nat) (na pi fl : Nat → Int32), ct < 256 → post ((-1000000000 : Int32) - nI 2) (nI ct) dA aside (upd found 2 (found 2 + 1)) na pi fl) :
    ∀ k j, j + k = 100 → ∀ (ct : Nat) (na pi fl : Nat → Int32), ct < 256 → wp_X8_feedFor_b44 (nI x) (nI n) post (k + 1) (nI j) (nI ct) dA aside found na pi fl := by
  intro k
  induction k with
  | zero =>
    intro j hj ct na pi fl hct
    exact br_t (nI_le (a := 100) (by omega) (by omega)) (e8 2 (by omega) (hp ct na pi fl hct))
  | succ k ih =>
    intro j hj ct na pi fl hct
    refine br_f (nI_ge (a := j) (b := 100) (by omega) (by omega)) ?_
    rw [kc2]
    have k2 : kp dA (upd dA 2 (nI j)) := kp_up (by omega) (by omega) (by omega) (by omega)
    refine s8_hoursT (t := ((t.1.1, j, t.1.2.2), t.2)) ⟨ZB_f hI.1 (by omega), hI.2⟩ (TM_kp hT k2 (RD_2 hT.1 j)) hn ho rfl hct (fun c' d' na' pi' fl' _ k3 _ ec => ?_)
    have e : c' = wF t n j := ec n1
    subst e
    refine s8_back ha (fun i hi => (k3.2.2.2 i hi).trans (k2.2.2.2 i hi)) (br_f (fun w => hz j (by omega) ((mask_iff (wF_b hI (by omega)) hx).mp w)) ?_)
    rw [nI_1]
    exact ih (j + 1) (by omega) _ na' pi' fl' (wF_b hI (by omega))
theorem pow8 {n : Nat} (h : n ≤ 8) : 2 ^ n ≤ 256 := Nat.pow_le_pow_right (n := 2) (by decide) h
theorem st_feedFor : ST_feedFor Rel := by
  intro cs ms h a1 a2
  obtain ⟨hT, hK, hC, hE, hV, s0, s1, s2, s3⟩ := id h
  have er := er_up hE (k := 1) (by omega)
  have er2 := er_up hE (k := 2) (by omega)
  obtain ⟨t, a, b, i1, i2, i3, i4, i5, i6, i7⟩ := id hT
  have f6 := i3.2.2.2.2.2.1
  obtain ⟨ct, bc, hct⟩ := id hC
  have hN := i1.1.2.2.1
  have p8 := pow8 hN
  have rg0 : ∀ {P : _}, wp_X8_in a1.toInt64 (0 : Int32).toInt64 ((nI (2 ^ t.1.2.2.1) - (1 : Int32)).toInt64) P → wp_X8_in a1.toInt64 (0 : Int64) ((((1 : Int32) <<< (((ms.2.1 0) (0 : Int32).toNatClampNeg) &&& 31)) - (1 : Int32)).toInt64) P := fun p => by
    rw [kc0, i4.1.1, nI_shl1 (by omega)]; exact p
  by_cases g1 : ∃ i, i < 2 ^ t.1.2.2.1 ∧ a1 = nI i
  · obtain ⟨x, hx, rfl⟩ := g1
    have gr := (hleN (a := nI x) (n := 2 ^ t.1.2.2.1) (by omega)).mpr ⟨x, hx, rfl⟩
    refine br_f (nI_pos (by omega)) (br_t ?_ ?_)
    · rw [f6, nI_shr (by omega) (by omega), Nat.div_eq_of_lt hx]; rfl
    · by_cases g2 : 1 ≤ a2 ∧ a2 ≤ 30
      · obtain ⟨n, n1, hn, rfl⟩ := rg1 (l := 1) (m := 30) (by omega) (by omega) g2
        refine w7t g2 (yes ⟨101, s7_feedLoop i1 (by omega) (by omega) i3 hK.2.2.2.2.1 hK.2.2.2.2.2 i6.1 i7.1 i6.2.1 i7.2.1 _ _ (fun f hf hz hy o1 o2 o3 o4 o5 o6 o7 o8 r1 r2 r3 r4 r5 o9 o10 o11 r6 o12 r7 r8 r9 r10 r11 => ?_) (fun hz o1 o2 o3 o4 o5 o6 o7 o8 r1 r2 r3 r4 r5 o9 o10 o11 r6 o12 r7 r8 r9 r10 r11 => ?_) 100 0 rfl (fun j hj => absurd hj (Nat.not_lt_zero _)) _ _ _ _ _ _ _ _ _ _ _ _ _ _ _ _ _ _ _ _ _ _ _⟩)
        · refine rg0 (w8t 0 _ gr (yes (w8t 1 30 g2 (yes (s8_keepAside (fun a' ha => ⟨f + 1, ?_⟩))))))
          rw [hct]
          exact s8_feedYes (by omega) i1 (by omega) (by omega) (by omega) i4 ha _ hf hz hy (fun ct' na pi fl hct' => ⟨rfl, hT, hK, ⟨ct', hct', rfl⟩, hE, hV, s0, s1, s2, s3⟩) f 0 (by omega) ct _ _ _ bc
        · refine rg0 (w8t 0 _ gr (yes (w8t 1 30 g2 (yes (s8_keepAside (fun a' ha => ⟨101, ?_⟩))))))
          rw [hct]
          exact s8_feedNo (by omega) i1 (by omega) (by omega) (by omega) i4 ha _ hz (fun ct' na pi fl hct' => ⟨rfl, hT, hK, ⟨ct', hct', rfl⟩, er2, hV, s0, s1, s2, s3⟩) 100 0 rfl ct _ _ _ bc
      · exact w7f g2 (no (e7 1 (by omega) (rg0 (w8t 0 _ gr (yes (w8f 1 30 g2 (no (e8 1 (by omega) ⟨rfl, hT, hK, hC, er, hV, s0, s1, s2, s3⟩))))))))
  · have gr : ¬ (0 ≤ a1 ∧ a1 ≤ nI (2 ^ t.1.2.2.1) - (1 : Int32)) := fun q => g1 ((hleN (by omega)).mp q)
    have ref : ∀ {P : _}, P ((-1000000000 : Int32) - nI 1) (ms.1 8) (ms.2.1 0) (ms.2.1 2) (upd (ms.2.1 3) 1 ((ms.2.1 3) 1 + 1)) (ms.2.1 4) (ms.2.1 6) (ms.2.1 7) → wp_X8_feedFor a1 a2 (ms.1 8) (ms.2.1 0) (ms.2.1 2) (ms.2.1 3) (ms.2.1 4) (ms.2.1 6) (ms.2.1 7) P := fun p => rg0 (w8f 0 _ gr (no (e8 1 (by omega) p)))
    refine ⟨fun _ => e7 1 (by omega) (ref ⟨rfl, hT, hK, hC, er, hV, s0, s1, s2, s3⟩), fun q => br_f (fun z => ?_) (e7 1 (by omega) (ref ⟨rfl, hT, hK, hC, er, hV, s0, s1, s2, s3⟩))⟩
    obtain ⟨j, hj, rfl⟩ := nI_of q
    rw [f6, nI_shr hj (by omega)] at z
    have := (nI_eq (a := j / 2 ^ t.1.2.2.1) (b := 0) (Nat.lt_of_le_of_lt (Nat.div_le_self _ _) (by omega)) (by omega)).mp z
    have p0 : 0 < 2 ^ t.1.2.2.1 := Nat.two_pow_pos _
    exact g1 ⟨j, (Nat.div_eq_zero_iff_lt p0).mp this, rfl⟩
