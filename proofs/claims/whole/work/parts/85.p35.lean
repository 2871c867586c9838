/-! PURE 35: which door was opened -/
def bcF (a1 : Int32) : Int32 := ((((((((a1 - ((a1.toUInt32 >>> ((1 : Int32).toUInt32 &&& Int32.toUInt32 31)).toInt32 &&& (1431655765 : Int32))) &&& (858993459 : Int32)) + (((a1 - ((a1.toUInt32 >>> ((1 : Int32).toUInt32 &&& Int32.toUInt32 31)).toInt32 &&& (1431655765 : Int32))).toUInt32 >>> ((2 : Int32).toUInt32 &&& Int32.toUInt32 31)).toInt32 &&& (858993459 : Int32))) + ((((a1 - ((a1.toUInt32 >>> ((1 : Int32).toUInt32 &&& Int32.toUInt32 31)).toInt32 &&& (1431655765 : Int32))) &&& (858993459 : Int32)) + (((a1 - ((a1.toUInt32 >>> ((1 : Int32).toUInt32 &&& Int32.toUInt32 31)).toInt32 &&& (1431655765 : Int32))).toUInt32 >>> ((2 : Int32).toUInt32 &&& Int32.toUInt32 31)).toInt32 &&& (858993459 : Int32))).toUInt32 >>> ((4 : Int32).toUInt32 &&& Int32.toUInt32 31)).toInt32) &&& (252645135 : Int32)) + ((((((a1 - ((a1.toUInt32 >>> ((1 : Int32).toUInt32 &&& Int32.toUInt32 31)).toInt32 &&& (1431655765 : Int32))) &&& (858993459 : Int32)) + (((a1 - ((a1.toUInt32 >>> ((1 : Int32).toUInt32 &&& Int32.toUInt32 31)).toInt32 &&& (1431655765 : Int32))).toUInt32 >>> ((2 : Int32).toUInt32 &&& Int32.toUInt32 31)).toInt32 &&& (858993459 : Int32))) + ((((a1 - ((a1.toUInt32 >>> ((1 : Int32).toUInt32 &&& Int32.toUInt32 31)).toInt32 &&& (1431655765 : Int32))) &&& (858993459 : Int32)) + (((a1 - ((a1.toUInt32 >>> ((1 : Int32).toUInt32 &&& Int32.toUInt32 31)).toInt32 &&& (1431655765 : Int32))).toUInt32 >>> ((2 : Int32).toUInt32 &&& Int32.toUInt32 31)).toInt32 &&& (858993459 : Int32))).toUInt32 >>> ((4 : Int32).toUInt32 &&& Int32.toUInt32 31)).toInt32) &&& (252645135 : Int32)).toUInt32 >>> ((8 : Int32).toUInt32 &&& Int32.toUInt32 31)).toInt32) + (((((((a1 - ((a1.toUInt32 >>> ((1 : Int32).toUInt32 &&& Int32.toUInt32 31)).toInt32 &&& (1431655765 : Int32))) &&& (858993459 : Int32)) + (((a1 - ((a1.toUInt32 >>> ((1 : Int32).toUInt32 &&& Int32.toUInt32 31)).toInt32 &&& (1431655765 : Int32))).toUInt32 >>> ((2 : Int32).toUInt32 &&& Int32.toUInt32 31)).toInt32 &&& (858993459 : Int32))) + ((((a1 - ((a1.toUInt32 >>> ((1 : Int32).toUInt32 &&& Int32.toUInt32 31)).toInt32 &&& (1431655765 : Int32))) &&& (858993459 : Int32)) + (((a1 - ((a1.toUInt32 >>> ((1 : Int32).toUInt32 &&& Int32.toUInt32 31)).toInt32 &&& (1431655765 : Int32))).toUInt32 >>> ((2 : Int32).toUInt32 &&& Int32.toUInt32 31)).toInt32 &&& (858993459 : Int32))).toUInt32 >>> ((4 : Int32).toUInt32 &&& Int32.toUInt32 31)).toInt32) &&& (252645135 : Int32)) + ((((((a1 - ((a1.toUInt32 >>> ((1 : Int32).toUInt32 &&& Int32.toUInt32 31)).toInt32 &&& (1431655765 : Int32))) &&& (858993459 : Int32)) + (((a1 - ((a1.toUInt32 >>> ((1 : Int32).toUInt32 &&& Int32.toUInt32 31)).toInt32 &&& (1431655765 : Int32))).toUInt32 >>> ((2 : Int32).toUInt32 &&& Int32.toUInt32 31)).toInt32 &&& (858993459 : Int32))) + ((((a1 - ((a1.toUInt32 >>> ((1 : Int32).toUInt32 &&& Int32.toUInt32 31)).toInt32 &&& (1431655765 : Int32))) &&& (858993459 : Int32)) + (((a1 - ((a1.toUInt32 >>> ((1 : Int32).toUInt32 &&& Int32.toUInt32 31)).toInt32 &&& (1431655765 : Int32))).toUInt32 >>> ((2 : Int32).toUInt32 &&& Int32.toUInt32 31)).toInt32 &&& (858993459 : Int32))).toUInt32 >>> ((4 : Int32).toUInt32 &&& Int32.toUInt32 31)).toInt32) &&& (252645135 : Int32)).toUInt32 >>> ((8 : Int32).toUInt32 &&& Int32.toUInt32 31)).toInt32).toUInt32 >>> ((16 : Int32).toUInt32 &&& Int32.toUInt32 31)).toInt32) &&& (63 : Int32))
def bcN (s : Nat) : Nat → Nat
  | 0 => 0
  | k + 1 => bcN s k + s / 2 ^ k % 2
set_option maxRecDepth 100000 in
set_option maxHeartbeats 4000000 in
theorem bc_eq : ∀ a, a < 64 → ∀ b, b < 64 → bcF (nI (64 * a + b)) = nI (bcN (64 * a + b) 16) := by decide +kernel
theorem s7_bits {s : Nat} (hs : s < 4096) {P : Int32 → Prop} (h : P (nI (bcN s 16))) : wp_J6_bitCount_0f7a4 (nI s) P := by
  have e := bc_eq (s / 64) (by omega) (s % 64) (by omega)
  rw [show 64 * (s / 64) + s % 64 = s by omega] at e
  rw [← e] at h
  exact h
theorem bcN_le (s : Nat) : ∀ k, bcN s k ≤ k := by
  intro k
  induction k with
  | zero => exact Nat.le_refl 0
  | succ k ih =>
    have h := Nat.mod_lt (s / 2 ^ k) (show 0 < 2 by omega)
    show bcN s k + s / 2 ^ k % 2 ≤ k + 1
    generalize s / 2 ^ k % 2 = q at h ⊢
    omega
theorem s8_bits {s : Nat} (hs : s < 4096) {P : Int32 → Prop} (h : P (nI (bcN s 16))) : wp_X8_bits (nI s) P := by
  unfold wp_X8_bits
  refine lpU (σ := Int32) (fun f x v => wp_X8_bits_b4 (nI s) P f v x) (fun i v => v = nI (bcN s i)) 16 0 0 (by omega) rfl (fun f v hv => br_t (by decide) (by rw [hv]; exact h)) (fun f i v hi hv ih => ?_)
  refine br_f (nI_ge (b := 16) hi (by omega)) (ih _ ?_)
  rw [hv, nI_bit (by omega) (by omega), nI_add]
  rfl
theorem s7_hasHeats {nums heat : Nat → Int32} {many : Int32} {h : Nat → Nat} (em : many = nI 16) (eh : ∀ c, c < 16 → heat c = nI (h c)) {P : Int32 → Prop} (h1 : (∀ c, c < 16 → nums c = nI (h c)) → P 1) (h0 : ¬ (∀ c, c < 16 → nums c = nI (h c)) → P 0) : wp_X5_hasHeats 40 many heat nums P := by
  subst em
  unfold wp_X5_hasHeats
  refine lpU (σ := Unit) (fun f x _ => wp_X5_hasHeats_b2 40 (nI 16) heat nums P f x) (fun i _ => ∀ c, c < i → nums c = nI (h c)) 16 0 () (by omega) (fun c hc => absurd hc (Nat.not_lt_zero _)) (fun f _ hI => br_t (by decide) (h1 hI)) (fun f i _ hi hI ih => ?_)
  refine br_f (nI_ge (b := 16) hi (by omega)) (p3_at (by omega) hi (by omega) ⟨ix hi (by omega), ?_⟩)
  rw [nI_clamp (n := i) (by omega), eh i hi]
  refine ⟨fun w => ih () (fun c hc => ?_), fun w => h0 (fun z => w (z i hi))⟩
  by_cases e : c = i
  · rw [e]; exact w
  · exact hI c (by omega)
def wOk (t : TT) (row : Nat → Int32) (j : Nat) : Prop := ∀ c, c < 16 → row c = nI ((tB t (2 ^ j) 1).2.1.1 c)
noncomputable def wS (t : TT) (row : Nat → Int32) : Nat → Nat
  | 0 => 0
  | j + 1 => @ite Nat (wOk t row j) (Classical.propDecidable _) (wS t row j ||| 2 ^ j) (wS t row j)
theorem wS_t {t : TT} {row : Nat → Int32} {j : Nat} (h : wOk t row j) : wS t row (j + 1) = wS t row j ||| 2 ^ j := by
  show @ite Nat _ (Classical.propDecidable _) _ _ = _
  rw [if_pos h]
theorem wS_f {t : TT} {row : Nat → Int32} {j : Nat} (h : ¬ wOk t row j) : wS t row (j + 1) = wS t row j := by
  show @ite Nat _ (Classical.propDecidable _) _ _ = _
  rw [if_neg h]
theorem wS_lt {t : TT} {row : Nat → Int32} : ∀ j, wS t row j < 2 ^ j := by
  intro j
  induction j with
  | zero => exact Nat.one_pos
  | succ j ih =>
    have p : 2 ^ j < 2 ^ (j + 1) := Nat.pow_lt_pow_right (by decide) (by omega)
    by_cases h : wOk t row j
    · rw [wS_t h]; exact Nat.or_lt_two_pow (Nat.lt_trans ih p) p
    · rw [wS_f h]; exact Nat.lt_trans ih p
theorem s7_whichLoop {t : TT} (hI : TI t) (ho : t.2.1.2.2.2.2.1 + 1 ≤ 20000) {cs : CS} {a b : Nat} (hC : TC (cs.1 1) (cs.1 2) (cs.1 3) (cs.1 4) (cs.1 5) (cs.1 6) (cs.1 7) (cs.2.1 0) (cs.2.1 1) (cs.2.1 2) (cs.2.1 3) (cs.1 10) (cs.1 12) (cs.2.1 5) (cs.2.1 7) t) {wuse guse : Int32} (hw : wuse = 0) (hg : guse = 1) (ha : a ≤ 50) (hb : b ≤ 20) (ea : (cs.1 13) = nI a) (eb : (cs.1 14) = nI b) (a2 : Int32) (nums errors : Nat → Int32) (post : _)
    (hp : ∀ (o1 o2 o3 o4 o5 o6 o7 o8 : Int32) (r1 r2 r3 r4 r5 : Nat → Int32) (o9 o10 o11 : Int32) (r6 : Nat → Int32) (o12 : Int32) (r7 r8 r9 r10 r11 : Nat → Int32), (a2 = 0 → post (nI (wS t nums 12)) o1 o2 o3 o4 o5 o6 o7 o8 errors r1 r2 r3 r4 r5 o9 o10 o11 r6 o12 r7 r8 r9 r10 r11) ∧ (¬ a2 = 0 → post (nI (bcN (wS t nums 12) 16)) o1 o2 o3 o4 o5 o6 o7 o8 errors r1 r2 r3 r4 r5 o9 o10 o11 r6 o12 r7 r8 r9 r10 r11)) :
    ∀ k j, j + k = 12 → ∀ (o1 o2 o3 o4 o5 o6 o7 o8 : Int32) (r1 r2 r3 r4 r5 : Nat → Int32) (o9 o10 o11 : Int32) (r6 : Nat → Int32) (o12 : Int32) (r7 r8 r9 r10 r11 : Nat → Int32), wp_X7_which_b60 a2 (cs.1 1) (cs.1 2) (cs.1 3) (cs.1 4) (cs.1 5) (cs.1 6) (cs.1 7) (cs.1 8) (cs.2.1 0) (cs.2.1 1) (cs.2.1 2) (cs.2.1 3) (cs.1 13) (cs.1 14) wuse guse (cs.1 10) (cs.1 12) (cs.2.1 9) (cs.2.1 10) (nI 16) (cs.2.1 5) (cs.2.1 7) nums post (k + 1) (nI (wS t nums j)) (nI j) o1 o2 o3 o4 o5 o6 o7 o8 errors r1 r2 r3 r4 r5 o9 o10 o11 r6 o12 r7 r8 r9 r10 r11 := by
  intro k
  induction k with
  | zero =>
    intro j hj o1 o2 o3 o4 o5 o6 o7 o8 r1 r2 r3 r4 r5 o9 o10 o11 r6 o12 r7 r8 r9 r10 r11
    have e : j = 12 := by omega
    subst e
    exact br_t (by decide) ⟨fun q => (hp o1 o2 o3 o4 o5 o6 o7 o8 r1 r2 r3 r4 r5 o9 o10 o11 r6 o12 r7 r8 r9 r10 r11).1 q, fun q => s7_bits (wS_lt 12) ((hp o1 o2 o3 o4 o5 o6 o7 o8 r1 r2 r3 r4 r5 o9 o10 o11 r6 o12 r7 r8 r9 r10 r11).2 q)⟩
  | succ k ih =>
    intro j hj o1 o2 o3 o4 o5 o6 o7 o8 r1 r2 r3 r4 r5 o9 o10 o11 r6 o12 r7 r8 r9 r10 r11
    refine br_f (nI_ge (b := 12) (by omega) (by omega)) ?_
    rw [nI_shl1 (by omega)]
    refine s7_behind (set := 2 ^ j) (n := 1) hI hC (pow12 (by omega)) (by omega) ho hw hg ha hb ea eb (fun o1 o2 o3 o4 o5 o6 o7 o8 r1 r2 r3 r4 r5 o9 o10 o11 r6 o12 r7 r8 r9 r10 r11 hT' => s7_hasHeats rfl hT'.2.2.2.2.2.2.2.1 (fun g => yes ?_) (fun g => no ?_))
    · rw [nI_or, nI_1, ← wS_t (t := t) (row := nums) (j := j) g]
      exact ih (j + 1) (by omega) o1 o2 o3 o4 o5 o6 o7 o8 r1 r2 r3 r4 r5 o9 o10 o11 r6 o12 r7 r8 r9 r10 r11
    · rw [nI_1, ← wS_f (t := t) (row := nums) (j := j) g]
      exact ih (j + 1) (by omega) o1 o2 o3 o4 o5 o6 o7 o8 r1 r2 r3 r4 r5 o9 o10 o11 r6 o12 r7 r8 r9 r10 r11
theorem s7_whichLoop_1 {t : TT} (hI : TI t) (ho : t.2.1.2.2.2.2.1 + 1 ≤ 20000) {cs : CS} {a b : Nat} (hC : TC (cs.1 1) (cs.1 2) (cs.1 3) (cs.1 4) (cs.1 5) (cs.1 6) (cs.1 7) (cs.2.1 0) (cs.2.1 1) (cs.2.1 2) (cs.2.1 3) (cs.1 10) (cs.1 12) (cs.2.1 5) (cs.2.1 7) t) {wuse guse : Int32} (hw : wuse = 0) (hg : guse = 1) (ha : a ≤ 50) (hb : b ≤ 20) (ea : (cs.1 13) = nI a) (eb : (cs.1 14) = nI b) (a2 : Int32) (nums errors : Nat → Int32) (post : _)
    (hp : ∀ (o1 o2 o3 o4 o5 o6 o7 o8 : Int32) (r1 r2 r3 r4 r5 : Nat → Int32) (o9 o10 o11 : Int32) (r6 : Nat → Int32) (o12 : Int32) (r7 r8 r9 r10 r11 : Nat → Int32), (a2 = 0 → post (nI (wS t nums 12)) o1 o2 o3 o4 o5 o6 o7 o8 errors r1 r2 r3 r4 r5 o9 o10 o11 r6 o12 r7 r8 r9 r10 r11) ∧ (¬ a2 = 0 → post (nI (bcN (wS t nums 12) 16)) o1 o2 o3 o4 o5 o6 o7 o8 errors r1 r2 r3 r4 r5 o9 o10 o11 r6 o12 r7 r8 r9 r10 r11)) :
    ∀ k j, j + k = 12 → ∀ (o1 o2 o3 o4 o5 o6 o7 o8 : Int32) (r1 r2 r3 r4 r5 : Nat → Int32) (o9 o10 o11 : Int32) (r6 : Nat → Int32) (o12 : Int32) (r7 r8 r9 r10 r11 : Nat → Int32), wp_X7_which_b60_1 a2 (cs.1 1) (cs.1 2) (cs.1 3) (cs.1 4) (cs.1 5) (cs.1 6) (cs.1 7) (cs.1 8) (cs.2.1 0) (cs.2.1 1) (cs.2.1 2) (cs.2.1 3) (cs.1 13) (cs.1 14) wuse guse (cs.1 10) (cs.1 12) (cs.2.1 9) (cs.2.1 10) (nI 16) (cs.2.1 5) (cs.2.1 7) nums post (k + 1) (nI (wS t nums j)) (nI j) o1 o2 o3 o4 o5 o6 o7 o8 errors r1 r2 r3 r4 r5 o9 o10 o11 r6 o12 r7 r8 r9 r10 r11 := by
  intro k
  induction k with
  | zero =>
    intro j hj o1 o2 o3 o4 o5 o6 o7 o8 r1 r2 r3 r4 r5 o9 o10 o11 r6 o12 r7 r8 r9 r10 r11
    have e : j = 12 := by omega
    subst e
    exact br_t (by decide) ⟨fun q => (hp o1 o2 o3 o4 o5 o6 o7 o8 r1 r2 r3 r4 r5 o9 o10 o11 r6 o12 r7 r8 r9 r10 r11).1 q, fun q => s7_bits (wS_lt 12) ((hp o1 o2 o3 o4 o5 o6 o7 o8 r1 r2 r3 r4 r5 o9 o10 o11 r6 o12 r7 r8 r9 r10 r11).2 q)⟩
  | succ k ih =>
    intro j hj o1 o2 o3 o4 o5 o6 o7 o8 r1 r2 r3 r4 r5 o9 o10 o11 r6 o12 r7 r8 r9 r10 r11
    refine br_f (nI_ge (b := 12) (by omega) (by omega)) ?_
    rw [nI_shl1 (by omega)]
    refine s7_behind (set := 2 ^ j) (n := 1) hI hC (pow12 (by omega)) (by omega) ho hw hg ha hb ea eb (fun o1 o2 o3 o4 o5 o6 o7 o8 r1 r2 r3 r4 r5 o9 o10 o11 r6 o12 r7 r8 r9 r10 r11 hT' => s7_hasHeats rfl hT'.2.2.2.2.2.2.2.1 (fun g => yes ?_) (fun g => no ?_))
    · rw [nI_or, nI_1, ← wS_t (t := t) (row := nums) (j := j) g]
      exact ih (j + 1) (by omega) o1 o2 o3 o4 o5 o6 o7 o8 r1 r2 r3 r4 r5 o9 o10 o11 r6 o12 r7 r8 r9 r10 r11
    · rw [nI_1, ← wS_f (t := t) (row := nums) (j := j) g]
      exact ih (j + 1) (by omega) o1 o2 o3 o4 o5 o6 o7 o8 r1 r2 r3 r4 r5 o9 o10 o11 r6 o12 r7 r8 r9 r10 r11
theorem s7_whichLoop_2 {t : TT} (hI : TI t) (ho : t.2.1.2.2.2.2.1 + 1 ≤ 20000) {cs : CS} {a b : Nat} (hC : TC (cs.1 1) (cs.1 2) (cs.1 3) (cs.1 4) (cs.1 5) (cs.1 6) (cs.1 7) (cs.2.1 0) (cs.2.1 1) (cs.2.1 2) (cs.2.1 3) (cs.1 10) (cs.1 12) (cs.2.1 5) (cs.2.1 7) t) {wuse guse : Int32} (hw : wuse = 0) (hg : guse = 1) (ha : a ≤ 50) (hb : b ≤ 20) (ea : (cs.1 13) = nI a) (eb : (cs.1 14) = nI b) (a2 : Int32) (nums errors : Nat → Int32) (post : _)
    (hp : ∀ (o1 o2 o3 o4 o5 o6 o7 o8 : Int32) (r1 r2 r3 r4 r5 : Nat → Int32) (o9 o10 o11 : Int32) (r6 : Nat → Int32) (o12 : Int32) (r7 r8 r9 r10 r11 : Nat → Int32), (a2 = 0 → post (nI (wS t nums 12)) o1 o2 o3 o4 o5 o6 o7 o8 errors r1 r2 r3 r4 r5 o9 o10 o11 r6 o12 r7 r8 r9 r10 r11) ∧ (¬ a2 = 0 → post (nI (bcN (wS t nums 12) 16)) o1 o2 o3 o4 o5 o6 o7 o8 errors r1 r2 r3 r4 r5 o9 o10 o11 r6 o12 r7 r8 r9 r10 r11)) :
    ∀ k j, j + k = 12 → ∀ (o1 o2 o3 o4 o5 o6 o7 o8 : Int32) (r1 r2 r3 r4 r5 : Nat → Int32) (o9 o10 o11 : Int32) (r6 : Nat → Int32) (o12 : Int32) (r7 r8 r9 r10 r11 : Nat → Int32), wp_X7_which_b60_2 a2 (cs.1 1) (cs.1 2) (cs.1 3) (cs.1 4) (cs.1 5) (cs.1 6) (cs.1 7) (cs.1 8) (cs.2.1 0) (cs.2.1 1) (cs.2.1 2) (cs.2.1 3) (cs.1 13) (cs.1 14) wuse guse (cs.1 10) (cs.1 12) (cs.2.1 9) (cs.2.1 10) (nI 16) (cs.2.1 5) (cs.2.1 7) nums post (k + 1) (nI (wS t nums j)) (nI j) o1 o2 o3 o4 o5 o6 o7 o8 errors r1 r2 r3 r4 r5 o9 o10 o11 r6 o12 r7 r8 r9 r10 r11 := by
  intro k
  induction k with
  | zero =>
    intro j hj o1 o2 o3 o4 o5 o6 o7 o8 r1 r2 r3 r4 r5 o9 o10 o11 r6 o12 r7 r8 r9 r10 r11
    have e : j = 12 := by omega
    subst e
    exact br_t (by decide) ⟨fun q => (hp o1 o2 o3 o4 o5 o6 o7 o8 r1 r2 r3 r4 r5 o9 o10 o11 r6 o12 r7 r8 r9 r10 r11).1 q, fun q => s7_bits (wS_lt 12) ((hp o1 o2 o3 o4 o5 o6 o7 o8 r1 r2 r3 r4 r5 o9 o10 o11 r6 o12 r7 r8 r9 r10 r11).2 q)⟩
  | succ k ih =>
    intro j hj o1 o2 o3 o4 o5 o6 o7 o8 r1 r2 r3 r4 r5 o9 o10 o11 r6 o12 r7 r8 r9 r10 r11
    refine br_f (nI_ge (b := 12) (by omega) (by omega)) ?_
    rw [nI_shl1 (by omega)]
    refine s7_behind (set := 2 ^ j) (n := 1) hI hC (pow12 (by omega)) (by omega) ho hw hg ha hb ea eb (fun o1 o2 o3 o4 o5 o6 o7 o8 r1 r2 r3 r4 r5 o9 o10 o11 r6 o12 r7 r8 r9 r10 r11 hT' => s7_hasHeats rfl hT'.2.2.2.2.2.2.2.1 (fun g => yes ?_) (fun g => no ?_))
    · rw [nI_or, nI_1, ← wS_t (t := t) (row := nums) (j := j) g]
      exact ih (j + 1) (by omega) o1 o2 o3 o4 o5 o6 o7 o8 r1 r2 r3 r4 r5 o9 o10 o11 r6 o12 r7 r8 r9 r10 r11
    · rw [nI_1, ← wS_f (t := t) (row := nums) (j := j) g]
      exact ih (j + 1) (by omega) o1 o2 o3 o4 o5 o6 o7 o8 r1 r2 r3 r4 r5 o9 o10 o11 r6 o12 r7 r8 r9 r10 r11
theorem s7_whichLoop_3 {t : TT} (hI : TI t) (ho : t.2.1.2.2.2.2.1 + 1 ≤ 20000) {cs : CS} {a b : Nat} (hC : TC (cs.1 1) (cs.1 2) (cs.1 3) (cs.1 4) (cs.1 5) (cs.1 6) (cs.1 7) (cs.2.1 0) (cs.2.1 1) (cs.2.1 2) (cs.2.1 3) (cs.1 10) (cs.1 12) (cs.2.1 5) (cs.2.1 7) t) {wuse guse : Int32} (hw : wuse = 0) (hg : guse = 1) (ha : a ≤ 50) (hb : b ≤ 20) (ea : (cs.1 13) = nI a) (eb : (cs.1 14) = nI b) (a2 : Int32) (nums errors : Nat → Int32) (post : _)
    (hp : ∀ (o1 o2 o3 o4 o5 o6 o7 o8 : Int32) (r1 r2 r3 r4 r5 : Nat → Int32) (o9 o10 o11 : Int32) (r6 : Nat → Int32) (o12 : Int32) (r7 r8 r9 r10 r11 : Nat → Int32), (a2 = 0 → post (nI (wS t nums 12)) o1 o2 o3 o4 o5 o6 o7 o8 errors r1 r2 r3 r4 r5 o9 o10 o11 r6 o12 r7 r8 r9 r10 r11) ∧ (¬ a2 = 0 → post (nI (bcN (wS t nums 12) 16)) o1 o2 o3 o4 o5 o6 o7 o8 errors r1 r2 r3 r4 r5 o9 o10 o11 r6 o12 r7 r8 r9 r10 r11)) :
    ∀ k j, j + k = 12 → ∀ (o1 o2 o3 o4 o5 o6 o7 o8 : Int32) (r1 r2 r3 r4 r5 : Nat → Int32) (o9 o10 o11 : Int32) (r6 : Nat → Int32) (o12 : Int32) (r7 r8 r9 r10 r11 : Nat → Int32), wp_X7_which_b60_3 a2 (cs.1 1) (cs.1 2) (cs.1 3) (cs.1 4) (cs.1 5) (cs.1 6) (cs.1 7) (cs.1 8) (cs.2.1 0) (cs.2.1 1) (cs.2.1 2) (cs.2.1 3) (cs.1 13) (cs.1 14) wuse guse (cs.1 10) (cs.1 12) (cs.2.1 9) (cs.2.1 10) (nI 16) (cs.2.1 5) (cs.2.1 7) nums post (k + 1) (nI (wS t nums j)) (nI j) o1 o2 o3 o4 o5 o6 o7 o8 errors r1 r2 r3 r4 r5 o9 o10 o11 r6 o12 r7 r8 r9 r10 r11 := by
  intro k
  induction k with
  | zero =>
    intro j hj o1 o2 o3 o4 o5 o6 o7 o8 r1 r2 r3 r4 r5 o9 o10 o11 r6 o12 r7 r8 r9 r10 r11
    have e : j = 12 := by omega
    subst e
    exact br_t (by decide) ⟨fun q => (hp o1 o2 o3 o4 o5 o6 o7 o8 r1 r2 r3 r4 r5 o9 o10 o11 r6 o12 r7 r8 r9 r10 r11).1 q, fun q => s7_bits (wS_lt 12) ((hp o1 o2 o3 o4 o5 o6 o7 o8 r1 r2 r3 r4 r5 o9 o10 o11 r6 o12 r7 r8 r9 r10 r11).2 q)⟩
  | succ k ih =>
    intro j hj o1 o2 o3 o4 o5 o6 o7 o8 r1 r2 r3 r4 r5 o9 o10 o11 r6 o12 r7 r8 r9 r10 r11
    refine br_f (nI_ge (b := 12) (by omega) (by omega)) ?_
    rw [nI_shl1 (by omega)]
    refine s7_behind (set := 2 ^ j) (n := 1) hI hC (pow12 (by omega)) (by omega) ho hw hg ha hb ea eb (fun o1 o2 o3 o4 o5 o6 o7 o8 r1 r2 r3 r4 r5 o9 o10 o11 r6 o12 r7 r8 r9 r10 r11 hT' => s7_hasHeats rfl hT'.2.2.2.2.2.2.2.1 (fun g => yes ?_) (fun g => no ?_))
    · rw [nI_or, nI_1, ← wS_t (t := t) (row := nums) (j := j) g]
      exact ih (j + 1) (by omega) o1 o2 o3 o4 o5 o6 o7 o8 r1 r2 r3 r4 r5 o9 o10 o11 r6 o12 r7 r8 r9 r10 r11
    · rw [nI_1, ← wS_f (t := t) (row := nums) (j := j) g]
      exact ih (j + 1) (by omega) o1 o2 o3 o4 o5 o6 o7 o8 r1 r2 r3 r4 r5 o9 o10 o11 r6 o12 r7 r8 r9 r10 r11
theorem s8_whichIn {q j : Nat} (hq : q ≤ 3) {number dA d aside found na pi fl : Nat → Int32} {x3 ct : Int32} (hA : ∀ i, i < 57 → aside i = dA i) (hd : ∀ i, 57 ≤ i → d i = dA i) {C : Int32 → Int32 → Int32 → (Nat → Int32) → (Nat → Int32) → (Nat → Int32) → (Nat → Int32) → (Nat → Int32) → (Nat → Int32) → Prop} {post : _}
    (h1 : (∀ c, c < 16 → number (40 * q + c) = d (9 + c)) → C (x3 ||| ((1 : Int32) <<< (nI j &&& 31))) (nI j + 1) ct dA aside found na pi fl) (h0 : ¬ (∀ c, c < 16 → number (40 * q + c) = d (9 + c)) → C (x3 ||| (0 : Int32)) (nI j + 1) ct dA aside found na pi fl) : ∃ k, wp_X8_which_b89 (nI q) number C post k x3 (nI j) (1 : Int32) (0 : Int32) ct d aside found na pi fl := by
  refine lpU (σ := Int32) (fun f x s => wp_X8_which_b89 (nI q) number C post f x3 (nI j) s x ct d aside found na pi fl) (fun i s => (s = 1 ∧ ∀ c, c < i → number (40 * q + c) = d (9 + c)) ∨ (s = 0 ∧ ¬ ∀ c, c < 16 → number (40 * q + c) = d (9 + c))) 16 0 1 (by omega) (.inl ⟨rfl, fun c hc => absurd hc (Nat.not_lt_zero _)⟩) (fun f s hI => br_t (by decide) (s8_back hA hd ?_)) (fun f i s hi hI ih => br_f (nI_ge (b := 16) hi (by omega)) ?_)
  · rcases hI with ⟨e, g⟩ | ⟨e, g⟩
    · subst e; exact yes (h1 g)
    · subst e; exact no (h0 g)
  · rcases hI with ⟨e, g⟩ | ⟨e, g⟩
    · subst e
      refine yes ⟨v160 hq (by omega), v9 (by omega), ?_⟩
      rw [c160 hq (show i < 40 by omega), i9 (by omega)]
      refine ⟨fun w => ih 1 (.inl ⟨rfl, fun c hc => ?_⟩), fun w => ih 0 (.inr ⟨rfl, fun z => w (z i hi)⟩)⟩
      by_cases z : c = i
      · rw [z]; exact w
      · exact g c (by omega)
    · subst e
      exact no (ih 0 (.inr ⟨rfl, g⟩))
theorem s8_whichLoop {q : Nat} (hq : q ≤ 3) {t : TT} (hI : TI t) (ho : t.2.1.2.2.2.2.1 < 20000) {number nums dA aside found : Nat → Int32} (hn : ∀ c, c < 16 → nums c = number (40 * q + c)) (hT : TM dA t) (hA : ∀ i, i < 57 → aside i = dA i) (a2 : Int32) (post : _)
    (hp : ∀ (ct : Nat) (na pi fl : Nat → Int32), ct < 256 → (a2 = 0 → post (nI (wS t nums 12)) (nI ct) dA aside found na pi fl) ∧ (¬ a2 = 0 → post (nI (bcN (wS t nums 12) 16)) (nI ct) dA aside found na pi fl)) :
    ∀ k j, j + k = 12 → ∀ (ct : Nat) (na pi fl : Nat → Int32), ct < 256 → wp_X8_which_b58 (nI q) a2 number post (k + 1) (nI (wS t nums j)) (nI j) (nI ct) dA aside found na pi fl := by
  intro k
  induction k with
  | zero =>
    intro j hj ct na pi fl hct
    have e : j = 12 := by omega
    subst e
    exact br_t (by decide) ⟨fun q => (hp ct na pi fl hct).1 q, fun q => s8_bits (wS_lt 12) ((hp ct na pi fl hct).2 q)⟩
  | succ k ih =>
    intro j hj ct na pi fl hct
    refine br_f (nI_ge (b := 12) (by omega) (by omega)) ?_
    rw [kc8, hT.1.2.2.2.2.2.1, nI_shl1 (by omega), nI_xor]
    have k2 : kp dA (upd dA 8 (nI (t.1.1 ^^^ 2 ^ j))) := kp_up (by omega) (by omega) (by omega) (by omega)
    have hIx : TI ((t.1.1 ^^^ 2 ^ j, t.1.2), t.2) := ⟨ZB_x hI.1 (pow12 (by omega)), hI.2⟩
    refine s8_hourT (t := ((t.1.1 ^^^ 2 ^ j, t.1.2), t.2)) hIx (TM_kp hT k2 (RD_8 hT.1 _)) ho (fun d' na' pi' fl' hd' k3 => ?_)
    have hb := (TI_H hIx 1).2.1.2.2.2.2
    have hh : ∀ c, c < 16 → d' (9 + c) = nI ((tB t (2 ^ j) 1).2.1.1 c) := hd'.1.2.2.2.2.2.2.1
    refine s8_whichIn hq hA (fun i hi => (k3.2.2.2 i hi).trans (k2.2.2.2 i hi)) (fun g => ?_) (fun g => ?_)
    · have g' : wOk t nums j := fun c hc => (hn c hc).trans ((g c hc).trans (hh c hc))
      rw [nI_shl1 (by omega), nI_or, nI_1, ← wS_t g']
      exact ih (j + 1) (by omega) _ na' pi' fl' hb
    · have g' : ¬ wOk t nums j := fun z => g (fun c hc => (hn c hc).symm.trans ((z c hc).trans (hh c hc).symm))
      rw [show nI (wS t nums j) ||| (0 : Int32) = nI (wS t nums j) from (nI_or (wS t nums j) 0).trans (by rw [Nat.or_zero]), nI_1, ← wS_f g']
      exact ih (j + 1) (by omega) _ na' pi' fl' hb
theorem st_which : ST_which Rel := by
  intro cs ms h a1 a2
  obtain ⟨hT, hK, hC, hE, hV, s0, s1, s2, s3⟩ := id h
  have er := er_up hE (k := 1) (by omega)
  have er2 := er_up hE (k := 2) (by omega)
  obtain ⟨t, a, b, i1, i2, i3, i4, i5, i6, i7⟩ := id hT
  obtain ⟨ct, bc, hct⟩ := id hC
  by_cases g1 : 0 ≤ a1 ∧ a1 ≤ 3
  · by_cases g2 : 0 ≤ a2 ∧ a2 ≤ 1
    · obtain ⟨q, hq, rfl⟩ := rg (m := 3) (by omega) g1
      have v4 : vp_in (nI q) 4 := ix (by omega) (by omega)
      have cq : (nI q).toNatClampNeg = q := nI_clamp (by omega)
      have f1 : (ms.2.1 10) q = 0 → ∀ {P : _}, P ((-1000000000 : Int32) - nI 2) (ms.1 8) (ms.2.1 0) (ms.2.1 2) (upd (ms.2.1 3) 2 ((ms.2.1 3) 2 + 1)) (ms.2.1 4) (ms.2.1 6) (ms.2.1 7) → wp_X8_which (nI q) a2 (ms.1 8) (ms.2.1 0) (ms.2.1 2) (ms.2.1 3) (ms.2.1 4) (ms.2.1 6) (ms.2.1 7) (ms.2.1 10) (ms.2.1 11) (ms.2.1 12) P := fun b P z => s8t g1 (yes (w8t 0 1 g2 (yes ⟨v4, by
        rw [cq]; exact br_t b (e8 2 (by omega) z)⟩)))
      have f2 : ¬ (ms.2.1 10) q = 0 → ¬ (ms.2.1 11) q = 16 → ∀ {P : _}, P ((-1000000000 : Int32) - nI 2) (ms.1 8) (ms.2.1 0) (ms.2.1 2) (upd (ms.2.1 3) 2 ((ms.2.1 3) 2 + 1)) (ms.2.1 4) (ms.2.1 6) (ms.2.1 7) → wp_X8_which (nI q) a2 (ms.1 8) (ms.2.1 0) (ms.2.1 2) (ms.2.1 3) (ms.2.1 4) (ms.2.1 6) (ms.2.1 7) (ms.2.1 10) (ms.2.1 11) (ms.2.1 12) P := fun b b' P z => s8t g1 (yes (w8t 0 1 g2 (yes ⟨v4, by
        rw [cq]; exact br_f b ⟨v4, br_f b' (e8 2 (by omega) z)⟩⟩)))
      have f3 : ¬ (ms.2.1 10) q = 0 → (ms.2.1 11) q = 16 → ∀ (nums : Nat → Int32), (∀ c, c < 16 → nums c = (ms.2.1 12) (40 * q + c)) → ∀ {P : _}, (∀ (as : Nat → Int32) (ct : Nat) (na pi fl : Nat → Int32), ct < 256 → (a2 = 0 → P (nI (wS t nums 12)) (nI ct) (ms.2.1 0) as (ms.2.1 3) na pi fl) ∧ (¬ a2 = 0 → P (nI (bcN (wS t nums 12) 16)) (nI ct) (ms.2.1 0) as (ms.2.1 3) na pi fl)) → wp_X8_which (nI q) a2 (ms.1 8) (ms.2.1 0) (ms.2.1 2) (ms.2.1 3) (ms.2.1 4) (ms.2.1 6) (ms.2.1 7) (ms.2.1 10) (ms.2.1 11) (ms.2.1 12) P := fun b b' nums hn P z => s8t g1 (yes (w8t 0 1 g2 (yes ⟨v4, by
        rw [cq]
        refine br_f b ⟨v4, br_t b' (s8_keepAside (fun a' hA => ⟨13, ?_⟩))⟩
        rw [hct]
        exact s8_whichLoop hq i1 (by omega) hn i4 hA a2 P (fun ct na pi fl h => z a' ct na pi fl h) 12 0 rfl ct _ _ _ bc⟩)))
      refine s7t g1 (yes (w7t g2 (yes ?_)))
      have hq' : q = 0 ∨ q = 1 ∨ q = 2 ∨ q = 3 := by omega
      rcases hq' with rfl | rfl | rfl | rfl
      · obtain ⟨q1, q2, q3', n, q4, q5, q6⟩ := id s0
        refine pick0 ?_
        by_cases gb : (cs.1 50) = 0
        · exact br_t gb (yes (e7 2 (by omega) (f1 (q1.symm.trans gb) ⟨rfl, hT, hK, hC, er2, hV, s0, s1, s2, s3⟩)))
        · refine br_f gb (no ?_)
          have gb1 : ¬ (ms.2.1 10) 0 = 0 := fun z => gb (q1.trans z)
          by_cases g16 : (cs.1 51) = 16
          · refine br_t g16 ⟨13, ?_⟩
            have n16 : n = 16 := (nI_eq (b := 16) (by omega) (by omega)).mp (q5.symm.trans g16)
            rw [show (cs.1 51) = nI 16 from g16]
            exact s7_whichLoop i1 (by omega) i3 hK.2.2.2.2.1 hK.2.2.2.2.2 i6.1 i7.1 i6.2.1 i7.2.1 a2 _ _ _ (fun _ _ _ _ _ _ _ _ _ _ _ _ _ _ _ _ _ _ _ _ _ _ _ => ⟨fun w => f3 gb1 (q2.symm.trans g16) _ (fun c hc => q6 c (by omega)) (fun as ct' na pi fl hct' => ⟨fun _ => ⟨rfl, hT, hK, ⟨ct', hct', rfl⟩, hE, hV, s0, s1, s2, s3⟩, fun w' => absurd w w'⟩), fun w => f3 gb1 (q2.symm.trans g16) _ (fun c hc => q6 c (by omega)) (fun as ct' na pi fl hct' => ⟨fun w' => absurd w' w, fun _ => ⟨rfl, hT, hK, ⟨ct', hct', rfl⟩, hE, hV, s0, s1, s2, s3⟩⟩)⟩) 12 0 rfl _ _ _ _ _ _ _ _ _ _ _ _ _ _ _ _ _ _ _ _ _ _ _
          · exact br_f g16 (e7 2 (by omega) (f2 gb1 (fun z => g16 (q2.trans z)) ⟨rfl, hT, hK, hC, er2, hV, s0, s1, s2, s3⟩))
      · obtain ⟨q1, q2, q3', n, q4, q5, q6⟩ := id s1
        refine pick1 ?_
        by_cases gb : (cs.1 52) = 0
        · exact br_t gb (yes (e7 2 (by omega) (f1 (q1.symm.trans gb) ⟨rfl, hT, hK, hC, er2, hV, s0, s1, s2, s3⟩)))
        · refine br_f gb (no ?_)
          have gb1 : ¬ (ms.2.1 10) 1 = 0 := fun z => gb (q1.trans z)
          by_cases g16 : (cs.1 53) = 16
          · refine br_t g16 ⟨13, ?_⟩
            have n16 : n = 16 := (nI_eq (b := 16) (by omega) (by omega)).mp (q5.symm.trans g16)
            rw [show (cs.1 53) = nI 16 from g16]
            exact s7_whichLoop_1 i1 (by omega) i3 hK.2.2.2.2.1 hK.2.2.2.2.2 i6.1 i7.1 i6.2.1 i7.2.1 a2 _ _ _ (fun _ _ _ _ _ _ _ _ _ _ _ _ _ _ _ _ _ _ _ _ _ _ _ => ⟨fun w => f3 gb1 (q2.symm.trans g16) _ (fun c hc => q6 c (by omega)) (fun as ct' na pi fl hct' => ⟨fun _ => ⟨rfl, hT, hK, ⟨ct', hct', rfl⟩, hE, hV, s0, s1, s2, s3⟩, fun w' => absurd w w'⟩), fun w => f3 gb1 (q2.symm.trans g16) _ (fun c hc => q6 c (by omega)) (fun as ct' na pi fl hct' => ⟨fun w' => absurd w' w, fun _ => ⟨rfl, hT, hK, ⟨ct', hct', rfl⟩, hE, hV, s0, s1, s2, s3⟩⟩)⟩) 12 0 rfl _ _ _ _ _ _ _ _ _ _ _ _ _ _ _ _ _ _ _ _ _ _ _
          · exact br_f g16 (e7 2 (by omega) (f2 gb1 (fun z => g16 (q2.trans z)) ⟨rfl, hT, hK, hC, er2, hV, s0, s1, s2, s3⟩))
      · obtain ⟨q1, q2, q3', n, q4, q5, q6⟩ := id s2
        refine pick2 ?_
        by_cases gb : (cs.1 54) = 0
        · exact br_t gb (yes (e7 2 (by omega) (f1 (q1.symm.trans gb) ⟨rfl, hT, hK, hC, er2, hV, s0, s1, s2, s3⟩)))
        · refine br_f gb (no ?_)
          have gb1 : ¬ (ms.2.1 10) 2 = 0 := fun z => gb (q1.trans z)
          by_cases g16 : (cs.1 55) = 16
          · refine br_t g16 ⟨13, ?_⟩
            have n16 : n = 16 := (nI_eq (b := 16) (by omega) (by omega)).mp (q5.symm.trans g16)
            rw [show (cs.1 55) = nI 16 from g16]
            exact s7_whichLoop_2 i1 (by omega) i3 hK.2.2.2.2.1 hK.2.2.2.2.2 i6.1 i7.1 i6.2.1 i7.2.1 a2 _ _ _ (fun _ _ _ _ _ _ _ _ _ _ _ _ _ _ _ _ _ _ _ _ _ _ _ => ⟨fun w => f3 gb1 (q2.symm.trans g16) _ (fun c hc => q6 c (by omega)) (fun as ct' na pi fl hct' => ⟨fun _ => ⟨rfl, hT, hK, ⟨ct', hct', rfl⟩, hE, hV, s0, s1, s2, s3⟩, fun w' => absurd w w'⟩), fun w => f3 gb1 (q2.symm.trans g16) _ (fun c hc => q6 c (by omega)) (fun as ct' na pi fl hct' => ⟨fun w' => absurd w' w, fun _ => ⟨rfl, hT, hK, ⟨ct', hct', rfl⟩, hE, hV, s0, s1, s2, s3⟩⟩)⟩) 12 0 rfl _ _ _ _ _ _ _ _ _ _ _ _ _ _ _ _ _ _ _ _ _ _ _
          · exact br_f g16 (e7 2 (by omega) (f2 gb1 (fun z => g16 (q2.trans z)) ⟨rfl, hT, hK, hC, er2, hV, s0, s1, s2, s3⟩))
      · obtain ⟨q1, q2, q3', n, q4, q5, q6⟩ := id s3
        refine pick3 ?_
        by_cases gb : (cs.1 56) = 0
        · exact br_t gb (yes (e7 2 (by omega) (f1 (q1.symm.trans gb) ⟨rfl, hT, hK, hC, er2, hV, s0, s1, s2, s3⟩)))
        · refine br_f gb (no ?_)
          have gb1 : ¬ (ms.2.1 10) 3 = 0 := fun z => gb (q1.trans z)
          by_cases g16 : (cs.1 57) = 16
          · refine br_t g16 ⟨13, ?_⟩
            have n16 : n = 16 := (nI_eq (b := 16) (by omega) (by omega)).mp (q5.symm.trans g16)
            rw [show (cs.1 57) = nI 16 from g16]
            exact s7_whichLoop_3 i1 (by omega) i3 hK.2.2.2.2.1 hK.2.2.2.2.2 i6.1 i7.1 i6.2.1 i7.2.1 a2 _ _ _ (fun _ _ _ _ _ _ _ _ _ _ _ _ _ _ _ _ _ _ _ _ _ _ _ => ⟨fun w => f3 gb1 (q2.symm.trans g16) _ (fun c hc => q6 c (by omega)) (fun as ct' na pi fl hct' => ⟨fun _ => ⟨rfl, hT, hK, ⟨ct', hct', rfl⟩, hE, hV, s0, s1, s2, s3⟩, fun w' => absurd w w'⟩), fun w => f3 gb1 (q2.symm.trans g16) _ (fun c hc => q6 c (by omega)) (fun as ct' na pi fl hct' => ⟨fun w' => absurd w' w, fun _ => ⟨rfl, hT, hK, ⟨ct', hct', rfl⟩, hE, hV, s0, s1, s2, s3⟩⟩)⟩) 12 0 rfl _ _ _ _ _ _ _ _ _ _ _ _ _ _ _ _ _ _ _ _ _ _ _
          · exact br_f g16 (e7 2 (by omega) (f2 gb1 (fun z => g16 (q2.trans z)) ⟨rfl, hT, hK, hC, er2, hV, s0, s1, s2, s3⟩))
    · exact s7t g1 (yes (w7f g2 (no (e7 1 (by omega) (s8t g1 (yes (w8f 0 1 g2 (no (e8 1 (by omega) ⟨rfl, hT, hK, hC, er, hV, s0, s1, s2, s3⟩)))))))))
  · exact s7f g1 (no (e7 1 (by omega) (s8f g1 (no (e8 1 (by omega) ⟨rfl, hT, hK, hC, er, hV, s0, s1, s2, s3⟩)))))
