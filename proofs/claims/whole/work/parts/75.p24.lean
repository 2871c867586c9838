/-! PURE 24: which doors -/
def dJ (ok : Nat → Bool) (i : Nat) : Nat → Nat → Option Nat
  | 0, _ => none
  | k + 1, j => if ok (2 ^ i ||| 2 ^ j) = true then some (2 ^ i ||| 2 ^ j) else dJ ok i k (j + 1)
def dI (ok : Nat → Bool) : Nat → Nat → Option Nat
  | 0, _ => none
  | k + 1, i => match dJ ok i i 0 with
    | some s => some s
    | none => dI ok k (i + 1)
def d1 (ok : Nat → Bool) : Nat → Nat → Option Nat
  | 0, _ => dI ok 11 1
  | k + 1, i => if ok (2 ^ i) = true then some (2 ^ i) else d1 ok k (i + 1)
def dAll (ok : Nat → Bool) : Option Nat := if ok 0 = true then some 0 else d1 ok 12 0
def hD (t : TT) (n c s : Nat) : Nat := (tB t s n).2.1.1 c
def okD (t : TT) (n c v s : Nat) : Bool := decide (v ≤ hD t n c s)
theorem hD_b {t : TT} (hI : TI t) {n c s : Nat} (hc : c < 16) (hs : s < 4096) : hD t n c s ≤ 999 := (TI_B hI hs).2.1.1 c hc
theorem s7_doorOne {c n v s : Nat} {t : TT} (hI : TI t) (hc : c < 16) (hv : v ≤ 999) (hs : s < 4096) {heat : Nat → Int32} (e : ∀ c, c < 16 → heat c = nI ((tB t s n).2.1.1 c)) {A B : Prop} (h1 : okD t n c v s = true → B) (h0 : ¬ okD t n c v s = true → A) : wp_X5_heatOf (nI c) heat (fun r => (r < nI v → A) ∧ (¬ r < nI v → B)) := by
  refine p5_heatOf hc ?_
  rw [e c hc]
  have b := hD_b hI (n := n) hc hs
  unfold hD at b
  refine ⟨fun q => h0 (fun w => ?_), fun q => h1 (decide_eq_true (Nat.not_lt.mp (fun w => q ((nI_ltI (by omega) (by omega)).mpr w))))⟩
  have w' : v ≤ hD t n c s := of_decide_eq_true w
  have := (nI_ltI (by omega) (by omega)).mp q
  unfold hD at w'
  omega
theorem s7_doorsJ {c n v i : Nat} {t : TT} (hI : TI t) (hc : c < 16) (hv : v ≤ 999) (hi : i < 12) (hn : n ≤ 1000) (ho : t.2.1.2.2.2.2.1 + n ≤ 20000) {cs : CS} {a b : Nat} (hC : TC (cs.1 1) (cs.1 2) (cs.1 3) (cs.1 4) (cs.1 5) (cs.1 6) (cs.1 7) (cs.2.1 0) (cs.2.1 1) (cs.2.1 2) (cs.2.1 3) (cs.1 10) (cs.1 12) (cs.2.1 5) (cs.2.1 7) t) {wuse guse : Int32} (hw : wuse = 0) (hg : guse = 1) (ha : a ≤ 50) (hb : b ≤ 20) (ea : (cs.1 13) = nI a) (eb : (cs.1 14) = nI b) (errors : Nat → Int32) (C post : _) :
    ∀ k j, j + k = i → (∀ s, dJ (okD t n c v) i k j = some s → ∀ (o1 o2 o3 o4 o5 o6 o7 o8 : Int32) (r1 r2 r3 r4 r5 : Nat → Int32) (o9 o10 o11 : Int32) (r6 : Nat → Int32) (o12 : Int32) (r7 r8 r9 r10 r11 : Nat → Int32), post (nI s) o1 o2 o3 o4 o5 o6 o7 o8 errors r1 r2 r3 r4 r5 o9 o10 o11 r6 o12 r7 r8 r9 r10 r11) → (dJ (okD t n c v) i k j = none → ∀ (o1 o2 o3 o4 o5 o6 o7 o8 : Int32) (r1 r2 r3 r4 r5 : Nat → Int32) (o9 o10 o11 : Int32) (r6 : Nat → Int32) (o12 : Int32) (r7 r8 r9 r10 r11 : Nat → Int32), C (nI c) (nI (i + 1)) o1 o2 o3 o4 o5 o6 o7 o8 errors r1 r2 r3 r4 r5 o9 o10 o11 r6 o12 r7 r8 r9 r10 r11) → ∀ (o1 o2 o3 o4 o5 o6 o7 o8 : Int32) (r1 r2 r3 r4 r5 : Nat → Int32) (o9 o10 o11 : Int32) (r6 : Nat → Int32) (o12 : Int32) (r7 r8 r9 r10 r11 : Nat → Int32), wp_X7_doors_b115 (nI v) (nI n) (cs.1 1) (cs.1 2) (cs.1 3) (cs.1 4) (cs.1 5) (cs.1 6) (cs.1 7) (cs.1 8) (cs.2.1 0) (cs.2.1 1) (cs.2.1 2) (cs.2.1 3) (cs.1 13) (cs.1 14) wuse guse (cs.1 10) (cs.1 12) (cs.2.1 9) (cs.2.1 10) (cs.2.1 5) (cs.2.1 7) C post (k + 1) (nI c) (nI i) (nI j) o1 o2 o3 o4 o5 o6 o7 o8 errors r1 r2 r3 r4 r5 o9 o10 o11 r6 o12 r7 r8 r9 r10 r11 := by
  intro k
  induction k with
  | zero =>
    intro j hj _ h0 o1 o2 o3 o4 o5 o6 o7 o8 r1 r2 r3 r4 r5 o9 o10 o11 r6 o12 r7 r8 r9 r10 r11
    refine br_t (nI_le (by omega) (by omega)) ?_
    rw [nI_1]
    exact h0 rfl o1 o2 o3 o4 o5 o6 o7 o8 r1 r2 r3 r4 r5 o9 o10 o11 r6 o12 r7 r8 r9 r10 r11
  | succ k ih =>
    intro j hj h1 h0 o1 o2 o3 o4 o5 o6 o7 o8 r1 r2 r3 r4 r5 o9 o10 o11 r6 o12 r7 r8 r9 r10 r11
    refine br_f (nI_ge (by omega) (by omega)) ?_
    rw [nI_shl1 (i := i) (by omega), nI_shl1 (i := j) (by omega), nI_or]
    have hs := or12 hi (show j < 12 by omega)
    have st : dJ (okD t n c v) i (k + 1) j = if okD t n c v (2 ^ i ||| 2 ^ j) = true then some (2 ^ i ||| 2 ^ j) else dJ (okD t n c v) i k (j + 1) := rfl
    refine s7_behind (set := 2 ^ i ||| 2 ^ j) hI hC hs hn ho hw hg ha hb ea eb (fun o1 o2 o3 o4 o5 o6 o7 o8 r1 r2 r3 r4 r5 o9 o10 o11 r6 o12 r7 r8 r9 r10 r11 hT' => s7_doorOne hI hc hv hs hT'.2.2.2.2.2.2.2.1 (fun q => h1 _ (by rw [st, if_pos q]) o1 o2 o3 o4 o5 o6 o7 o8 r1 r2 r3 r4 r5 o9 o10 o11 r6 o12 r7 r8 r9 r10 r11) (fun q => ?_))
    rw [nI_1]
    exact ih (j + 1) (by omega) (fun s e => h1 s (by rw [st, if_neg q]; exact e)) (fun e => h0 (by rw [st, if_neg q]; exact e)) o1 o2 o3 o4 o5 o6 o7 o8 r1 r2 r3 r4 r5 o9 o10 o11 r6 o12 r7 r8 r9 r10 r11
theorem s7_doorsI {c n v : Nat} {t : TT} (hI : TI t) (hc : c < 16) (hv : v ≤ 999) (hn : n ≤ 1000) (ho : t.2.1.2.2.2.2.1 + n ≤ 20000) {cs : CS} {a b : Nat} (hC : TC (cs.1 1) (cs.1 2) (cs.1 3) (cs.1 4) (cs.1 5) (cs.1 6) (cs.1 7) (cs.2.1 0) (cs.2.1 1) (cs.2.1 2) (cs.2.1 3) (cs.1 10) (cs.1 12) (cs.2.1 5) (cs.2.1 7) t) {wuse guse : Int32} (hw : wuse = 0) (hg : guse = 1) (ha : a ≤ 50) (hb : b ≤ 20) (ea : (cs.1 13) = nI a) (eb : (cs.1 14) = nI b) (errors : Nat → Int32) (post : _) :
    ∀ k i, i + k = 12 → (∀ s, dI (okD t n c v) k i = some s → ∀ (o1 o2 o3 o4 o5 o6 o7 o8 : Int32) (r1 r2 r3 r4 r5 : Nat → Int32) (o9 o10 o11 : Int32) (r6 : Nat → Int32) (o12 : Int32) (r7 r8 r9 r10 r11 : Nat → Int32), post (nI s) o1 o2 o3 o4 o5 o6 o7 o8 errors r1 r2 r3 r4 r5 o9 o10 o11 r6 o12 r7 r8 r9 r10 r11) → (dI (okD t n c v) k i = none → ∀ (o1 o2 o3 o4 o5 o6 o7 o8 : Int32) (r1 r2 r3 r4 r5 : Nat → Int32) (o9 o10 o11 : Int32) (r6 : Nat → Int32) (o12 : Int32) (r7 r8 r9 r10 r11 : Nat → Int32), post ((-1000000000 : Int32) - nI 2) o1 o2 o3 o4 o5 o6 o7 o8 (upd errors 2 (errors 2 + 1)) r1 r2 r3 r4 r5 o9 o10 o11 r6 o12 r7 r8 r9 r10 r11) → ∀ (o1 o2 o3 o4 o5 o6 o7 o8 : Int32) (r1 r2 r3 r4 r5 : Nat → Int32) (o9 o10 o11 : Int32) (r6 : Nat → Int32) (o12 : Int32) (r7 r8 r9 r10 r11 : Nat → Int32), wp_X7_doors_b105 (nI v) (nI n) (cs.1 1) (cs.1 2) (cs.1 3) (cs.1 4) (cs.1 5) (cs.1 6) (cs.1 7) (cs.1 8) (cs.2.1 0) (cs.2.1 1) (cs.2.1 2) (cs.2.1 3) (cs.1 13) (cs.1 14) wuse guse (cs.1 10) (cs.1 12) (cs.2.1 9) (cs.2.1 10) (cs.2.1 5) (cs.2.1 7) post (k + 1) (nI c) (nI i) o1 o2 o3 o4 o5 o6 o7 o8 errors r1 r2 r3 r4 r5 o9 o10 o11 r6 o12 r7 r8 r9 r10 r11 := by
  intro k
  induction k with
  | zero =>
    intro i hi _ h0 o1 o2 o3 o4 o5 o6 o7 o8 r1 r2 r3 r4 r5 o9 o10 o11 r6 o12 r7 r8 r9 r10 r11
    exact br_t (nI_le (a := 12) (by omega) (by omega)) (e7 2 (by omega) (h0 rfl o1 o2 o3 o4 o5 o6 o7 o8 r1 r2 r3 r4 r5 o9 o10 o11 r6 o12 r7 r8 r9 r10 r11))
  | succ k ih =>
    intro i hi h1 h0 o1 o2 o3 o4 o5 o6 o7 o8 r1 r2 r3 r4 r5 o9 o10 o11 r6 o12 r7 r8 r9 r10 r11
    have st : dI (okD t n c v) (k + 1) i = match dJ (okD t n c v) i i 0 with
      | some s => some s
      | none => dI (okD t n c v) k (i + 1) := rfl
    refine br_f (nI_ge (b := 12) (by omega) (by omega)) ⟨i + 1, s7_doorsJ hI hc hv (by omega) hn ho hC hw hg ha hb ea eb errors _ post i 0 (by omega) (fun s e o1 o2 o3 o4 o5 o6 o7 o8 r1 r2 r3 r4 r5 o9 o10 o11 r6 o12 r7 r8 r9 r10 r11 => h1 s (by rw [st, e]) o1 o2 o3 o4 o5 o6 o7 o8 r1 r2 r3 r4 r5 o9 o10 o11 r6 o12 r7 r8 r9 r10 r11) (fun e o1 o2 o3 o4 o5 o6 o7 o8 r1 r2 r3 r4 r5 o9 o10 o11 r6 o12 r7 r8 r9 r10 r11 => ?_) o1 o2 o3 o4 o5 o6 o7 o8 r1 r2 r3 r4 r5 o9 o10 o11 r6 o12 r7 r8 r9 r10 r11⟩
    exact ih (i + 1) (by omega) (fun s e' => h1 s (by rw [st, e]; exact e')) (fun e' => h0 (by rw [st, e]; exact e')) o1 o2 o3 o4 o5 o6 o7 o8 r1 r2 r3 r4 r5 o9 o10 o11 r6 o12 r7 r8 r9 r10 r11
theorem s7_doors1 {c n v : Nat} {t : TT} (hI : TI t) (hc : c < 16) (hv : v ≤ 999) (hn : n ≤ 1000) (ho : t.2.1.2.2.2.2.1 + n ≤ 20000) {cs : CS} {a b : Nat} (hC : TC (cs.1 1) (cs.1 2) (cs.1 3) (cs.1 4) (cs.1 5) (cs.1 6) (cs.1 7) (cs.2.1 0) (cs.2.1 1) (cs.2.1 2) (cs.2.1 3) (cs.1 10) (cs.1 12) (cs.2.1 5) (cs.2.1 7) t) {wuse guse : Int32} (hw : wuse = 0) (hg : guse = 1) (ha : a ≤ 50) (hb : b ≤ 20) (ea : (cs.1 13) = nI a) (eb : (cs.1 14) = nI b) (errors : Nat → Int32) (post : _) :
    ∀ k i, i + k = 12 → (∀ s, d1 (okD t n c v) k i = some s → ∀ (o1 o2 o3 o4 o5 o6 o7 o8 : Int32) (r1 r2 r3 r4 r5 : Nat → Int32) (o9 o10 o11 : Int32) (r6 : Nat → Int32) (o12 : Int32) (r7 r8 r9 r10 r11 : Nat → Int32), post (nI s) o1 o2 o3 o4 o5 o6 o7 o8 errors r1 r2 r3 r4 r5 o9 o10 o11 r6 o12 r7 r8 r9 r10 r11) → (d1 (okD t n c v) k i = none → ∀ (o1 o2 o3 o4 o5 o6 o7 o8 : Int32) (r1 r2 r3 r4 r5 : Nat → Int32) (o9 o10 o11 : Int32) (r6 : Nat → Int32) (o12 : Int32) (r7 r8 r9 r10 r11 : Nat → Int32), post ((-1000000000 : Int32) - nI 2) o1 o2 o3 o4 o5 o6 o7 o8 (upd errors 2 (errors 2 + 1)) r1 r2 r3 r4 r5 o9 o10 o11 r6 o12 r7 r8 r9 r10 r11) → ∀ (o1 o2 o3 o4 o5 o6 o7 o8 : Int32) (r1 r2 r3 r4 r5 : Nat → Int32) (o9 o10 o11 : Int32) (r6 : Nat → Int32) (o12 : Int32) (r7 r8 r9 r10 r11 : Nat → Int32), wp_X7_doors_b66 (nI v) (nI n) (cs.1 1) (cs.1 2) (cs.1 3) (cs.1 4) (cs.1 5) (cs.1 6) (cs.1 7) (cs.1 8) (cs.2.1 0) (cs.2.1 1) (cs.2.1 2) (cs.2.1 3) (cs.1 13) (cs.1 14) wuse guse (cs.1 10) (cs.1 12) (cs.2.1 9) (cs.2.1 10) (cs.2.1 5) (cs.2.1 7) post (k + 1) (nI c) (nI i) o1 o2 o3 o4 o5 o6 o7 o8 errors r1 r2 r3 r4 r5 o9 o10 o11 r6 o12 r7 r8 r9 r10 r11 := by
  intro k
  induction k with
  | zero =>
    intro i hi h1 h0 o1 o2 o3 o4 o5 o6 o7 o8 r1 r2 r3 r4 r5 o9 o10 o11 r6 o12 r7 r8 r9 r10 r11
    exact br_t (nI_le (a := 12) (by omega) (by omega)) ⟨12, s7_doorsI hI hc hv hn ho hC hw hg ha hb ea eb errors post 11 1 rfl h1 h0 o1 o2 o3 o4 o5 o6 o7 o8 r1 r2 r3 r4 r5 o9 o10 o11 r6 o12 r7 r8 r9 r10 r11⟩
  | succ k ih =>
    intro i hi h1 h0 o1 o2 o3 o4 o5 o6 o7 o8 r1 r2 r3 r4 r5 o9 o10 o11 r6 o12 r7 r8 r9 r10 r11
    have st : d1 (okD t n c v) (k + 1) i = if okD t n c v (2 ^ i) = true then some (2 ^ i) else d1 (okD t n c v) k (i + 1) := rfl
    refine br_f (nI_ge (b := 12) (by omega) (by omega)) ?_
    rw [nI_shl1 (i := i) (by omega)]
    have hs := pow12 (i := i) (by omega)
    refine s7_behind (set := 2 ^ i) hI hC hs hn ho hw hg ha hb ea eb (fun o1 o2 o3 o4 o5 o6 o7 o8 r1 r2 r3 r4 r5 o9 o10 o11 r6 o12 r7 r8 r9 r10 r11 hT' => s7_doorOne hI hc hv hs hT'.2.2.2.2.2.2.2.1 (fun q => h1 _ (by rw [st, if_pos q]) o1 o2 o3 o4 o5 o6 o7 o8 r1 r2 r3 r4 r5 o9 o10 o11 r6 o12 r7 r8 r9 r10 r11) (fun q => ?_))
    rw [nI_1]
    exact ih (i + 1) (by omega) (fun s e => h1 s (by rw [st, if_neg q]; exact e)) (fun e => h0 (by rw [st, if_neg q]; exact e)) o1 o2 o3 o4 o5 o6 o7 o8 r1 r2 r3 r4 r5 o9 o10 o11 r6 o12 r7 r8 r9 r10 r11
theorem s8_isSo {c n v s ct : Nat} {t : TT} (hI : TI t) {dA aside na pi fl : Nat → Int32} (hT : TM dA t) (ha : ∀ i, i < 57 → aside i = dA i) (hc : c < 16) (hv : v ≤ 999) (hs : s < 4096) (hn : n ≤ 1000) (ho : t.2.1.2.2.2.2.1 + n ≤ 20000) (bc : ct < 256) {P : Int32 → Int32 → (Nat → Int32) → (Nat → Int32) → (Nat → Int32) → (Nat → Int32) → Prop}
    (h1 : okD t n c v s = true → ∀ (ct : Nat) (na pi fl : Nat → Int32), ct < 256 → P 1 (nI ct) dA na pi fl) (h0 : ¬ okD t n c v s = true → ∀ (ct : Nat) (na pi fl : Nat → Int32), ct < 256 → P 0 (nI ct) dA na pi fl) : wp_X8_isSo (nI s) (nI c) (nI v) (nI n) (nI ct) dA aside na pi fl P := by
  unfold wp_X8_isSo
  rw [n9]
  refine s8_bS hI hT hs hn ho rfl bc (by omega) ha (fun c' dn na pi fl hdn hc' => ?_)
  have e : dn (9 + c) = nI (hD t n c s) := hdn.1.2.2.2.2.2.2.1 c hc
  have b := hD_b hI (n := n) hc hs
  rw [e]
  refine ⟨fun q => h0 (fun w => ?_) _ _ _ _ hc', fun q => h1 (decide_eq_true (Nat.not_lt.mp (fun w => q ((nI_ltI (by omega) (by omega)).mpr w)))) _ _ _ _ hc'⟩
  have w' : v ≤ hD t n c s := of_decide_eq_true w
  have := (nI_ltI (by omega) (by omega)).mp q
  omega
theorem s8_doorsJ {c n v i : Nat} {t : TT} (hI : TI t) {dA aside found : Nat → Int32} (hT : TM dA t) (ha : ∀ i, i < 57 → aside i = dA i) (hc : c < 16) (hv : v ≤ 999) (hi : i < 12) (hn : n ≤ 1000) (ho : t.2.1.2.2.2.2.1 + n ≤ 20000) (C post : _) :
    ∀ k j, j + k = i → (∀ s, dJ (okD t n c v) i k j = some s → ∀ (ct : Nat) (na pi fl : Nat → Int32), ct < 256 → post (nI s) (nI ct) dA aside found na pi fl) → (dJ (okD t n c v) i k j = none → ∀ (ct : Nat) (na pi fl : Nat → Int32), ct < 256 → C (nI c) (nI (i + 1)) (nI ct) dA aside found na pi fl) → ∀ (ct : Nat) (na pi fl : Nat → Int32), ct < 256 → wp_X8_doors_b113 (nI v) (nI n) C post (k + 1) (nI c) (nI i) (nI j) (nI ct) dA aside found na pi fl := by
  intro k
  induction k with
  | zero =>
    intro j hj _ h0 ct na pi fl hct
    refine br_t (nI_le (by omega) (by omega)) ?_
    rw [nI_1]
    exact h0 rfl ct na pi fl hct
  | succ k ih =>
    intro j hj h1 h0 ct na pi fl hct
    refine br_f (nI_ge (by omega) (by omega)) ?_
    rw [nI_shl1 (i := i) (by omega), nI_shl1 (i := j) (by omega), nI_or, Nat.or_comm (2 ^ j) (2 ^ i)]
    have hs := or12 hi (show j < 12 by omega)
    have st : dJ (okD t n c v) i (k + 1) j = if okD t n c v (2 ^ i ||| 2 ^ j) = true then some (2 ^ i ||| 2 ^ j) else dJ (okD t n c v) i k (j + 1) := rfl
    refine s8_isSo hI hT ha hc hv hs hn ho hct (fun q ct na pi fl hct => yes (h1 _ (by rw [st, if_pos q]) ct na pi fl hct)) (fun q ct na pi fl hct => no ?_)
    rw [nI_1]
    exact ih (j + 1) (by omega) (fun s e => h1 s (by rw [st, if_neg q]; exact e)) (fun e => h0 (by rw [st, if_neg q]; exact e)) ct na pi fl hct
theorem s8_doorsI {c n v : Nat} {t : TT} (hI : TI t) {dA aside found : Nat → Int32} (hT : TM dA t) (ha : ∀ i, i < 57 → aside i = dA i) (hc : c < 16) (hv : v ≤ 999) (hn : n ≤ 1000) (ho : t.2.1.2.2.2.2.1 + n ≤ 20000) (post : _) :
    ∀ k i, i + k = 12 → (∀ s, dI (okD t n c v) k i = some s → ∀ (ct : Nat) (na pi fl : Nat → Int32), ct < 256 → post (nI s) (nI ct) dA aside found na pi fl) → (dI (okD t n c v) k i = none → ∀ (ct : Nat) (na pi fl : Nat → Int32), ct < 256 → post ((-1000000000 : Int32) - nI 2) (nI ct) dA aside (upd found 2 (found 2 + 1)) na pi fl) → ∀ (ct : Nat) (na pi fl : Nat → Int32), ct < 256 → wp_X8_doors_b103 (nI v) (nI n) post (k + 1) (nI c) (nI i) (nI ct) dA aside found na pi fl := by
  intro k
  induction k with
  | zero =>
    intro i hi _ h0 ct na pi fl hct
    exact br_t (nI_le (a := 12) (by omega) (by omega)) (e8 2 (by omega) (h0 rfl ct na pi fl hct))
  | succ k ih =>
    intro i hi h1 h0 ct na pi fl hct
    have st : dI (okD t n c v) (k + 1) i = match dJ (okD t n c v) i i 0 with
      | some s => some s
      | none => dI (okD t n c v) k (i + 1) := rfl
    refine br_f (nI_ge (b := 12) (by omega) (by omega)) ⟨i + 1, s8_doorsJ hI hT ha hc hv (by omega) hn ho _ post i 0 (by omega) (fun s e => h1 s (by rw [st, e])) (fun e ct na pi fl hct => ?_) ct na pi fl hct⟩
    exact ih (i + 1) (by omega) (fun s e' => h1 s (by rw [st, e]; exact e')) (fun e' => h0 (by rw [st, e]; exact e')) ct na pi fl hct
theorem s8_doors1 {c n v : Nat} {t : TT} (hI : TI t) {dA aside found : Nat → Int32} (hT : TM dA t) (ha : ∀ i, i < 57 → aside i = dA i) (hc : c < 16) (hv : v ≤ 999) (hn : n ≤ 1000) (ho : t.2.1.2.2.2.2.1 + n ≤ 20000) (post : _) :
    ∀ k i, i + k = 12 → (∀ s, d1 (okD t n c v) k i = some s → ∀ (ct : Nat) (na pi fl : Nat → Int32), ct < 256 → post (nI s) (nI ct) dA aside found na pi fl) → (d1 (okD t n c v) k i = none → ∀ (ct : Nat) (na pi fl : Nat → Int32), ct < 256 → post ((-1000000000 : Int32) - nI 2) (nI ct) dA aside (upd found 2 (found 2 + 1)) na pi fl) → ∀ (ct : Nat) (na pi fl : Nat → Int32), ct < 256 → wp_X8_doors_b67 (nI v) (nI n) post (k + 1) (nI c) (nI i) (nI ct) dA aside found na pi fl := by
  intro k
  induction k with
  | zero =>
    intro i hi h1 h0 ct na pi fl hct
    exact br_t (nI_le (a := 12) (by omega) (by omega)) ⟨12, s8_doorsI hI hT ha hc hv hn ho post 11 1 rfl h1 h0 ct na pi fl hct⟩
  | succ k ih =>
    intro i hi h1 h0 ct na pi fl hct
    have st : d1 (okD t n c v) (k + 1) i = if okD t n c v (2 ^ i) = true then some (2 ^ i) else d1 (okD t n c v) k (i + 1) := rfl
    refine br_f (nI_ge (b := 12) (by omega) (by omega)) ?_
    rw [nI_shl1 (i := i) (by omega)]
    refine s8_isSo hI hT ha hc hv (pow12 (i := i) (by omega)) hn ho hct (fun q ct na pi fl hct => yes (h1 _ (by rw [st, if_pos q]) ct na pi fl hct)) (fun q ct na pi fl hct => no ?_)
    rw [nI_1]
    exact ih (i + 1) (by omega) (fun s e => h1 s (by rw [st, if_neg q]; exact e)) (fun e => h0 (by rw [st, if_neg q]; exact e)) ct na pi fl hct
theorem st_doors : ST_doors Rel := by
  intro cs ms h a1 a2 a3
  obtain ⟨hT, hK, hC, hE, hV, s0, s1, s2, s3⟩ := id h
  have er := er_up hE (k := 1) (by omega)
  have er2 := er_up hE (k := 2) (by omega)
  obtain ⟨t, a, b, i1, i2, i3, i4, i5, i6, i7⟩ := id hT
  have f6 := i3.2.2.2.2.2.1
  obtain ⟨ct, bc, hct⟩ := id hC
  have hN := i1.1.2.2.1
  unfold wp_X7_doors
  rw [f6]
  by_cases g1 : ∃ i, i < t.1.2.2.1 ∧ a1 = nI i
  · obtain ⟨i, hi, rfl⟩ := g1
    have i8 : i < 8 := by omega
    refine h7t hi hN (yes ?_)
    by_cases g2 : 0 ≤ a2 ∧ a2 ≤ 999
    · by_cases g3 : 0 ≤ a3 ∧ a3 ≤ 20
      · obtain ⟨v, hv, rfl⟩ := rg (m := 999) (by omega) g2
        obtain ⟨n, hn, rfl⟩ := rg (m := 20) (by omega) g3
        have hc := i1.1.2.2.2.2.2.1 i i8
        have ec := i3.2.2.2.2.2.2.2.2.2.1 i i8
        have em := (i4.1.2.2.2.2.2.2.2 i i8).2.2.1
        refine w7t g2 (yes (w7t g3 (yes ⟨ix i8 (by omega), ?_⟩)))
        rw [nI_clamp (by omega), ec, ← f6]
        have ref : ∀ {P : _}, (okD t n (t.1.2.2.2.2.2.1 i) v 0 = true → ∀ (as : Nat → Int32) (ct : Nat) (na pi fl : Nat → Int32), ct < 256 → P (0 : Int32) (nI ct) (ms.2.1 0) as (ms.2.1 3) na pi fl) → (¬ okD t n (t.1.2.2.2.2.2.1 i) v 0 = true → ∀ (as : Nat → Int32), (∀ i, i < 57 → as i = (ms.2.1 0) i) → ∀ (ct : Nat) (na pi fl : Nat → Int32), ct < 256 → ∃ k, wp_X8_doors_b67 (nI v) (nI n) P k (nI (t.1.2.2.2.2.2.1 i)) (0 : Int32) (nI ct) (ms.2.1 0) as (ms.2.1 3) na pi fl) → wp_X8_doors (nI i) (nI v) (nI n) (ms.1 8) (ms.2.1 0) (ms.2.1 2) (ms.2.1 3) (ms.2.1 4) (ms.2.1 6) (ms.2.1 7) P := fun p1 p0 => h8t hi hN i4.1.1 (yes (w8t 0 999 g2 (yes (w8t 0 20 g3 (yes (s8_keepAside (fun a' hA => p8_of (w := 2) i8 (by omega) (by
          rw [em, hct]
          exact s8_isSo (s := 0) i1 i4 hA hc hv (by omega) (by omega) (by omega) bc (fun q ct na pi fl h => yes (p1 q a' ct na pi fl h)) (fun q ct na pi fl h => no (p0 q a' hA ct na pi fl h))))))))))
        refine s7_behind (set := 0) i1 i3 (by omega) (by omega) (by omega) hK.2.2.2.2.1 hK.2.2.2.2.2 i6.1 i7.1 i6.2.1 i7.2.1 (fun o1 o2 o3 o4 o5 o6 o7 o8 r1 r2 r3 r4 r5 o9 o10 o11 r6 o12 r7 r8 r9 r10 r11 hT' => s7_doorOne i1 hc hv (by omega) hT'.2.2.2.2.2.2.2.1 (fun q => ?_) (fun q => ⟨13, ?_⟩))
        · exact ref (fun _ as ct' na pi fl hct' => ⟨rfl, hT, hK, ⟨ct', hct', rfl⟩, hE, hV, s0, s1, s2, s3⟩) (fun w => absurd q w)
        · refine s7_doors1 i1 hc hv (by omega) (by omega) i3 hK.2.2.2.2.1 hK.2.2.2.2.2 i6.1 i7.1 i6.2.1 i7.2.1 _ _ 12 0 rfl (fun s e _ _ _ _ _ _ _ _ _ _ _ _ _ _ _ _ _ _ _ _ _ _ _ => ?_) (fun e _ _ _ _ _ _ _ _ _ _ _ _ _ _ _ _ _ _ _ _ _ _ _ => ?_) o1 o2 o3 o4 o5 o6 o7 o8 r1 r2 r3 r4 r5 o9 o10 o11 r6 o12 r7 r8 r9 r10 r11
          · exact ref (fun w => absurd w q) (fun _ as hA ct' na pi fl hct' => ⟨13, s8_doors1 i1 i4 hA hc hv (by omega) (by omega) _ 12 0 rfl (fun s' e' ct' na pi fl hct' => by
              have es : s = s' := Option.some.inj (e.symm.trans e')
              subst es
              exact ⟨rfl, hT, hK, ⟨ct', hct', rfl⟩, hE, hV, s0, s1, s2, s3⟩) (fun e' => absurd (e.symm.trans e') (by intro w; cases w)) ct' na pi fl hct'⟩)
          · exact ref (fun w => absurd w q) (fun _ as hA ct' na pi fl hct' => ⟨13, s8_doors1 i1 i4 hA hc hv (by omega) (by omega) _ 12 0 rfl (fun s' e' => absurd (e.symm.trans e') (by intro w; cases w)) (fun _ ct' na pi fl hct' => ⟨rfl, hT, hK, ⟨ct', hct', rfl⟩, er2, hV, s0, s1, s2, s3⟩) ct' na pi fl hct'⟩)
      · exact w7t g2 (yes (w7f g3 (no (e7 1 (by omega) (h8t hi hN i4.1.1 (yes (w8t 0 999 g2 (yes (w8f 0 20 g3 (no (e8 1 (by omega) ⟨rfl, hT, hK, hC, er, hV, s0, s1, s2, s3⟩)))))))))))
    · exact w7f g2 (no (e7 1 (by omega) (h8t hi hN i4.1.1 (yes (w8f 0 999 g2 (no (e8 1 (by omega) ⟨rfl, hT, hK, hC, er, hV, s0, s1, s2, s3⟩)))))))
  · exact h7f g1 hN (no (e7 1 (by omega) (h8f g1 hN i4.1.1 (no (e8 1 (by omega) ⟨rfl, hT, hK, hC, er, hV, s0, s1, s2, s3⟩)))))
