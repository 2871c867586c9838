/-! PURE 10: towns, copies, thoughts -/
theorem cpy0 {α : Type} (f g : Nat → α) (n j : Nat) : va_cpy f g (0 : Int32).toNatClampNeg (0 : Int32).toNatClampNeg n j = if j < n then f j else g j := by
  rw [show (0 : Int32).toNatClampNeg = 0 from nI_clamp (n := 0) (by omega)]
  unfold va_cpy
  by_cases h : j < n
  · rw [if_pos ⟨Nat.zero_le _, by omega⟩, if_pos h]; congr 1; omega
  · rw [if_neg (by omega), if_neg h]
theorem p3_copyFrom {N m : Nat} (hN : N < 2 ^ 30) (hm : m ≤ N) {many : Int32} {nums pn : Nat → Int32} {P : Int32 → (Nat → Int32) → Prop} (h : ∀ nums' : Nat → Int32, (∀ i, i < m → nums' i = pn i) → P (nI m) nums') : wp_X3_copyFrom N N many (nI m) nums pn P := by
  unfold wp_X3_copyFrom
  have e : vmn (nI m) (Int32.ofNat N) = nI m := by
    rw [show Int32.ofNat N = nI N from rfl, vmn_nI (by omega) (by omega), Nat.min_eq_left hm]
  rw [e, nI_clamp (n := m) (by omega)]
  refine br_f (nI_pos (by omega)) (br_f (fun z => ?_) ⟨by decide, by decide, nI_pos (by omega), ?_, ?_, h _ (fun i hi => ?_)⟩)
  · have := (nI_ltI (a := N) (b := m) (by omega) (by omega)).mp z
    omega
  · rw [show (0 : Int32).toNatClampNeg = 0 from nI_clamp (n := 0) (by omega)]; omega
  · rw [show (0 : Int32).toNatClampNeg = 0 from nI_clamp (n := 0) (by omega)]; omega
  · rw [cpy0, if_pos hi]
/-- a town in numbers: what stays, what changes, the two texts' steps -/
abbrev TT : Type := hZ × hY × Nat × Nat × (Nat → Nat) × (Nat → Nat)
def TI (t : TT) : Prop := ZB t.1 ∧ YB t.2.1 ∧ t.2.2.1 ≤ 50 ∧ t.2.2.2.1 ≤ 50 ∧ WFc t.2.2.2.2.1 t.2.2.1 ∧ WFc t.2.2.2.2.2 t.2.2.2.1 ∧ t.1.2.2.2.2.2.2.1 = gF 0 t.2.2.1 t.2.2.2.2.1 ∧ t.1.2.2.2.2.2.2.2 = gF 1 t.2.2.2.1 t.2.2.2.2.2
/-- the class's town -/
def TC (doors fed wants burnt hour houses content : Int32) (heat km cell warm : Nat → Int32) (wm gm : Int32) (wn gn : Nat → Int32) (t : TT) : Prop :=
  doors = nI t.1.1 ∧ fed = nI t.1.2.1 ∧ wants = nI t.2.1.2.2.1 ∧ burnt = nI t.2.1.2.2.2.1 ∧ hour = nI t.2.1.2.2.2.2.1 ∧ houses = nI t.1.2.2.1 ∧ content = nI t.2.1.2.2.2.2.2 ∧ (∀ c, c < 16 → heat c = nI (t.2.1.1 c)) ∧ (∀ i, i < 8 → km i = nI (10 * t.1.2.2.2.1 i + t.1.2.2.2.2.1 i)) ∧ (∀ i, i < 8 → cell i = nI (t.1.2.2.2.2.2.1 i)) ∧ (∀ j, j < 8 → warm j = nI (t.2.1.2.1 j)) ∧ wm = nI t.2.2.1 ∧ gm = nI t.2.2.2.1 ∧ (∀ i, i < t.2.2.1 → wn i = nI (t.2.2.2.2.1 i)) ∧ ∀ i, i < t.2.2.2.1 → gn i = nI (t.2.2.2.2.2 i)
/-- the reference's town -/
def TM (d : Nat → Int32) (t : TT) : Prop := RD d t.1 t.2.1 ∧ d 57 = nI t.2.2.1 ∧ d 58 = nI t.2.2.2.1 ∧ (∀ i, i < t.2.2.1 → d (79 + i) = nI (t.2.2.2.2.1 i)) ∧ ∀ i, i < t.2.2.2.1 → d (129 + i) = nI (t.2.2.2.2.2 i)
theorem s5_copyFrom {doors fed wants burnt hour houses content zz pdoors pfed pwants pburnt phour phouses pcontent pzz tm wtm ptm pwtm wm gm pwm pgm : Int32} {heat km cell warm pheat pkm pcell pwarm tn wtn ptn pwtn wn gn pwn pgn : Nat → Int32} {t : TT} {a b : Nat}
    {post : Int32 → Int32 → Int32 → Int32 → Int32 → Int32 → Int32 → Int32 → (Nat → Int32) → (Nat → Int32) → (Nat → Int32) → (Nat → Int32) → Int32 → Int32 → Int32 → Int32 → (Nat → Int32) → (Nat → Int32) → (Nat → Int32) → (Nat → Int32) → Prop}
    (hI : TI t) (hT : TC pdoors pfed pwants pburnt phour phouses pcontent pheat pkm pcell pwarm pwm pgm pwn pgn t) (ha : a ≤ 50) (hb : b ≤ 20) (ea : ptm = nI a) (eb : pwtm = nI b)
    (hp : ∀ (heat' km' cell' warm' tn' wtn' wn' gn' : Nat → Int32), TC pdoors pfed pwants pburnt phour phouses pcontent heat' km' cell' warm' pwm pgm wn' gn' t → (∀ i, i < a → tn' i = ptn i) → (∀ i, i < b → wtn' i = pwtn i) → post pdoors pfed pwants pburnt phour phouses pcontent pzz heat' km' cell' warm' ptm pwtm pwm pgm tn' wtn' wn' gn') :
    wp_X5_copyFrom doors fed wants burnt hour houses content zz pdoors pfed pwants pburnt phour phouses pcontent pzz heat km cell warm tm wtm pheat pkm pcell pwarm ptm pwtm wm gm tn wtn pwm pgm ptn pwtn wn gn pwn pgn post := by
  obtain ⟨i1, i2, i3, i4, -⟩ := id hI
  obtain ⟨e1, e2, e3, e4, e5, e6, e7, e8, e9, e10, e11, e12, e13, e14, e15⟩ := id hT
  subst ea eb e12 e13
  unfold wp_X5_copyFrom
  have c16 : (16 : Int32).toNatClampNeg = 16 := nI_clamp (n := 16) (by omega)
  have c8 : (8 : Int32).toNatClampNeg = 8 := nI_clamp (n := 8) (by omega)
  refine p3_copyFrom (by omega) i3 (fun wn' hwn => p3_copyFrom (by omega) i4 (fun gn' hgn => p3_copyFrom (by omega) ha (fun tn' htn => p3_copyFrom (by omega) hb (fun wtn' hwtn => ?_))))
  refine hp _ _ _ _ _ _ _ _ ⟨e1, e2, e3, e4, e5, e6, e7, fun c hc => ?_, fun c hc => ?_, fun c hc => ?_, fun c hc => ?_, rfl, rfl, fun i hi => ?_, fun i hi => ?_⟩ htn hwtn
  · rw [c16, cpy0, if_pos hc]; exact e8 c hc
  · rw [c8, cpy0, if_pos hc]; exact e9 c hc
  · rw [c8, cpy0, if_pos hc]; exact e10 c hc
  · rw [c8, cpy0, if_pos hc]; exact e11 c hc
  · rw [hwn i hi]; exact e14 i hi
  · rw [hgn i hi]; exact e15 i hi
/-- a town with some doors changed and something fed, behind some hours -/
def tB (t : TT) (set : Nat) (n : Nat) : TT := ((t.1.1 ^^^ set, t.1.2), hrN (t.1.1 ^^^ set, t.1.2) t.2.1 n, t.2.2)
def tFd (t : TT) (f : Nat) (n : Nat) : TT := ((t.1.1, f, t.1.2.2), hrN (t.1.1, f, t.1.2.2) t.2.1 n, t.2.2)
theorem xor_lt {a b : Nat} (h1 : a < 4096) (h2 : b < 4096) : a ^^^ b < 4096 := Nat.xor_lt_two_pow (n := 12) h1 h2
theorem ZB_x {z : hZ} (h : ZB z) {set : Nat} (hs : set < 4096) : ZB (z.1 ^^^ set, z.2) := ⟨xor_lt h.1 hs, h.2⟩
theorem ZB_f {z : hZ} (h : ZB z) {f : Nat} (hf : f ≤ 99) : ZB (z.1, f, z.2.2) := ⟨h.1, hf, h.2.2⟩
theorem TI_B {t : TT} (h : TI t) {set n : Nat} (hs : set < 4096) : TI (tB t set n) := ⟨ZB_x h.1 hs, hrN_b (ZB_x h.1 hs) h.2.1 n, h.2.2⟩
theorem TI_F {t : TT} (h : TI t) {f n : Nat} (hf : f ≤ 99) : TI (tFd t f n) := ⟨ZB_f h.1 hf, hrN_b (ZB_f h.1 hf) h.2.1 n, h.2.2⟩
/-- hours of the class's town -/
theorem s5_passT {doors fed wants burnt hour houses content wm gm wuse guse : Int32} {heat km cell warm wn gn going wp gp : Nat → Int32} {t : TT} {n : Nat}
    {post : Int32 → Int32 → Int32 → Int32 → (Nat → Int32) → (Nat → Int32) → (Nat → Int32) → (Nat → Int32) → (Nat → Int32) → Prop}
    (hI : TI t) (hT : TC doors fed wants burnt hour houses content heat km cell warm wm gm wn gn t) (hw : wuse = 0) (hg : guse = 1) (hn : n ≤ 1000) (ho : t.2.1.2.2.2.2.1 + n ≤ 20000)
    (hp : ∀ (wants' burnt' hour' content' : Int32) (heat' warm' going' wp' gp' : Nat → Int32), TC doors fed wants' burnt' hour' houses content' heat' km cell warm' wm gm wn gn (t.1, hrN t.1 t.2.1 n, t.2.2) → post wants' burnt' hour' content' heat' warm' going' wp' gp') :
    wp_X5_pass (nI n) doors fed wants burnt hour houses content heat km cell warm going wuse guse wm wp gm gp wn gn post := by
  obtain ⟨i1, i2, i3, i4, i5, i6, i7, i8⟩ := id hI
  obtain ⟨e1, e2, e3, e4, e5, e6, e7, e8, e9, e10, e11, e12, e13, e14, e15⟩ := id hT
  subst hw hg e1 e2 e3 e4 e5 e6 e12 e13
  refine s7_pass hn i1 i2 ho e8 e11 e7 e9 e10 (by rw [i7]; exact gs7 (u := 0) (by omega) i3 i5 e14) (by rw [i8]; exact gs7 (u := 1) (by omega) i4 i6 e15) (fun heat' warm' going' wp' gp' h1 h2 => ?_)
  exact hp _ _ _ _ _ _ _ _ _ ⟨rfl, rfl, rfl, rfl, rfl, rfl, rfl, h1, e9, e10, h2, rfl, rfl, e14, e15⟩
