/-! PURE 13: how the class's state and the reference's belong together -/
def TR (doors fed wants burnt hour houses content zz wuse wm guse gm tm wtm : Int32) (heat km cell warm wn gn tn wtn : Nat → Int32) (d : Nat → Int32) : Prop := ∃ (t : TT) (a b : Nat), TI t ∧ t.2.1.2.2.2.2.1 ≤ 9999 ∧ TC doors fed wants burnt hour houses content heat km cell warm wm gm wn gn t ∧ TM d t ∧ (wuse = 0 ∧ guse = 1 ∧ zz = d 5) ∧ (a ≤ 50 ∧ tm = nI a ∧ d 6 = nI a ∧ ∀ i, i < a → tn i = d (179 + i) ∧ ∃ v, v < 256 ∧ d (179 + i) = nI v) ∧ (b ≤ 20 ∧ wtm = nI b ∧ d 7 = nI b ∧ ∀ i, i < b → wtn i = d (59 + i))
def SR (bits many : Int32) (nums : Nat → Int32) (mb mm : Int32) (mn : Nat → Int32) : Prop := bits = mb ∧ many = mm ∧ (bits = 0 ∨ bits = 8 ∨ bits = 16 ∨ bits = 32) ∧ ∃ n, n ≤ 40 ∧ many = nI n ∧ ∀ i, i < n → nums i = mn i
def Rel (cs ms : CS) : Prop :=
  TR (cs.1 1) (cs.1 2) (cs.1 3) (cs.1 4) (cs.1 5) (cs.1 6) (cs.1 7) (cs.1 8) (cs.1 9) (cs.1 10) (cs.1 11) (cs.1 12) (cs.1 13) (cs.1 14) (cs.2.1 0) (cs.2.1 1) (cs.2.1 2) (cs.2.1 3) (cs.2.1 5) (cs.2.1 7) (cs.2.1 9) (cs.2.1 10) (ms.2.1 0) ∧
  ((cs.1 0) = (ms.1 0) ∧ (¬ (cs.1 0) = 0 → TR (cs.1 15) (cs.1 16) (cs.1 17) (cs.1 18) (cs.1 19) (cs.1 20) (cs.1 21) (cs.1 22) (cs.1 23) (cs.1 24) (cs.1 25) (cs.1 26) (cs.1 27) (cs.1 28) (cs.2.1 11) (cs.2.1 12) (cs.2.1 13) (cs.2.1 14) (cs.2.1 16) (cs.2.1 18) (cs.2.1 20) (cs.2.1 21) (ms.2.1 1)) ∧ (cs.1 23) = 0 ∧ (cs.1 25) = 1 ∧ (cs.1 37) = 0 ∧ (cs.1 39) = 1) ∧
  (∃ k : Nat, k < 256 ∧ (ms.1 8) = nI k) ∧
  (∀ k, k < 6 → (cs.2.1 41) k = (ms.2.1 3) k) ∧
  (∃ n, n ≤ 40 ∧ (cs.1 49) = nI n ∧ (ms.1 9) = nI n ∧ ∀ i, i < n → (cs.2.1 35) i = (ms.2.1 9) i) ∧
  SR (cs.1 50) (cs.1 51) (cs.2.1 36) ((ms.2.1 10) 0) ((ms.2.1 11) 0) (fun i => (ms.2.1 12) (40 * 0 + i)) ∧
  SR (cs.1 52) (cs.1 53) (cs.2.1 37) ((ms.2.1 10) 1) ((ms.2.1 11) 1) (fun i => (ms.2.1 12) (40 * 1 + i)) ∧
  SR (cs.1 54) (cs.1 55) (cs.2.1 38) ((ms.2.1 10) 2) ((ms.2.1 11) 2) (fun i => (ms.2.1 12) (40 * 2 + i)) ∧
  SR (cs.1 56) (cs.1 57) (cs.2.1 39) ((ms.2.1 10) 3) ((ms.2.1 11) 3) (fun i => (ms.2.1 12) (40 * 3 + i))
theorem e7 (k : Nat) (hk : k < 6) {e : Nat → Int32} {post : Int32 → (Nat → Int32) → Prop} (h : post ((-1000000000 : Int32) - nI k) (upd e k (e k + 1))) : wp_X7_error (nI k) e post := by
  rw [p7_error k hk]; exact h
theorem e8 (k : Nat) (hk : k < 6) {e : Nat → Int32} {post : Int32 → (Nat → Int32) → Prop} (h : post ((-1000000000 : Int32) - nI k) (upd e k (e k + 1))) : wp_X8_finds (nI k) e post := by
  rw [p8_finds k hk]; exact h
theorem er_up {e f : Nat → Int32} (h : ∀ k, k < 6 → e k = f k) {k : Nat} (hk : k < 6) : ∀ j, j < 6 → upd e k (e k + 1) j = upd f k (f k + 1) j := fun j hj => by
  unfold upd
  by_cases q : j = k
  · rw [if_pos q, if_pos q, h k hk]
  · rw [if_neg q, if_neg q, h j hj]
theorem rg {a : Int32} {m : Nat} (hm : m < 2 ^ 31) (h : 0 ≤ a ∧ a ≤ nI m) : ∃ j : Nat, j ≤ m ∧ a = nI j := nI_of2 (M := nI m) (nI_toInt hm) (Int32.not_lt.mpr h.1) h.2
theorem w7t {v lo hi : Int32} {P : Int32 → Prop} (h : lo ≤ v ∧ v ≤ hi) (hp : P 1) : wp_X7_within v lo hi P := by rw [p7_within, if_pos h]; exact hp
theorem w7f {v lo hi : Int32} {P : Int32 → Prop} (h : ¬ (lo ≤ v ∧ v ≤ hi)) (hp : P 0) : wp_X7_within v lo hi P := by rw [p7_within, if_neg h]; exact hp
theorem c7t {v : Int32} {P : Int32 → Prop} (h : 0 ≤ v ∧ v ≤ 15) (hp : P 1) : wp_X7_isCell v P := w7t h hp
theorem c7f {v : Int32} {P : Int32 → Prop} (h : ¬ (0 ≤ v ∧ v ≤ 15)) (hp : P 0) : wp_X7_isCell v P := w7f h hp
theorem d7t {v : Int32} {P : Int32 → Prop} (h : 0 ≤ v ∧ v ≤ 11) (hp : P 1) : wp_X7_isDoor v P := w7t h hp
theorem d7f {v : Int32} {P : Int32 → Prop} (h : ¬ (0 ≤ v ∧ v ≤ 11)) (hp : P 0) : wp_X7_isDoor v P := w7f h hp
theorem s7t {v : Int32} {P : Int32 → Prop} (h : 0 ≤ v ∧ v ≤ 3) (hp : P 1) : wp_X7_isSheet v P := w7t h hp
theorem s7f {v : Int32} {P : Int32 → Prop} (h : ¬ (0 ≤ v ∧ v ≤ 3)) (hp : P 0) : wp_X7_isSheet v P := w7f h hp
theorem w8t {v : Int32} (lo hi : Int32) {P : Int32 → Prop} (h : lo ≤ v ∧ v ≤ hi) (hp : P 1) : wp_X8_in v.toInt64 lo.toInt64 hi.toInt64 P := by rw [p8_in, if_pos h]; exact hp
theorem w8f {v : Int32} (lo hi : Int32) {P : Int32 → Prop} (h : ¬ (lo ≤ v ∧ v ≤ hi)) (hp : P 0) : wp_X8_in v.toInt64 lo.toInt64 hi.toInt64 P := by rw [p8_in, if_neg h]; exact hp
theorem c8t {v : Int32} {P : Int32 → Prop} (h : 0 ≤ v ∧ v ≤ 15) (hp : P 1) : wp_X8_isCell v P := w8t 0 15 h hp
theorem c8f {v : Int32} {P : Int32 → Prop} (h : ¬ (0 ≤ v ∧ v ≤ 15)) (hp : P 0) : wp_X8_isCell v P := w8f 0 15 h hp
theorem d8t {v : Int32} {P : Int32 → Prop} (h : 0 ≤ v ∧ v ≤ 11) (hp : P 1) : wp_X8_isDoor v P := w8t 0 11 h hp
theorem d8f {v : Int32} {P : Int32 → Prop} (h : ¬ (0 ≤ v ∧ v ≤ 11)) (hp : P 0) : wp_X8_isDoor v P := w8f 0 11 h hp
theorem s8t {v : Int32} {P : Int32 → Prop} (h : 0 ≤ v ∧ v ≤ 3) (hp : P 1) : wp_X8_isSheet v P := w8t 0 3 h hp
theorem s8f {v : Int32} {P : Int32 → Prop} (h : ¬ (0 ≤ v ∧ v ≤ 3)) (hp : P 0) : wp_X8_isSheet v P := w8f 0 3 h hp
/-- a call that is refused (yes: the two branches) -/
theorem yes {A B : Prop} (h : B) : ((1 : Int32) = 0 → A) ∧ (¬ (1 : Int32) = 0 → B) := br_f (by decide) h
theorem no {A B : Prop} (h : A) : ((0 : Int32) = 0 → A) ∧ (¬ (0 : Int32) = 0 → B) := br_t rfl h
