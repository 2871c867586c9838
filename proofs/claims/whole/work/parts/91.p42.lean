/-! PURE 42: reading: levels, both readers at once -/
abbrev P7 : Type := Int32 → Int32 → Int32 → (Nat → Int32) → Prop
abbrev P8 : Type := Int32 → Int32 → Int32 → Int32 → (Nat → Int32) → Prop
abbrev W7 : Type := Int32 → Int32 → (Nat → Int32) → P7 → Prop
abbrev W8 : Type := Int32 → Int32 → Int32 → Int32 → (Nat → Int32) → P8 → Prop
def S7 (W : W7) (at0 k : Nat) (c : Nat → Nat) (ok : Bool) (at1 k1 : Nat) (c1 : Nat → Nat) : Prop := ∀ (nums : Nat → Int32) (post : P7), (∀ i, i < k → nums i = nI (c i)) → (∀ (many' : Int32) (nums' : Nat → Int32), (ok = true → many' = nI k1 ∧ ∀ i, i < k1 → nums' i = nI (c1 i)) → post (cond ok 1 0) (nI at1) many' nums') → W (nI at0) (nI k) nums post
def S8 (W : W8) (op : Int32) (at0 k : Nat) (c : Nat → Nat) (ok : Bool) (at1 k1 : Nat) (c1 : Nat → Nat) : Prop := ∀ (code : Nat → Int32) (post : P8), (∀ i, i < k → code i = nI (c i)) → (∀ (coded' : Int32) (code' : Nat → Int32), (ok = true → coded' = nI k1 ∧ ∀ i, i < k1 → code' i = nI (c1 i)) → post (nI at1) (cond ok (-1) (nI at1)) op coded' code') → W (nI at0) (-1) op (nI k) code post
/-- what a part that is read is: 'e' more on the pile -/
def RP (e m at0 k : Nat) (c : Nat → Nat) (ok : Bool) (at1 k1 : Nat) (c1 : Nat → Nat) : Prop := at0 ≤ at1 ∧ at1 ≤ m ∧ (ok = true → at0 + e ≤ at1 ∧ k1 + at0 ≤ at1 + k ∧ WFc c1 k1 ∧ ht c1 k1 = ht c k + e)
def PA (U : W7) (V : W8) (m : Nat) (op : Int32) : Prop := ∀ (at0 k : Nat) (c : Nat → Nat), at0 ≤ m → k ≤ at0 → WFc c k → ∃ ok at1 k1 c1, RP 1 m at0 k c ok at1 k1 c1 ∧ S7 U at0 k c ok at1 k1 c1 ∧ S8 V op at0 k c ok at1 k1 c1
theorem ht_ag {c c' : Nat → Nat} {k : Nat} (h : ∀ i, i < k → c' i = c i) : ∀ j, j ≤ k → ht c' j = ht c j := by
  intro j
  induction j with
  | zero => intro _; rfl
  | succ j ih =>
    intro hj
    show (if c' j < 20000 then ht c' j + 1 else if c' j = 20033 then ht c' j else ht c' j - 1) = (if c j < 20000 then ht c j + 1 else if c j = 20033 then ht c j else ht c j - 1)
    rw [h j (by omega), ih (by omega)]
def vst (h v : Nat) : Prop := v < 10003 ∨ (v = 20033 ∧ 1 ≤ h) ∨ (20000 ≤ v ∧ v ≠ 20033 ∧ v < 30000 ∧ 2 ≤ h)
theorem up_ag (c : Nat → Nat) (k v : Nat) : ∀ i, i < k → va_up c k v i = c i := fun i hi => by
  unfold va_up
  rw [if_neg (by omega)]
theorem up_at (c : Nat → Nat) (k v : Nat) : va_up c k v k = v := by
  unfold va_up
  rw [if_pos rfl]
theorem WF_push {c : Nat → Nat} {k v : Nat} (h : WFc c k) (w : vst (ht c k) v) : WFc (va_up c k v) (k + 1) ∧ ht (va_up c k v) (k + 1) = if v < 20000 then ht c k + 1 else if v = 20033 then ht c k else ht c k - 1 := by
  have ag := ht_ag (up_ag c k v)
  refine ⟨fun i hi => ?_, ?_⟩
  · rw [ag i (by omega)]
    by_cases e : i = k
    · subst e
      rw [up_at]
      exact w
    · rw [up_ag c k v i (by omega)]
      exact h i (by omega)
  · show (if va_up c k v k < 20000 then ht (va_up c k v) k + 1 else if va_up c k v k = 20033 then ht (va_up c k v) k else ht (va_up c k v) k - 1) = _
    rw [up_at, ag k (Nat.le_refl k)]
theorem arr_push {c : Nat → Nat} {k v : Nat} {nums : Nat → Int32} (h : ∀ i, i < k → nums i = nI (c i)) : ∀ i, i < k + 1 → upd nums k (nI v) i = nI (va_up c k v i) := fun i hi => by
  unfold upd va_up
  by_cases e : i = k
  · rw [if_pos e, if_pos e]
  · rw [if_neg e, if_neg e]; exact h i (by omega)
theorem lay8 {k v : Nat} (hk : k < 60) {code : Nat → Int32} {P : Int32 → (Nat → Int32) → Prop} (p : P (nI (k + 1)) (upd code k (nI v))) : wp_X8_lay (nI v) (-1) (nI k) code P := by
  refine br_f (by decide) ⟨ix hk (by omega), ?_⟩
  rw [nI_clamp (n := k) (by omega), nI_1]
  exact p
theorem lay8F {x : Nat} (hx : x < 2 ^ 31) {v coded : Int32} {code : Nat → Int32} {P : Int32 → (Nat → Int32) → Prop} (p : P coded code) : wp_X8_lay v (nI x) coded code P := br_t (nI_pos' hx) p
theorem wrong8 {at0 : Int32} {P : Int32 → Prop} (p : P at0) : wp_X8_wrong at0 (-1) P := br_f (by decide) p
theorem wrong8F {x : Nat} (hx : x < 2 ^ 31) {at0 : Int32} {P : Int32 → Prop} (p : P (nI x)) : wp_X8_wrong at0 (nI x) P := br_t (nI_pos' hx) p
/-- the loop of a level, both readers -/
theorem loopL {b : Nat → Nat} {m : Nat} {bn dd : Nat → Int32} (hB : BY b m bn dd) {L : Nat} (hL : L ≤ 4) {g : Nat} {op : Nat}
    {G : Nat → Int32 → Int32 → Nat → Int32 → Int32 → Int32 → (Nat → Int32) → (Nat → Int32) → P7 → Prop} {V : W8} {LP : P8 → Nat → Int32 → Int32 → Int32 → Int32 → (Nat → Int32) → Prop}
    (hop : PA (fun a n nums post => G 0 (nI L + (1 : Int32)) (nI op) g a n (nI m) nums bn post) V m (nI op))
    (stopF : ∀ (f : Nat) (a : Int32) (x : Nat) (o n : Int32) (code : Nat → Int32) (post : P8), x < 2 ^ 31 → post a (nI x) o n code → LP post (f + 1) a (nI x) o n code)
    (stop : ∀ (f at0 : Nat) (o n : Int32) (code : Nat → Int32) (post : P8), at0 ≤ m → ¬ lvl (ch b m at0) = nI L → post (nI at0) (-1) o n code → LP post (f + 1) (nI at0) (-1) o n code)
    (go : ∀ (f at0 : Nat) (o n : Int32) (code : Nat → Int32) (post : P8), at0 < m → lvl (ch b m at0) = nI L → V (nI (at0 + 1)) (-1) o n code (fun a' f' o' n' code' => wp_X8_lay (nI (20000 + b at0)) f' n' code' (fun n2 code2 => LP post f a' f' o' n2 code2)) → LP post (f + 1) (nI at0) (-1) o n code) :
    ∀ n at0 k i : Nat, ∀ c : Nat → Nat, m ≤ at0 + n → at0 ≤ m → k ≤ at0 → i < at0 → WFc c k → 1 ≤ ht c k → ∃ ok at1 k1 c1, RP 0 m at0 k c ok at1 k1 c1 ∧
      S7 (fun a n' nums post => wp_X2_readsLevel_b39 G (nI L) (nI op) g (nI m) bn post (n + 1) (50 : Int32) (nI i) a n' nums) at0 k c ok at1 k1 c1 ∧
      S8 (fun a f o n' code post => LP post (n + 1) a f o n' code) (nI op) at0 k c ok at1 k1 c1 := by
  have hm := hB.1
  have nL : ¬ nI L = -1 := fun z => by
    have := congrArg Int32.toInt z
    rw [nI_toInt (by omega), show (-1 : Int32).toInt = -1 from by decide +kernel] at this
    omega
  intro n
  induction n with
  | zero =>
    intro at0 k i c h1 h2 h3 h4 h5 h6
    have q : ¬ lvl (ch b m at0) = nI L := fun z => by
      have := lvl_at z nL
      omega
    refine ⟨true, at0, k, c, ⟨Nat.le_refl _, h2, fun _ => ⟨by omega, by omega, h5, by omega⟩⟩, fun nums post hn p => ?_, fun code post hn p => stop 0 at0 _ _ _ _ h2 q (p _ _ (fun _ => ⟨rfl, hn⟩))⟩
    exact br_f (nI_ge (b := 50) (by omega) (by omega)) (n7 hB h2 (p2_levelOf (br_f q (p _ _ (fun _ => ⟨rfl, hn⟩)))))
  | succ n ih =>
    intro at0 k i c h1 h2 h3 h4 h5 h6
    by_cases q : lvl (ch b m at0) = nI L
    · have w := lvl_at q nL
      have hb := hB.2.1 at0 w
      have qv := q
      rw [ch_t w] at qv
      have val := lvl_val hb qv nL
      obtain ⟨ok1, at1, k1, c1, ⟨r1, r2, r3⟩, u7, u8⟩ := hop (at0 + 1) k c w (by omega) h5
      cases ok1 with
      | false =>
        refine ⟨false, at1, k1, c1, ⟨by omega, r2, fun z => absurd z (by decide)⟩, fun nums post hn p => ?_, fun code post hn p => ?_⟩
        · refine br_f (nI_ge (b := 50) (by omega) (by omega)) (n7 hB h2 (p2_levelOf (br_t q (n7 hB h2 ?_))))
          rw [nI_1 at0]
          exact u7 nums _ hn (fun many' nums' _ => br_t rfl (p many' nums' (fun z => absurd z (by decide))))
        · exact go _ at0 _ _ _ _ w q (u8 code _ hn (fun coded' code' _ => lay8F (by omega) (stopF _ _ _ _ _ _ _ (by omega) (p coded' code' (fun z => absurd z (by decide))))))
      | true =>
        obtain ⟨r4, r5, r6, r7⟩ := r3 rfl
        have vv : vst (ht c1 k1) (20000 + b at0) := .inr (.inr ⟨by omega, by omega, by omega, by omega⟩)
        obtain ⟨p1, p2⟩ := WF_push r6 vv
        rw [if_neg (by omega), if_neg (by omega)] at p2
        obtain ⟨ok2, at2, k2, c2, ⟨s1, s2, s3⟩, v7, v8⟩ := ih at1 (k1 + 1) (i + 1) (va_up c1 k1 (20000 + b at0)) (by omega) r2 (by omega) (by omega) p1 (by omega)
        refine ⟨ok2, at2, k2, c2, ⟨by omega, s2, fun z => ?_⟩, fun nums post hn p => ?_, fun code post hn p => ?_⟩
        · obtain ⟨t1, t2, t3, t4⟩ := s3 z
          exact ⟨by omega, by omega, t3, by omega⟩
        · refine br_f (nI_ge (b := 50) (by omega) (by omega)) (n7 hB h2 (p2_levelOf (br_t q (n7 hB h2 ?_))))
          rw [nI_1 at0, ch_t w, show (20000 : Int32) + nI (b at0) = nI (20000 + b at0) from nI_add 20000 (b at0), nI_1 i]
          refine u7 nums _ hn (fun many' nums' z => br_f (by decide) ?_)
          obtain ⟨z1, z2⟩ := z rfl
          rw [z1]
          exact p3_add (by omega) (by omega) (v7 _ post (arr_push z2) p)
        · refine go _ at0 _ _ _ _ w q (u8 code _ hn (fun coded' code' z => ?_))
          obtain ⟨z1, z2⟩ := z rfl
          rw [z1]
          exact lay8 (by omega) (v8 _ post (arr_push z2) p)
    · refine ⟨true, at0, k, c, ⟨Nat.le_refl _, h2, fun _ => ⟨by omega, by omega, h5, by omega⟩⟩, fun nums post hn p => ?_, fun code post hn p => stop _ at0 _ _ _ _ h2 q (p _ _ (fun _ => ⟨rfl, hn⟩))⟩
      exact br_f (nI_ge (b := 50) (by omega) (by omega)) (n7 hB h2 (p2_levelOf (br_f q (p _ _ (fun _ => ⟨rfl, hn⟩)))))
/-- a level, both readers -/
theorem levelL {b : Nat → Nat} {m : Nat} {bn dd : Nat → Int32} (hB : BY b m bn dd) {L : Nat} (hL : L ≤ 4) (hL2 : L ≠ 2) {g : Nat} {op : Nat} {d7 : Nat} {V W : W8} {LP : P8 → Nat → Int32 → Int32 → Int32 → Int32 → (Nat → Int32) → Prop}
    (hop : PA (fun a n nums post => wpg_X2_readsLevel d7 0 (nI L + (1 : Int32)) (nI op) g a n (nI m) nums bn post) V m (nI op))
    (stopF : ∀ (f : Nat) (a : Int32) (x : Nat) (o n : Int32) (code : Nat → Int32) (post : P8), x < 2 ^ 31 → post a (nI x) o n code → LP post (f + 1) a (nI x) o n code)
    (stop : ∀ (f at0 : Nat) (o n : Int32) (code : Nat → Int32) (post : P8), at0 ≤ m → ¬ lvl (ch b m at0) = nI L → post (nI at0) (-1) o n code → LP post (f + 1) (nI at0) (-1) o n code)
    (go : ∀ (f at0 : Nat) (o n : Int32) (code : Nat → Int32) (post : P8), at0 < m → lvl (ch b m at0) = nI L → V (nI (at0 + 1)) (-1) o n code (fun a' f' o' n' code' => wp_X8_lay (nI (20000 + b at0)) f' n' code' (fun n2 code2 => LP post f a' f' o' n2 code2)) → LP post (f + 1) (nI at0) (-1) o n code)
    (w8 : ∀ (a f o n : Int32) (code : Nat → Int32) (post : P8), V a f o n code (fun a' f' o' n' code' => ∃ k, LP post k a' f' o' n' code') → W a f o n code post) :
    PA (fun a n nums post => wpg_X2_readsLevel (d7 + 1) 0 (nI L) (nI op) g a n (nI m) nums bn post) W m (nI op) := by
  have hm := hB.1
  intro at0 k c h1 h2 h3
  obtain ⟨ok1, at1, k1, c1, ⟨r1, r2, r3⟩, u7, u8⟩ := hop at0 k c h1 h2 h3
  have lt5 : nI L < (5 : Int32) := nI_lt (b := 5) (by omega) (by omega)
  have ne2 : ¬ nI L = (2 : Int32) := fun z => hL2 ((nI_eq (b := 2) (by omega) (by omega)).mp z)
  cases ok1 with
  | false =>
    refine ⟨false, at1, k1, c1, ⟨r1, r2, fun z => absurd z (by decide)⟩, fun nums post hn p => ?_, fun code post hn p => ?_⟩
    · exact gu_X2_readsLevel (br_t lt5 (u7 nums _ hn (fun many' nums' _ => br_t rfl (p many' nums' (fun z => absurd z (by decide))))))
    · exact w8 _ _ _ _ _ _ (u8 code _ hn (fun coded' code' _ => ⟨1, stopF _ _ _ _ _ _ _ (by omega) (p coded' code' (fun z => absurd z (by decide)))⟩))
  | true =>
    obtain ⟨r4, r5, r6, r7⟩ := r3 rfl
    obtain ⟨ok2, at2, k2, c2, ⟨s1, s2, s3⟩, v7, v8⟩ := loopL hB hL (G := wpg_X2_readsLevel d7) hop stopF stop go (m - at1) at1 k1 0 c1 (by omega) r2 (by omega) (by omega) r6 (by omega)
    refine ⟨ok2, at2, k2, c2, ⟨by omega, s2, fun z => ?_⟩, fun nums post hn p => ?_, fun code post hn p => ?_⟩
    · obtain ⟨t1, t2, t3, t4⟩ := s3 z
      exact ⟨by omega, by omega, t3, by omega⟩
    · refine gu_X2_readsLevel (br_t lt5 (u7 nums _ hn (fun many' nums' z => br_f (by decide) (br_f ne2 ⟨m - at1 + 1, ?_⟩))))
      obtain ⟨z1, z2⟩ := z rfl
      rw [z1]
      exact v7 _ post z2 p
    · refine w8 _ _ _ _ _ _ (u8 code _ hn (fun coded' code' z => ⟨m - at1 + 1, ?_⟩))
      obtain ⟨z1, z2⟩ := z rfl
      rw [z1]
      exact v8 _ post z2 p
