/-! PURE 43: reading: the levels one by one -/
abbrev E7 (d : Nat) (L op : Int32) (g m : Nat) (bn : Nat → Int32) : W7 := fun a n nums post => wpg_X2_readsLevel d 0 L op g a n (nI m) nums bn post
abbrev F7 (d : Nat) (op : Int32) (g m : Nat) (bn : Nat → Int32) : W7 := fun a n nums post => wpg_X2_readsLevel d 1 op (0 : Int32) g a n (nI m) nums bn post
abbrev E8 (d w m : Nat) (isG : Int32) (dd : Nat → Int32) : W8 := fun a f o n code post => wpg_X8_either d w (0 : Int32) (179 : Int32) a (nI m) f o isG n dd code post
theorem tk_F {c a mm : Int32} {x : Nat} (hx : x < 2 ^ 31) {dd : Nat → Int32} {P : Int32 → Int32 → Prop} (hc : ¬ (-1 : Int32) = c) (p : P 0 a) : wp_X8_takes c (179 : Int32) a mm (nI x) dd P := by
  unfold wp_X8_takes
  exact h8F hx (br_f hc p)
theorem tk_n {b : Nat → Nat} {m at0 : Nat} {bn dd : Nat → Int32} (hB : BY b m bn dd) (ha : at0 ≤ m) {c : Int32} (hc : ¬ ch b m at0 = c) {P : Int32 → Int32 → Prop} (p : P 0 (nI at0)) : wp_X8_takes c (179 : Int32) (nI at0) (nI m) (-1) dd P := by
  unfold wp_X8_takes
  exact h8 hB ha (br_f hc p)
theorem tk_y {b : Nat → Nat} {m at0 : Nat} {bn dd : Nat → Int32} (hB : BY b m bn dd) (ha : at0 ≤ m) {c : Int32} (hc : ch b m at0 = c) {P : Int32 → Int32 → Prop} (p : P 1 (nI (at0 + 1))) : wp_X8_takes c (179 : Int32) (nI at0) (nI m) (-1) dd P := by
  unfold wp_X8_takes
  refine h8 hB ha (br_t hc ?_)
  rw [nI_1 at0]
  exact p
theorem lv4 {r : Int32} (h : lvl r = nI 4) : r = 42 ∨ r = 47 ∨ r = 37 := by
  rcases lvl_is h (by decide) with h | h | h | h | h | h | h | h | h | h <;> first | exact absurd h.2 (by decide) | exact .inl h.1 | exact .inr (.inl h.1) | exact .inr (.inr h.1)
theorem lv3 {r : Int32} (h : lvl r = nI 3) : r = 43 ∨ r = 45 := by
  rcases lvl_is h (by decide) with h | h | h | h | h | h | h | h | h | h <;> first | exact absurd h.2 (by decide) | exact .inl h.1 | exact .inr h.1
theorem lv2 {r : Int32} (h : lvl r = nI 2) : r = 60 ∨ r = 61 ∨ r = 62 := by
  rcases lvl_is h (by decide) with h | h | h | h | h | h | h | h | h | h <;> first | exact absurd h.2 (by decide) | exact .inl h.1 | exact .inr (.inl h.1) | exact .inr (.inr h.1)
theorem lv1 {r : Int32} (h : lvl r = nI 1) : r = 38 := by
  rcases lvl_is h (by decide) with h | h | h | h | h | h | h | h | h | h <;> first | exact absurd h.2 (by decide) | exact h.1
theorem lv0 {r : Int32} (h : lvl r = nI 0) : r = 124 := by
  rcases lvl_is h (by decide) with h | h | h | h | h | h | h | h | h | h <;> first | exact absurd h.2 (by decide) | exact h.1
theorem lvn {r : Int32} {c : Int32} {L : Int32} (h : ¬ lvl r = L) (hc : lvl c = L) : ¬ r = c := fun z => h (by rw [z]; exact hc)
theorem lev4 {b : Nat → Nat} {m : Nat} {bn dd : Nat → Int32} (hB : BY b m bn dd) {g op d7 d8 : Nat} {isG : Int32} (hop : PA (E7 d7 (nI 5) (nI op) g m bn) (E8 d8 6 m isG dd) m (nI op)) : PA (E7 (d7 + 1) (nI 4) (nI op) g m bn) (E8 (d8 + 1) 4 m isG dd) m (nI op) := by
  refine levelL hB (L := 4) (by omega) (by omega) (LP := fun post f a fl o n code => wp_X8_product_b4 (wpg_X8_either d8) (179 : Int32) (nI m) isG dd post f a fl o n code) hop (fun f a x o n code post hx p => ?_) (fun f at0 o n code post ha q p => ?_) (fun f at0 o n code post w q p => ?_) (fun a f o n code post p => gu_X8_product p)
  · exact h8F hx (br_f (by decide) (h8F hx (br_f (by decide) (h8F hx (br_f (by decide) p)))))
  · exact h8 hB ha (br_f (lvn q (by decide +kernel)) (h8 hB ha (br_f (lvn q (by decide +kernel)) (h8 hB ha (br_f (lvn q (by decide +kernel)) p)))))
  · have ha := Nat.le_of_lt w
    have b31 : wp_X8_product_b31 (wpg_X8_either d8) (179 : Int32) (nI m) isG dd (fun a f' o n code => wp_X8_product_b4 (wpg_X8_either d8) (179 : Int32) (nI m) isG dd post f a f' o n code) post (nI at0) (-1) o n code := by
      unfold wp_X8_product_b31
      refine h8 hB ha ?_
      rw [nI_1, ch_t w, show (20000 : Int32) + nI (b at0) = nI (20000 + b at0) from nI_add 20000 (b at0)]
      exact p
    rcases lv4 q with e | e | e
    · exact h8 hB ha (br_t e b31)
    · exact h8 hB ha (br_f (by rw [e]; decide) (h8 hB ha (br_t e b31)))
    · exact h8 hB ha (br_f (by rw [e]; decide) (h8 hB ha (br_f (by rw [e]; decide) (h8 hB ha (br_t e b31)))))
theorem lev3 {b : Nat → Nat} {m : Nat} {bn dd : Nat → Int32} (hB : BY b m bn dd) {g op d7 d8 : Nat} {isG : Int32} (hop : PA (E7 d7 (nI 4) (nI op) g m bn) (E8 d8 4 m isG dd) m (nI op)) : PA (E7 (d7 + 1) (nI 3) (nI op) g m bn) (E8 (d8 + 1) 3 m isG dd) m (nI op) := by
  refine levelL hB (L := 3) (by omega) (by omega) (LP := fun post f a fl o n code => wp_X8_sum_b4 (wpg_X8_either d8) (179 : Int32) (nI m) isG dd post f a fl o n code) hop (fun f a x o n code post hx p => ?_) (fun f at0 o n code post ha q p => ?_) (fun f at0 o n code post w q p => ?_) (fun a f o n code post p => gu_X8_sum p)
  · exact h8F hx (br_f (by decide) (h8F hx (br_f (by decide) p)))
  · exact h8 hB ha (br_f (lvn q (by decide +kernel)) (h8 hB ha (br_f (lvn q (by decide +kernel)) p)))
  · have ha := Nat.le_of_lt w
    rcases lv3 q with e | e
    · refine h8 hB ha (br_t e (h8 hB ha ?_))
      rw [nI_1, ch_t w, show (20000 : Int32) + nI (b at0) = nI (20000 + b at0) from nI_add 20000 (b at0)]
      exact p
    · refine h8 hB ha (br_f (by rw [e]; decide) (h8 hB ha (br_t e (h8 hB ha ?_))))
      rw [nI_1, ch_t w, show (20000 : Int32) + nI (b at0) = nI (20000 + b at0) from nI_add 20000 (b at0)]
      exact p
theorem lev1 {b : Nat → Nat} {m : Nat} {bn dd : Nat → Int32} (hB : BY b m bn dd) {g op d7 d8 : Nat} {isG : Int32} (hop : PA (E7 d7 (nI 2) (nI op) g m bn) (E8 d8 2 m isG dd) m (nI op)) : PA (E7 (d7 + 1) (nI 1) (nI op) g m bn) (E8 (d8 + 1) 1 m isG dd) m (nI op) := by
  refine levelL hB (L := 1) (by omega) (by omega) (LP := fun post f a fl o n code => wp_X8_both_b4 (wpg_X8_either d8) (179 : Int32) (nI m) isG dd post f a fl o n code) hop (fun f a x o n code post hx p => ?_) (fun f at0 o n code post ha q p => ?_) (fun f at0 o n code post w q p => ?_) (fun a f o n code post p => gu_X8_both p)
  · exact tk_F hx (by decide) (br_t rfl p)
  · exact tk_n hB ha (lvn q (by decide +kernel)) (br_t rfl p)
  · have ha := Nat.le_of_lt w
    have e := lv1 q
    have hb := hB.2.1 at0 w
    have eb : b at0 = 38 := (nI_eq (b := 38) (by omega) (by omega)).mp ((ch_t w).symm.trans e)
    rw [eb] at p
    exact tk_y hB ha e (br_f (by decide) p)
theorem lev0 {b : Nat → Nat} {m : Nat} {bn dd : Nat → Int32} (hB : BY b m bn dd) {g op d7 d8 : Nat} {isG : Int32} (hop : PA (E7 d7 (nI 1) (nI op) g m bn) (E8 d8 1 m isG dd) m (nI op)) : PA (E7 (d7 + 1) (nI 0) (nI op) g m bn) (E8 (d8 + 1) 0 m isG dd) m (nI op) := by
  refine levelL hB (L := 0) (by omega) (by omega) (LP := fun post f a fl o n code => wp_X8_either_b4 (wpg_X8_either d8) (179 : Int32) (nI m) isG dd post f a fl o n code) hop (fun f a x o n code post hx p => ?_) (fun f at0 o n code post ha q p => ?_) (fun f at0 o n code post w q p => ?_) (fun a f o n code post p => gu_X8_either p)
  · exact tk_F hx (by decide) (br_t rfl p)
  · exact tk_n hB ha (lvn q (by decide +kernel)) (br_t rfl p)
  · have ha := Nat.le_of_lt w
    have e := lv0 q
    have hb := hB.2.1 at0 w
    have eb : b at0 = 124 := (nI_eq (b := 124) (by omega) (by omega)).mp ((ch_t w).symm.trans e)
    rw [eb] at p
    exact tk_y hB ha e (br_f (by decide) p)
theorem lev2 {b : Nat → Nat} {m : Nat} {bn dd : Nat → Int32} (hB : BY b m bn dd) {g op d7 d8 : Nat} {isG : Int32} (hop : PA (E7 d7 (nI 3) (nI op) g m bn) (E8 d8 3 m isG dd) m (nI op)) : PA (E7 (d7 + 1) (nI 2) (nI op) g m bn) (E8 (d8 + 1) 2 m isG dd) m (nI op) := by
  have hm := hB.1
  have hop' : PA (fun a n nums post => wpg_X2_readsLevel d7 0 (nI 2 + (1 : Int32)) (nI op) g a n (nI m) nums bn post) (E8 d8 3 m isG dd) m (nI op) := hop
  intro at0 k c h1 h2 h3
  obtain ⟨ok1, at1, k1, c1, ⟨r1, r2, r3⟩, u7, u8⟩ := hop' at0 k c h1 h2 h3
  cases ok1 with
  | false =>
    refine ⟨false, at1, k1, c1, ⟨r1, r2, fun z => absurd z (by decide)⟩, fun nums post hn p => ?_, fun code post hn p => ?_⟩
    · exact gu_X2_readsLevel (br_t (by decide) (u7 nums _ hn (fun many' nums' _ => br_t rfl (p many' nums' (fun z => absurd z (by decide))))))
    · exact gu_X8_compared (u8 code _ hn (fun coded' code' _ => h8F (x := at1) (by omega) (br_f (by decide) (br_f (by decide) (br_f (by decide) (p coded' code' (fun z => absurd z (by decide))))))))
  | true =>
    obtain ⟨r4, r5, r6, r7⟩ := r3 rfl
    by_cases q : lvl (ch b m at1) = nI 2
    · have w := lvl_at q (by decide)
      have hb := hB.2.1 at1 w
      have qv := q
      rw [ch_t w] at qv
      have val := lvl_val hb qv (by decide)
      obtain ⟨ok2, at2, k2, c2, ⟨s1, s2, s3⟩, v7, v8⟩ := hop' (at1 + 1) k1 c1 w (by omega) r6
      cases ok2 with
      | false =>
        refine ⟨false, at2, k2, c2, ⟨by omega, s2, fun z => absurd z (by decide)⟩, fun nums post hn p => ?_, fun code post hn p => ?_⟩
        · refine gu_X2_readsLevel (br_t (by decide) (u7 nums _ hn (fun many' nums' z => br_f (by decide) (br_t rfl ⟨2, ?_⟩))))
          obtain ⟨z1, z2⟩ := z rfl
          rw [z1]
          refine br_f (by decide) (n7 hB r2 (p2_levelOf (br_t q (n7 hB r2 ?_))))
          rw [nI_1 at1]
          exact v7 nums' _ z2 (fun many2 nums2 _ => br_t rfl (p many2 nums2 (fun z => absurd z (by decide))))
        · refine gu_X8_compared (u8 code _ hn (fun coded' code' z => ?_))
          obtain ⟨z1, z2⟩ := z rfl
          rw [z1]
          have fin : ∀ x : Int32, wpg_X8_either d8 3 (0 : Int32) (179 : Int32) (nI at1 + 1) (nI m) (-1) (nI op) isG (nI k1) dd code' (fun a' f' o' n' co' => wp_X8_lay x f' n' co' (fun n2 co2 => post a' f' o' n2 co2)) := fun x => by
            rw [nI_1]
            exact v8 code' _ z2 (fun n2 co2 _ => lay8F (x := at2) (by omega) (p n2 co2 (fun z => absurd z (by decide))))
          refine h8 hB r2 ?_
          rcases lv2 q with e | e | e
          · exact br_t e (fin _)
          · exact br_f (by rw [e]; decide) (br_t e (fin _))
          · exact br_f (by rw [e]; decide) (br_f (by rw [e]; decide) (br_t e (fin _)))
      | true =>
        obtain ⟨t1, t2, t3, t4⟩ := s3 rfl
        have vv : vst (ht c2 k2) (20000 + b at1) := .inr (.inr ⟨by omega, by omega, by omega, by omega⟩)
        obtain ⟨p1, p2⟩ := WF_push t3 vv
        rw [if_neg (by omega), if_neg (by omega)] at p2
        refine ⟨true, at2, k2 + 1, va_up c2 k2 (20000 + b at1), ⟨by omega, s2, fun _ => ⟨by omega, by omega, p1, by omega⟩⟩, fun nums post hn p => ?_, fun code post hn p => ?_⟩
        · refine gu_X2_readsLevel (br_t (by decide) (u7 nums _ hn (fun many' nums' z => br_f (by decide) (br_t rfl ⟨2, ?_⟩))))
          obtain ⟨z1, z2⟩ := z rfl
          rw [z1]
          refine br_f (by decide) (n7 hB r2 (p2_levelOf (br_t q (n7 hB r2 ?_))))
          rw [nI_1 at1, ch_t w, show (20000 : Int32) + nI (b at1) = nI (20000 + b at1) from nI_add 20000 (b at1)]
          refine v7 nums' _ z2 (fun many2 nums2 y => br_f (by decide) ?_)
          obtain ⟨y1, y2⟩ := y rfl
          rw [y1]
          exact p3_add (by omega) (by omega) (br_t (by decide) (p _ _ (fun _ => ⟨rfl, arr_push y2⟩)))
        · refine gu_X8_compared (u8 code _ hn (fun coded' code' z => ?_))
          obtain ⟨z1, z2⟩ := z rfl
          rw [z1]
          have fin : ∀ x : Int32, x = nI (20000 + b at1) → wpg_X8_either d8 3 (0 : Int32) (179 : Int32) (nI at1 + 1) (nI m) (-1) (nI op) isG (nI k1) dd code' (fun a' f' o' n' co' => wp_X8_lay x f' n' co' (fun n2 co2 => post a' f' o' n2 co2)) := fun x ex => by
            rw [nI_1, ex]
            refine v8 code' _ z2 (fun n2 co2 y => ?_)
            obtain ⟨y1, y2⟩ := y rfl
            rw [y1]
            exact lay8 (by omega) (p _ _ (fun _ => ⟨rfl, arr_push y2⟩))
          have ex : (20000 : Int32) + ch b m at1 = nI (20000 + b at1) := by rw [ch_t w]; exact nI_add 20000 (b at1)
          refine h8 hB r2 ?_
          rcases lv2 q with e | e | e
          · exact br_t e (fin _ ex)
          · exact br_f (by rw [e]; decide) (br_t e (fin _ ex))
          · exact br_f (by rw [e]; decide) (br_f (by rw [e]; decide) (br_t e (fin _ ex)))
    · refine ⟨true, at1, k1, c1, ⟨by omega, r2, fun _ => ⟨r4, r5, r6, r7⟩⟩, fun nums post hn p => ?_, fun code post hn p => ?_⟩
      · refine gu_X2_readsLevel (br_t (by decide) (u7 nums _ hn (fun many' nums' z => br_f (by decide) (br_t rfl ⟨2, ?_⟩))))
        exact br_f (by decide) (n7 hB r2 (p2_levelOf (br_f q (p many' nums' z))))
      · exact gu_X8_compared (u8 code _ hn (fun coded' code' z => h8 hB r2 (br_f (lvn q (by decide +kernel)) (br_f (lvn q (by decide +kernel)) (br_f (lvn q (by decide +kernel)) (p coded' code' z))))))
