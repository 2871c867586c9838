/-! PURE 44: reading: what stands alone; the whole of it -/
abbrev B7 (x2 op : Int32) (e g m : Nat) (bn : Nat → Int32) : W7 := fun a n nums post => wp_X2_readsPart_b41 (wpg_X2_readsLevel e) op g (nI m) bn post x2 a n nums
abbrev O8 (x2 : Int32) (e m : Nat) (isG : Int32) (dd : Nat → Int32) : W8 := fun a f o n code post => wpg_X8_either e 5 x2 (179 : Int32) a (nI m) f o isG n dd code post
theorem nmc_ge {g x : Nat} (hx : x < 3) : 100 ≤ nmc g x ∧ nmc g x ≤ 119 := by
  unfold nmc
  split
  · split
    · omega
    · split <;> omega
  · split
    · omega
    · split <;> omega
theorem leafL {b : Nat → Nat} {m : Nat} {bn dd : Nat → Int32} (hB : BY b m bn dd) {u op e7 e8 : Nat} (hu : u ≤ 1)
    (hx : ∀ x2 : Int32, x2 = 33 ∨ x2 = 40 → ∀ (at0 k : Nat) (c : Nat → Nat), at0 < m → k ≤ at0 → WFc c k → ∃ ok at1 k1 c1, RP 1 m at0 k c ok at1 k1 c1 ∧ S7 (B7 x2 (nI op) e7 (u + 1) m bn) at0 k c ok at1 k1 c1 ∧ S8 (O8 x2 e8 m (nI u) dd) (nI op) at0 k c ok at1 k1 c1) :
    PA (F7 (e7 + 1) (nI op) (u + 1) m bn) (E8 (e8 + 1) 6 m (nI u) dd) m (nI op) := by
  have hm := hB.1
  have hg : u + 1 = 1 ∨ u + 1 = 2 := by omega
  intro at0 k c h1 h2 h3
  by_cases g33 : ch b m at0 = 33
  · have w : at0 < m := Nat.not_le.mp (fun w => by rw [ch_f (by omega)] at g33; exact absurd g33 (by decide))
    obtain ⟨ok, at1, k1, c1, r, u7, u8⟩ := hx 33 (.inl rfl) at0 k c w h2 h3
    refine ⟨ok, at1, k1, c1, r, fun nums post hn p => ?_, fun code post hn p => ?_⟩
    · refine gu_X2_readsPart (n7 hB h1 ?_)
      rw [g33]
      exact br_t (by decide) (br_t rfl (u7 nums post hn p))
    · refine gu_X8_unit (h8 hB h1 ?_)
      rw [g33]
      exact br_t rfl (u8 code post hn p)
  by_cases g40 : ch b m at0 = 40
  · have w : at0 < m := Nat.not_le.mp (fun w => by rw [ch_f (by omega)] at g40; exact absurd g40 (by decide))
    obtain ⟨ok, at1, k1, c1, r, u7, u8⟩ := hx 40 (.inr rfl) at0 k c w h2 h3
    refine ⟨ok, at1, k1, c1, r, fun nums post hn p => ?_, fun code post hn p => ?_⟩
    · refine gu_X2_readsPart (n7 hB h1 ?_)
      rw [g40]
      exact br_t (by decide) (br_f (by decide) (br_t rfl (u7 nums post hn p)))
    · refine gu_X8_unit (h8 hB h1 ?_)
      rw [g40]
      exact br_f (by decide) (br_t rfl (u8 code post hn p))
  by_cases gd : dig (ch b m at0)
  · have w := dig_at gd
    have hb := hB.2.1 at0 w
    have gd' := gd
    rw [ch_t w] at gd'
    have g5 := (dig_n hb).mp gd'
    obtain ⟨at1, v', q1, q2, q3, q4, q5⟩ := numL hB 3 1 (b at0 - 48) (at0 + 1) rfl (Nat.le_refl 1) (by omega) w
    have vv : vst (ht c k) v' := by
      by_cases z : v' < 10003
      · exact .inl z
      · omega
    obtain ⟨p1, p2⟩ := WF_push h3 vv
    rw [if_pos (by omega)] at p2
    have e48 : nI (b at0) - (48 : Int32) = nI (b at0 - 48) := pk_sub (b := 48) g5.1
    refine ⟨true, at1, k + 1, va_up c k v', ⟨by omega, q2, fun _ => ⟨by omega, by omega, p1, p2⟩⟩, fun nums post hn p => ?_, fun code post hn p => ?_⟩
    · refine gu_X2_readsPart (n7 hB h1 (br_f gd.1 (br_f gd.2 ⟨5, ?_⟩)))
      refine br_f (by decide) (n7 hB h1 (br_f gd.1 (n7 hB h1 (br_f gd.2 (n7 hB h1 ?_)))))
      rw [ch_t w, show ((0 : Int32) * (10 : Int32)) + nI (b at0) = nI (b at0) from by rw [show ((0 : Int32) * (10 : Int32)) = nI 0 from by decide +kernel, nI_add, Nat.zero_add], e48, nI_1 at0, show (0 : Int32) + (1 : Int32) = nI 1 from by decide +kernel]
      exact q4 (nI k) nums _ (p3_add (by omega) (by omega) (p _ _ (fun _ => ⟨rfl, arr_push hn⟩)))
    · have nn : ∀ y, y < 3 → ¬ nI (nmc (u + 1) y) = ch b m at0 := fun y hy z => by
        have := nmc_ge (g := u + 1) hy
        rw [ch_t w] at z
        have := (nI_eq (by omega) (by omega)).mp z
        omega
      refine gu_X8_unit (h8 hB h1 (br_f g33 (br_f g40 (nm8_f hu nn (br_t (by decide) ⟨5, ?_⟩)))))
      refine br_f (by decide) (h8 hB h1 (w8t 48 57 ⟨Int32.not_lt.mp gd.1, Int32.not_lt.mp gd.2⟩ (yes (h8 hB h1 ?_))))
      rw [ch_t w, show ((10 : Int32) * (0 : Int32)) + nI (b at0) = nI (b at0) from by rw [show ((10 : Int32) * (0 : Int32)) = nI 0 from by decide +kernel, nI_add, Nat.zero_add], e48, nI_1 at0, show (0 : Int32) + (1 : Int32) = nI 1 from by decide +kernel]
      exact q5 (nI op) (nI k) code post (lay8 (by omega) (p _ _ (fun _ => ⟨rfl, arr_push hn⟩)))
  rcases nmR_or (g := u + 1) (ch b m at0) with ⟨x, hr⟩ | hf
  · have w : at0 < m := Nat.not_le.mp (fun w => by
      have h := hr.2.1
      rw [ch_f (by omega)] at h
      have ge := nmc_ge (g := u + 1) hr.1
      have := congrArg Int32.toInt h
      rw [nI_toInt (by omega), show (-1 : Int32).toInt = -1 from by decide +kernel] at this
      omega)
    have x3 := hr.1
    have vv : vst (ht c k) (10000 + x) := .inl (by omega)
    obtain ⟨p1, p2⟩ := WF_push h3 vv
    rw [if_pos (by omega)] at p2
    refine ⟨true, at0 + 1, k + 1, va_up c k (10000 + x), ⟨by omega, w, fun _ => ⟨by omega, by omega, p1, p2⟩⟩, fun nums post hn p => ?_, fun code post hn p => ?_⟩
    · have fin : wp_X2_readsName (ch b m at0) (u + 1) (nI at0) (nI k) nums (fun r a n nums => post r a n nums) := by
        refine nm7_t hg hr ?_
        rw [nI_1 at0]
        exact p3_add (by omega) (by omega) (p _ _ (fun _ => ⟨rfl, arr_push hn⟩))
      exact gu_X2_readsPart (n7 hB h1 ⟨fun _ => br_f g33 (br_f g40 fin), fun z => ⟨fun _ => br_f g33 (br_f g40 fin), fun z' => absurd ⟨z, z'⟩ gd⟩⟩)
    · refine gu_X8_unit (h8 hB h1 (br_f g33 (br_f g40 (nm8_t hu hr (br_f (nI_pos (by omega)) ?_)))))
      rw [show (10000 : Int32) + nI x = nI (10000 + x) from nI_add 10000 x, nI_1 at0]
      exact lay8 (by omega) (p _ _ (fun _ => ⟨rfl, arr_push hn⟩))
  · refine ⟨false, at0, k, c, ⟨Nat.le_refl _, h1, fun z => absurd z (by decide)⟩, fun nums post hn p => ?_, fun code post hn p => ?_⟩
    · have fin : wp_X2_readsName (ch b m at0) (u + 1) (nI at0) (nI k) nums (fun r a n nums => post r a n nums) := nm7_f hg hf (p _ _ (fun z => absurd z (by decide)))
      exact gu_X2_readsPart (n7 hB h1 ⟨fun _ => br_f g33 (br_f g40 fin), fun z => ⟨fun _ => br_f g33 (br_f g40 fin), fun z' => absurd ⟨z, z'⟩ gd⟩⟩)
    · refine gu_X8_unit (h8 hB h1 (br_f g33 (br_f g40 (nm8_f hu hf (br_t (by decide) ⟨1, ?_⟩)))))
      exact br_f (by decide) (h8 hB h1 (w8f 48 57 (fun z => gd ⟨Int32.not_lt.mpr z.1, Int32.not_lt.mpr z.2⟩) (no (br_t rfl (wrong8 (lay8F (x := at0) (by omega) (p _ _ (fun z => absurd z (by decide)))))))))
theorem levelsL {b : Nat → Nat} {m : Nat} {bn dd : Nat → Int32} (hB : BY b m bn dd) {g op x y : Nat} {isG : Int32} (h : PA (F7 x (nI op) g m bn) (E8 y 6 m isG dd) m (nI op)) : PA (E7 (x + 1 + 1 + 1 + 1 + 1 + 1) (nI 0) (nI op) g m bn) (E8 (y + 1 + 1 + 1 + 1 + 1) 0 m isG dd) m (nI op) := by
  refine lev0 hB (lev1 hB (lev2 hB (lev3 hB (lev4 hB ?_))))
  intro at0 k c h1 h2 h3
  obtain ⟨ok, at1, k1, c1, r, u7, u8⟩ := h at0 k c h1 h2 h3
  exact ⟨ok, at1, k1, c1, r, fun nums post hn p => gu_X2_readsLevel (br_f (by decide) (u7 nums post hn p)), u8⟩
theorem partL {b : Nat → Nat} {m : Nat} {bn dd : Nat → Int32} (hB : BY b m bn dd) {u : Nat} (hu : u ≤ 1) : ∀ j op : Nat, op + j = 5 → ∀ D7 D8 : Nat, 7 * j + 1 ≤ D7 → 7 * j + 2 ≤ D8 → PA (F7 D7 (nI op) (u + 1) m bn) (E8 D8 6 m (nI u) dd) m (nI op) := by
  have hm := hB.1
  intro j
  induction j with
  | zero =>
    intro op ho D7 D8 h7 h8'
    obtain ⟨e7, rfl⟩ : ∃ e, D7 = e + 1 := ⟨D7 - 1, by omega⟩
    obtain ⟨e8, rfl⟩ : ∃ e, D8 = e + 1 + 1 := ⟨D8 - 2, by omega⟩
    have e5 : op = 5 := by omega
    subst e5
    refine leafL hB hu (fun x2 _ at0 k c w h2 h3 => ⟨false, at0, k, c, ⟨Nat.le_refl _, by omega, fun z => absurd z (by decide)⟩, fun nums post hn p => ?_, fun code post hn p => ?_⟩)
    · exact br_f (by decide) (p _ _ (fun z => absurd z (by decide)))
    · exact gu_X8_opens (br_t rfl (wrong8 (p _ _ (fun z => absurd z (by decide)))))
  | succ j ih =>
    intro op ho D7 D8 h7 h8'
    obtain ⟨e7, rfl⟩ : ∃ e, D7 = e + 1 + 1 + 1 + 1 + 1 + 1 + 1 := ⟨D7 - 7, by omega⟩
    obtain ⟨e8, rfl⟩ : ∃ e, D8 = e + 1 + 1 + 1 + 1 + 1 + 1 + 1 := ⟨D8 - 7, by omega⟩
    have iP := ih (op + 1) (by omega) (e7 + 1 + 1 + 1 + 1 + 1 + 1) (e8 + 1 + 1 + 1 + 1 + 1) (by omega) (by omega)
    have iL := levelsL hB (ih (op + 1) (by omega) e7 e8 (by omega) (by omega))
    have lt5 : nI op < (5 : Int32) := nI_lt (b := 5) (by omega) (by omega)
    have ne5 : ¬ nI op = (5 : Int32) := fun z => by
      have := (nI_eq (b := 5) (by omega) (by omega)).mp z
      omega
    have em : nI (op + 1) - (1 : Int32) = nI op := pk_sub (b := 1) (by omega)
    refine leafL hB hu (fun x2 hx2 at0 k c w h2 h3 => ?_)
    rcases hx2 with rfl | rfl
    · obtain ⟨ok, at1, k1, c1, ⟨r1, r2, r3⟩, u7, u8⟩ := iP (at0 + 1) k c w (by omega) h3
      cases ok with
      | false =>
        refine ⟨false, at1, k1, c1, ⟨by omega, r2, fun z => absurd z (by decide)⟩, fun nums post hn p => ?_, fun code post hn p => ?_⟩
        · refine br_t lt5 (br_t rfl ?_)
          rw [nI_1 op, nI_1 at0]
          exact u7 nums _ hn (fun many' nums' _ => br_t rfl (p many' nums' (fun z => absurd z (by decide))))
        · refine gu_X8_opens (br_f ne5 (br_t rfl ?_))
          rw [nI_1 op, nI_1 at0]
          refine u8 code _ hn (fun coded' code' _ => lay8F (x := at1) (by omega) ?_)
          rw [em]
          exact p coded' code' (fun z => absurd z (by decide))
      | true =>
        obtain ⟨r4, r5, r6, r7⟩ := r3 rfl
        have vv : vst (ht c1 k1) 20033 := .inr (.inl ⟨rfl, by omega⟩)
        obtain ⟨p1, p2⟩ := WF_push r6 vv
        rw [if_neg (by omega), if_pos rfl] at p2
        refine ⟨true, at1, k1 + 1, va_up c1 k1 20033, ⟨by omega, r2, fun _ => ⟨by omega, by omega, p1, by omega⟩⟩, fun nums post hn p => ?_, fun code post hn p => ?_⟩
        · refine br_t lt5 (br_t rfl ?_)
          rw [nI_1 op, nI_1 at0]
          refine u7 nums _ hn (fun many' nums' z => br_f (by decide) ?_)
          obtain ⟨z1, z2⟩ := z rfl
          rw [z1]
          exact p3_add (by omega) (by omega) (br_f (by decide) (p _ _ (fun _ => ⟨rfl, arr_push z2⟩)))
        · refine gu_X8_opens (br_f ne5 (br_t rfl ?_))
          rw [nI_1 op, nI_1 at0]
          refine u8 code _ hn (fun coded' code' z => ?_)
          obtain ⟨z1, z2⟩ := z rfl
          rw [z1]
          refine lay8 (v := 20033) (by omega) ?_
          rw [em]
          exact p _ _ (fun _ => ⟨rfl, arr_push z2⟩)
    · obtain ⟨ok, at1, k1, c1, ⟨r1, r2, r3⟩, u7, u8⟩ := iL (at0 + 1) k c w (by omega) h3
      cases ok with
      | false =>
        refine ⟨false, at1, k1, c1, ⟨by omega, r2, fun z => absurd z (by decide)⟩, fun nums post hn p => ?_, fun code post hn p => ?_⟩
        · refine br_t lt5 (br_f (by decide) ?_)
          rw [nI_1 op, nI_1 at0]
          exact u7 nums _ hn (fun many' nums' _ => br_t rfl (p many' nums' (fun z => absurd z (by decide))))
        · refine gu_X8_opens (br_f ne5 (br_f (by decide) ?_))
          rw [nI_1 op, nI_1 at0]
          refine u8 code _ hn (fun coded' code' _ => tk_F (x := at1) (by omega) (by decide) (br_t rfl (wrong8F (x := at1) (by omega) ?_)))
          rw [em]
          exact p coded' code' (fun z => absurd z (by decide))
      | true =>
        obtain ⟨r4, r5, r6, r7⟩ := r3 rfl
        by_cases g : ch b m at1 = 41
        · have w' : at1 < m := Nat.not_le.mp (fun w => by rw [ch_f (by omega)] at g; exact absurd g (by decide))
          refine ⟨true, at1 + 1, k1, c1, ⟨by omega, w', fun _ => ⟨by omega, by omega, r6, r7⟩⟩, fun nums post hn p => ?_, fun code post hn p => ?_⟩
          · refine br_t lt5 (br_f (by decide) ?_)
            rw [nI_1 op, nI_1 at0]
            refine u7 nums _ hn (fun many' nums' z => br_f (by decide) (n7 hB r2 (br_t g ?_)))
            rw [nI_1 at1]
            exact p many' nums' z
          · refine gu_X8_opens (br_f ne5 (br_f (by decide) ?_))
            rw [nI_1 op, nI_1 at0]
            refine u8 code _ hn (fun coded' code' z => tk_y hB r2 g (br_f (by decide) ?_))
            rw [em]
            exact p coded' code' z
        · refine ⟨false, at1, k1, c1, ⟨by omega, r2, fun z => absurd z (by decide)⟩, fun nums post hn p => ?_, fun code post hn p => ?_⟩
          · refine br_t lt5 (br_f (by decide) ?_)
            rw [nI_1 op, nI_1 at0]
            exact u7 nums _ hn (fun many' nums' z => br_f (by decide) (n7 hB r2 (br_f g (p many' nums' (fun z => absurd z (by decide))))))
          · refine gu_X8_opens (br_f ne5 (br_f (by decide) ?_))
            rw [nI_1 op, nI_1 at0]
            refine u8 code _ hn (fun coded' code' z => tk_n hB r2 g (br_t rfl (wrong8 ?_)))
            rw [em]
            exact p coded' code' (fun z => absurd z (by decide))
/-- a text, read by both -/
theorem readL {b : Nat → Nat} {m : Nat} {bn dd : Nat → Int32} (hB : BY b m bn dd) {u : Nat} (hu : u ≤ 1) : ∃ ok at1 k1 c1, RP 1 m 0 0 (fun _ => 0) ok at1 k1 c1 ∧ S7 (E7 45 (nI 0) (nI 0) (u + 1) m bn) 0 0 (fun _ => 0) ok at1 k1 c1 ∧ S8 (E8 45 0 m (nI u) dd) (nI 0) 0 0 (fun _ => 0) ok at1 k1 c1 :=
  levelsL hB (x := 39) (y := 40) (partL hB hu 5 0 rfl 39 40 (by omega) (by omega)) 0 0 (fun _ => 0) (Nat.zero_le _) (Nat.le_refl _) (fun i hi => absurd hi (Nat.not_lt_zero _))
