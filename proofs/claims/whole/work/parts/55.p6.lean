/-! PURE 6: an hour, the reference's -/
theorem addsub (x y z : Int32) : x + (y - z) = (x - z) + y := by
  rw [Int32.sub_eq_add_neg, Int32.sub_eq_add_neg]
  ac_rfl
theorem p8_heldN {v hi : Nat} (h1 : v < 2 ^ 31) (h2 : hi < 2 ^ 31) {P : Int32 → Prop} (h : P (nI (min v hi))) : wp_X8_held (nI v) (0 : Int32) (nI hi) P := by
  rw [p8_held, if_pos (nI_pos' h1)]
  by_cases q : v ≤ hi
  · rw [if_pos (nI_le q h2)]; rw [Nat.min_eq_left q] at h; exact h
  · rw [if_neg (nI_ge (by omega) h1)]; rw [Nat.min_eq_right (by omega)] at h; exact h
theorem p8_heldS {a b hi : Nat} (h1 : a < 2 ^ 30) (h2 : b < 2 ^ 30) (h3 : hi < 2 ^ 31) {P : Int32 → Prop} (h : P (nI (min (a - b) hi))) : wp_X8_held (nI a - nI b) (0 : Int32) (nI hi) P := by
  by_cases q : b ≤ a
  · rw [pk_sub q]
    exact p8_heldN (by omega) h3 h
  · have e : (nI a - nI b) < 0 := pk_sneg h2 (by omega)
    rw [p8_held, if_neg (Int32.not_le.mpr e)]
    rw [Nat.sub_eq_zero_of_le (by omega), Nat.zero_min] at h
    exact h
theorem i9 {c : Nat} (h : c < 1000) : ((9 : Int32) + nI c).toNatClampNeg = 9 + c := by
  rw [show (9 : Int32) + nI c = nI (9 + c) from nI_add 9 c]; exact nI_clamp (by omega)
theorem i94 {c : Nat} (h : c < 1000) : (((9 : Int32) + nI c) + (4 : Int32)).toNatClampNeg = 9 + (c + 4) := by
  rw [show (9 : Int32) + nI c = nI (9 + c) from nI_add 9 c, show nI (9 + c) + (4 : Int32) = nI (9 + c + 4) from nI_add _ 4]; exact nI_clamp (by omega)
theorem v9 {c : Nat} (h : c < 220) : vp_in ((9 : Int32) + nI c) 229 := by
  rw [show (9 : Int32) + nI c = nI (9 + c) from nI_add 9 c]; exact vp_in_nI (by omega) (by omega)
theorem v94 {c : Nat} (h : c < 216) : vp_in (((9 : Int32) + nI c) + (4 : Int32)) 229 := by
  rw [show (9 : Int32) + nI c = nI (9 + c) from nI_add 9 c, show nI (9 + c) + (4 : Int32) = nI (9 + c + 4) from nI_add _ 4]; exact vp_in_nI (by omega) (by omega)
def GS8 (d : Nat → Int32) (use : Nat) (gg : Nat → Nat → Nat → Nat) : Prop := ∀ d' : Nat → Int32, (∀ i, 57 ≤ i → d' i = d i) → ∀ (a b c : Nat), a ≤ 9999 → b ≤ 9999 → c ≤ 9999 → ∀ (names pile : Nat → Int32) (P : Int32 → (Nat → Int32) → (Nat → Int32) → Prop), (∀ names' pile' : Nat → Int32, P (nI (gg a b c)) names' pile') → wp_X8_textGives (nI use) (nI a) (nI b) (nI c) d' names pile P
theorem s8_heatGoes {D o : Nat} {h : Nat → Nat} {d d0 names pile flows : Nat → Int32} {gg : Nat → Nat → Nat → Nat} {post : (Nat → Int32) → (Nat → Int32) → (Nat → Int32) → (Nat → Int32) → Prop} (hH : ∀ i, i < 16 → d (9 + i) = nI (h i)) (bH : ∀ i, i < 16 → h i ≤ 999) (bD : D < 4096) (bo : o ≤ 20000) (e8 : d 8 = nI D) (e1 : d 1 = nI o) (hd0 : ∀ i, 57 ≤ i → d i = d0 i) (hg : GS8 d0 1 gg) (bg : ∀ a b c, gg a b c ≤ 999)
    (hp : ∀ d' names' pile' flows' : Nat → Int32, (∀ i, i < 16 → d' (9 + i) = nI (hF (hG gg D o h) h i)) → (∀ i, ¬ (9 ≤ i ∧ i < 25) → d' i = d i) → post d' names' pile' flows') : wp_X8_heatGoes d names pile flows post := by
  have k8 : (8 : Int32).toNatClampNeg = 8 := nI_clamp (n := 8) (by omega)
  have k1 : (1 : Int32).toNatClampNeg = 1 := nI_clamp (n := 1) (by omega)
  unfold wp_X8_heatGoes
  refine lpU (σ := (Nat → Int32) × (Nat → Int32) × (Nat → Int32) × (Nat → Int32)) (fun n x s => wp_X8_heatGoes_b2 post n x s.1 s.2.1 s.2.2.1 s.2.2.2) (fun i s => s.1 = d ∧ ∀ j, j < i → s.2.2.2 j = 0) 16 0 (d, names, pile, flows) (by omega) ⟨rfl, fun j hj => by omega⟩ (fun n s hI => ?_) (fun n i s hi hI ih => ?_)
  · obtain ⟨e, hz⟩ := hI
    refine br_t (by decide) ?_
    refine lpU (σ := (Nat → Int32) × (Nat → Int32) × (Nat → Int32) × (Nat → Int32)) (fun n x s => wp_X8_heatGoes_b23 post n x s.1 s.2.1 s.2.2.1 s.2.2.2) (fun i s => s.1 = d ∧ ∀ c, c < 16 → s.2.2.2 c = nI (if 4 ≤ c ∧ c - 4 < i then hG gg D o h (c - 4) else 0) - nI (if c < i then hG gg D o h c else 0)) 12 0 s (by omega) ⟨e, fun c hc => ?_⟩ (fun n s hJ => ?_) (fun n i s hi hJ jh => ?_)
    · rw [if_neg (by omega), if_neg (by omega), hz c hc]; rfl
    · obtain ⟨e, hJ⟩ := hJ
      refine br_t (by decide) ?_
      refine lpU (σ := (Nat → Int32) × (Nat → Int32) × (Nat → Int32) × (Nat → Int32)) (fun n x t => wp_X8_heatGoes_b126 post n x t.1 t.2.1 t.2.2.1 t.2.2.2) (fun i t => t.2.2.2 = s.2.2.2 ∧ (∀ c, c < 16 → t.1 (9 + c) = nI (if c < i then hF (hG gg D o h) h c else h c)) ∧ ∀ i, ¬ (9 ≤ i ∧ i < 25) → t.1 i = d i) 16 0 s (by omega) ⟨rfl, fun c hc => ?_, fun i _ => by rw [e]⟩ (fun n t hK => ?_) (fun n i t hi hK kh => ?_)
      · rw [if_neg (by omega), e]; exact hH c hc
      · obtain ⟨e3, hK, hk2⟩ := hK
        refine br_t (by decide) (hp _ _ _ _ (fun c hc => ?_) hk2)
        rw [hK c hc, if_pos hc]
      · obtain ⟨e3, hK, hk2⟩ := hK
        refine br_f (nI_ge (a := i) (b := 16) (by omega) (by omega)) ⟨v9 (by omega), ix hi (by omega), v9 (by omega), ?_⟩
        rw [i9 (by omega), nI_clamp (n := i) (by omega)]
        have gl := hG_le (gg := gg) (D := D) (o := o) (h := h) i
        have b1 := bH i hi
        refine kh (_, _, _, _) ⟨e3, fun c hc => ?_, fun j hj => ?_⟩
        · show upd t.1 (9 + i) (t.1 (9 + i) + t.2.2.2 i) (9 + c) = _
          unfold upd
          by_cases q : c = i
          · subst q
            rw [if_pos rfl, hK c hc, if_neg (by omega), e3, hJ c hc, if_pos (show c < c + 1 by omega), addsub]
            unfold hF
            by_cases q2 : c < 12
            · rw [if_pos q2, pk_sub (by omega), nI_add]
              congr 2
              by_cases q3 : 4 ≤ c
              · rw [if_pos (show 4 ≤ c ∧ c - 4 < 12 by omega), if_pos q3]
              · rw [if_neg (show ¬ (4 ≤ c ∧ c - 4 < 12) by omega), if_neg q3]
            · rw [if_neg q2, pk_sub (by omega), nI_add]
              congr 2
              rw [if_pos (show 4 ≤ c ∧ c - 4 < 12 by omega), if_pos (by omega)]
          · rw [if_neg (by omega), hK c hc]
            by_cases q2 : c < i
            · rw [if_pos q2, if_pos (by omega)]
            · rw [if_neg q2, if_neg (by omega)]
        · show upd t.1 (9 + i) _ j = _
          unfold upd
          rw [if_neg (by omega)]
          exact hk2 j hj
    · obtain ⟨e, hJ⟩ := hJ
      have c0 : (nI i).toNatClampNeg = i := nI_clamp (by omega)
      have c4 : (nI i + (4 : Int32)).toNatClampNeg = i + 4 := cl4 (by omega)
      have b1 := bH i (by omega)
      have b2 := bH (i + 4) (by omega)
      have keep : hG gg D o h i = 0 → ∀ c, c < 16 → s.2.2.2 c = nI (if 4 ≤ c ∧ c - 4 < i + 1 then hG gg D o h (c - 4) else 0) - nI (if c < i + 1 then hG gg D o h c else 0) := fun g0 c hc => by
        rw [hJ c hc]
        congr 2
        · by_cases q : c - 4 = i ∧ 4 ≤ c
          · rw [if_neg (by omega), if_pos (show 4 ≤ c ∧ c - 4 < i + 1 by omega), q.1, g0]
          · by_cases q2 : 4 ≤ c ∧ c - 4 < i
            · rw [if_pos q2, if_pos (show 4 ≤ c ∧ c - 4 < i + 1 by omega)]
            · rw [if_neg q2, if_neg (show ¬ (4 ≤ c ∧ c - 4 < i + 1) by omega)]
        · by_cases q : c = i
          · rw [if_neg (by omega), if_pos (by omega), q, g0]
          · by_cases q2 : c < i
            · rw [if_pos q2, if_pos (by omega)]
            · rw [if_neg q2, if_neg (by omega)]
      refine br_f (nI_ge (a := i) (b := 12) (by omega) (by omega)) ⟨v9 (by omega), v94 (by omega), ?_⟩
      rw [e, k8, k1, i9 (by omega), i94 (by omega), c0, c4, e8, e1, hH i (by omega), hH (i + 4) (by omega)]
      refine ⟨fun hb => ?_, fun hb => ?_⟩
      · rw [nI_bit1 (by omega) (by omega)] at hb
        refine ⟨fun hle => ?_, fun hgt => ?_⟩
        · rw [nI_sub_le0 (by omega) (by omega)] at hle
          refine jh (_, _, _, _) ⟨rfl, keep ?_⟩
          unfold hG
          rw [if_neg (fun q => by omega)]
        · rw [nI_sub_le0 (by omega) (by omega)] at hgt
          rw [pk_sub (by omega), show nI i / (4 : Int32) = nI (i / 4) from pk_div (d := 4) (by omega) (by omega) (by omega), show vrem (nI o) (24 : Int32) = nI (o % 24) from vrem_nI (b := 24) (by omega) (by omega) (by omega), show nI (h i - h (i + 4)) / (2 : Int32) = nI ((h i - h (i + 4)) / 2) from pk_div (d := 2) (by omega) (by omega) (by omega)]
          have bg' := bg (h i - h (i + 4)) (i / 4) (o % 24)
          refine hg d hd0 _ _ _ (by omega) (by omega) (by omega) _ _ _ (fun names' pile' => p8_heldN (by omega) (by omega) ⟨ix (by omega) (by omega), ix (by omega) (by omega), ix4 (by omega) (by omega), ix4 (by omega) (by omega), ?_⟩)
          have gi : min (gg (h i - h (i + 4)) (i / 4) (o % 24)) ((h i - h (i + 4)) / 2) = hG gg D o h i := by
            unfold hG; rw [if_pos ⟨hb, by omega⟩]
          rw [gi]
          refine jh (_, _, _, _) ⟨rfl, fun c hc => ?_⟩
          show upd (upd s.2.2.2 i (s.2.2.2 i - nI (hG gg D o h i))) (i + 4) ((upd s.2.2.2 i (s.2.2.2 i - nI (hG gg D o h i))) (i + 4) + nI (hG gg D o h i)) c = _
          unfold upd
          by_cases q : c = i + 4
          · subst q
            rw [if_pos rfl, if_neg (show ¬ i + 4 = i by omega), hJ (i + 4) hc, if_neg (show ¬ (4 ≤ i + 4 ∧ i + 4 - 4 < i) by omega), if_neg (show ¬ i + 4 < i by omega), if_pos (show 4 ≤ i + 4 ∧ i + 4 - 4 < i + 1 by omega), if_neg (show ¬ i + 4 < i + 1 by omega), show i + 4 - 4 = i by omega]
            simp [nI_0]
          · rw [if_neg q]
            by_cases q2 : c = i
            · subst q2
              rw [if_pos rfl, hJ c hc, if_neg (show ¬ c < c by omega), if_pos (show c < c + 1 by omega)]
              by_cases q3 : 4 ≤ c ∧ c - 4 < c
              · rw [if_pos q3, if_pos (show 4 ≤ c ∧ c - 4 < c + 1 by omega)]; simp [nI_0]
              · rw [if_neg q3, if_neg (show ¬ (4 ≤ c ∧ c - 4 < c + 1) by omega)]; simp [nI_0]
            · rw [if_neg q2, hJ c hc]
              congr 2
              · by_cases q3 : 4 ≤ c ∧ c - 4 < i
                · rw [if_pos q3, if_pos (show 4 ≤ c ∧ c - 4 < i + 1 by omega)]
                · rw [if_neg q3, if_neg (show ¬ (4 ≤ c ∧ c - 4 < i + 1) by omega)]
              · by_cases q3 : c < i
                · rw [if_pos q3, if_pos (by omega)]
                · rw [if_neg q3, if_neg (by omega)]
      · rw [nI_bit1 (by omega) (by omega)] at hb
        refine jh (_, _, _, _) ⟨rfl, keep ?_⟩
        unfold hG
        rw [if_neg (fun q => hb q.1)]
  · obtain ⟨e, hz⟩ := hI
    refine br_f (nI_ge (a := i) (b := 16) (by omega) (by omega)) ⟨ix hi (by omega), ?_⟩
    rw [nI_clamp (n := i) (by omega)]
    refine ih (s.1, s.2.1, s.2.2.1, upd s.2.2.2 i 0) ⟨e, fun j hj => ?_⟩
    show upd _ i 0 j = 0
    unfold upd
    by_cases q : j = i
    · rw [if_pos q]
    · rw [if_neg q]; exact hz j (by omega)
