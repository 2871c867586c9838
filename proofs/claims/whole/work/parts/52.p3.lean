/-! PURE 3: an hour, in numbers; the class's -/
def hB (fed : Nat) (h : Nat → Nat) (c : Nat) : Nat := if c < 4 then min (h c + fed) 999 else h c
def hG (gg : Nat → Nat → Nat → Nat) (D o : Nat) (h : Nat → Nat) (c : Nat) : Nat := if D.testBit c = true ∧ h (c + 4) < h c then min (gg (h c - h (c + 4)) (c / 4) (o % 24)) ((h c - h (c + 4)) / 2) else 0
def hF (g h : Nat → Nat) (c : Nat) : Nat := h c - (if c < 12 then g c else 0) + (if 4 ≤ c then g (c - 4) else 0)
def hTk (k o : Nat) : Nat := if k = 1 then 6 else if k = 2 then 1 else if k = 4 then 0 else if k = 5 then 1 + o % 5 else 2
def hLe (k m o : Nat) : Nat := if k = 1 then 40 + 2 * m else if k = 2 then 20 else if k = 3 then (if o % 3 = 0 then 30 else 40) else if k = 4 then 100 else if k = 5 then 20 - m else if k = 6 then (if o % 3 = 0 then 30 else 40) + m else 40
def hMo (k : Nat) : Nat := if k = 1 ∨ k = 4 then 300 else if k = 5 then 60 else if k = 6 then 150 else 200
abbrev hS : Type := (Nat → Nat) × (Nat → Nat) × Nat
def hL1 (kd mm cl : Nat → Nat) (o i : Nat) (s : hS) : hS :=
  (va_up s.1 (cl i) (s.1 (cl i) - hTk (kd i) o),
   if hLe (kd i) (mm i) o ≤ s.1 (cl i) - hTk (kd i) o ∧ s.1 (cl i) - hTk (kd i) o ≤ hMo (kd i) then va_up s.2.1 i (min (s.2.1 i + 1) 9999) else s.2.1,
   if hLe (kd i) (mm i) o ≤ s.1 (cl i) - hTk (kd i) o ∧ s.1 (cl i) - hTk (kd i) o ≤ hMo (kd i) then s.2.2 ||| 2 ^ i else s.2.2)
def hLv (kd mm cl : Nat → Nat) (o : Nat) (s : hS) : Nat → hS
  | 0 => s
  | i + 1 => hL1 kd mm cl o i (hLv kd mm cl o s i)
def hCo (h : Nat → Nat) (c : Nat) : Nat := if 12 ≤ c then h c - h c / 4 else h c
def GS7 (use many : Int32) (nums : Nat → Int32) (gg : Nat → Nat → Nat → Nat) : Prop := ∀ (a b c : Nat), a ≤ 9999 → b ≤ 9999 → c ≤ 9999 → ∀ (pile : Nat → Int32) (P : Int32 → (Nat → Int32) → Prop), (∀ pile' : Nat → Int32, P (nI (gg a b c)) pile') → wp_X1_gives (nI a) (nI b) (nI c) use many pile nums P
theorem s7_burn {fed wants burnt o : Nat} {h : Nat → Nat} {heat pile nums : Nat → Int32} {use many : Int32} {gg : Nat → Nat → Nat → Nat} {post : Int32 → Int32 → (Nat → Int32) → (Nat → Int32) → Prop} (hH : ∀ i, i < 16 → heat i = nI (h i)) (bH : ∀ i, i < 16 → h i ≤ 999) (b1 : fed ≤ 99) (b2 : wants ≤ 9999) (b3 : burnt ≤ 99999) (b4 : o ≤ 20000) (hg : GS7 use many nums gg) (bg : ∀ a b c, gg a b c ≤ 999) (hp : ∀ heat' pile' : Nat → Int32, (∀ i, i < 16 → heat' i = nI (hB fed h i)) → post (nI (min (wants + gg fed (o % 24) (wants % 100) - fed) 9999)) (nI (min (burnt + 4 * fed) 99999)) heat' pile') : wp_X5_burn (nI fed) (nI wants) (nI burnt) (nI o) heat use many pile nums post := by
  unfold wp_X5_burn
  refine lpU (σ := (Nat → Int32) × (Nat → Int32)) (fun n x s => wp_X5_burn_b2 (nI fed) (nI o) use many nums post n x (nI wants) (nI burnt) s.1 s.2) (fun i s => ∀ j, j < 16 → s.1 j = nI (if j < i then hB fed h j else h j)) 4 0 (heat, pile) (by omega) (fun j hj => by rw [if_neg (by omega)]; exact hH j hj) (fun n s hI => ?_) (fun n i s hi hI ih => ?_)
  · refine br_t (by decide) ?_
    rw [show vrem (nI o) (24 : Int32) = nI (o % 24) from vrem_nI (b := 24) (by omega) (by omega) (by omega), show vrem (nI wants) (100 : Int32) = nI (wants % 100) from vrem_nI (b := 100) (by omega) (by omega) (by omega)]
    refine hg _ _ _ (by omega) (by omega) (by omega) _ _ (fun pile' => ?_)
    have bg' := bg fed (o % 24) (wants % 100)
    rw [nI_add, show vmx (0 : Int32) (vmn (nI (wants + gg fed (o % 24) (wants % 100)) - nI fed) (9999 : Int32)) = nI (min (wants + gg fed (o % 24) (wants % 100) - fed) 9999) from vclamp (m := 9999) (by omega) (by omega) (by omega), show (4 : Int32) * nI fed = nI (4 * fed) from pk_mul 4 fed, nI_add, show vmn (nI (burnt + 4 * fed)) (99999 : Int32) = nI (min (burnt + 4 * fed) 99999) from vmn_nI (b := 99999) (by omega) (by omega)]
    refine hp _ _ (fun i hi => ?_)
    rw [hI i hi]
    unfold hB
    by_cases q : i < 4
    · rw [if_pos q]
    · rw [if_neg q, if_neg q]
  · have c0 : (nI i).toNatClampNeg = i := nI_clamp (by omega)
    refine br_f (nI_ge (a := i) (b := 4) (by omega) (by omega)) ⟨ix (by omega) (by omega), ix (by omega) (by omega), ?_⟩
    rw [c0]
    refine ih (_, s.2) (fun j hj => ?_)
    show upd s.1 i (vmn (s.1 i + nI fed) (999 : Int32)) j = _
    unfold upd
    have bi := bH i (by omega)
    by_cases q : j = i
    · rw [if_pos q, q, if_pos (by omega), hI i (by omega), if_neg (by omega), nI_add, show vmn (nI (h i + fed)) (999 : Int32) = nI (min (h i + fed) 999) from vmn_nI (b := 999) (by omega) (by omega)]
      unfold hB
      rw [if_pos hi]
    · rw [if_neg q, hI j hj]
      by_cases q2 : j < i
      · rw [if_pos q2, if_pos (by omega)]
      · rw [if_neg q2, if_neg (by omega)]
theorem hG_le {gg : Nat → Nat → Nat → Nat} {D o : Nat} {h : Nat → Nat} (c : Nat) : hG gg D o h c ≤ (h c - h (c + 4)) / 2 := by
  unfold hG
  split
  · exact Nat.min_le_right _ _
  · exact Nat.zero_le _
theorem s7_flow {D o : Nat} {h : Nat → Nat} {heat going pile nums : Nat → Int32} {use many : Int32} {gg : Nat → Nat → Nat → Nat} {post : (Nat → Int32) → (Nat → Int32) → (Nat → Int32) → Prop} (hH : ∀ i, i < 16 → heat i = nI (h i)) (bH : ∀ i, i < 16 → h i ≤ 999) (bD : D < 4096) (bo : o ≤ 20000) (hg : GS7 use many nums gg) (bg : ∀ a b c, gg a b c ≤ 999) (hp : ∀ heat' going' pile' : Nat → Int32, (∀ i, i < 16 → heat' i = nI (hF (hG gg D o h) h i)) → post heat' going' pile') : wp_X5_flow (nI D) (nI o) heat going use many pile nums post := by
  unfold wp_X5_flow
  refine lpU (σ := (Nat → Int32) × (Nat → Int32) × (Nat → Int32)) (fun n x s => wp_X5_flow_b2 (nI D) (nI o) use many nums post n x s.1 s.2.1 s.2.2) (fun i s => s.1 = heat ∧ ∀ j, j < i → s.2.1 j = nI (hG gg D o h j)) 12 0 (heat, going, pile) (by omega) ⟨rfl, fun j hj => by omega⟩ (fun n s hI => ?_) (fun n i s hi hI ih => ?_)
  · obtain ⟨e, hI⟩ := hI
    refine br_t (by decide) ?_
    refine lpU (σ := (Nat → Int32) × (Nat → Int32) × (Nat → Int32)) (fun n x t => wp_X5_flow_b85 post n x t.1 t.2.1 t.2.2) (fun i t => t.2.1 = s.2.1 ∧ ∀ c, c < 16 → t.1 c = nI (h c - (if c < i then hG gg D o h c else 0) + (if 4 ≤ c ∧ c - 4 < i then hG gg D o h (c - 4) else 0))) 12 0 (s.1, s.2.1, s.2.2) (by omega) ⟨rfl, fun c hc => ?_⟩ (fun n t hJ => ?_) (fun n i t hi hJ jh => ?_)
    · rw [if_neg (by omega), if_neg (by omega)]
      show s.1 c = _
      rw [e, hH c hc]; rfl
    · refine br_t (by decide) (hp _ _ _ (fun c hc => ?_))
      rw [hJ.2 c hc]
      unfold hF
      by_cases q : 4 ≤ c
      · rw [if_pos (show 4 ≤ c ∧ c - 4 < 12 by omega), if_pos q]
      · rw [if_neg (show ¬ (4 ≤ c ∧ c - 4 < 12) by omega), if_neg q]
    · obtain ⟨e2, hJ⟩ := hJ
      have c0 : (nI i).toNatClampNeg = i := nI_clamp (by omega)
      have c4 : (nI i + (4 : Int32)).toNatClampNeg = i + 4 := cl4 (by omega)
      refine br_f (nI_ge (a := i) (b := 12) (by omega) (by omega)) ⟨ix (by omega) (by omega), ix (by omega) (by omega), ix (by omega) (by omega), ix4 (by omega) (by omega), ix (by omega) (by omega), ix4 (by omega) (by omega), ?_⟩
      rw [c0, c4]
      refine jh (_, _, _) ⟨e2, fun c hc => ?_⟩
      have gi : t.2.1 i = nI (hG gg D o h i) := by rw [e2]; exact hI i hi
      have gl := hG_le (gg := gg) (D := D) (o := o) (h := h) i
      have b1 := bH i (by omega)
      have b2 := bH (i + 4) (by omega)
      show upd (upd t.1 i (t.1 i - t.2.1 i)) (i + 4) ((upd t.1 i (t.1 i - t.2.1 i)) (i + 4) + t.2.1 i) c = _
      unfold upd
      by_cases q : c = i + 4
      · subst q
        rw [if_pos rfl, if_neg (by omega), hJ (i + 4) hc, gi, nI_add, if_neg (by omega), if_neg (by omega), if_neg (by omega), if_pos (show 4 ≤ i + 4 ∧ i + 4 - 4 < i + 1 by omega)]
        rfl
      · rw [if_neg q]
        by_cases q2 : c = i
        · subst q2
          rw [if_pos rfl, hJ c hc, gi, if_neg (show ¬ c < c by omega), if_pos (show c < c + 1 by omega)]
          by_cases q3 : 4 ≤ c ∧ c - 4 < c
          · rw [if_pos q3, if_pos (show 4 ≤ c ∧ c - 4 < c + 1 by omega), pk_sub (by omega)]
            congr 1; omega
          · rw [if_neg q3, if_neg (show ¬ (4 ≤ c ∧ c - 4 < c + 1) by omega), pk_sub (by omega)]
            congr 1
        · rw [if_neg q2, hJ c hc]
          congr 2
          · congr 1
            by_cases q3 : c < i
            · rw [if_pos q3, if_pos (by omega)]
            · rw [if_neg q3, if_neg (by omega)]
          · by_cases q3 : 4 ≤ c ∧ c - 4 < i
            · rw [if_pos q3, if_pos (show 4 ≤ c ∧ c - 4 < i + 1 by omega)]
            · rw [if_neg q3, if_neg (show ¬ (4 ≤ c ∧ c - 4 < i + 1) by omega)]
  · obtain ⟨e, hI⟩ := hI
    have c0 : (nI i).toNatClampNeg = i := nI_clamp (by omega)
    have c4 : (nI i + (4 : Int32)).toNatClampNeg = i + 4 := cl4 (by omega)
    have b1 := bH i (by omega)
    have b2 := bH (i + 4) (by omega)
    have keep : ∀ (x : Int32), x = nI (hG gg D o h i) → ∀ j, j < i + 1 → (if j = i then x else s.2.1 j) = nI (hG gg D o h j) := fun x hx j hj => by
      by_cases q : j = i
      · rw [if_pos q, hx, q]
      · rw [if_neg q]; exact hI j (by omega)
    refine br_f (nI_ge (a := i) (b := 12) (by omega) (by omega)) ⟨ix (by omega) (by omega), ix4 (by omega) (by omega), ix (by omega) (by omega), ?_⟩
    rw [c0, c4, e, hH i (by omega), hH (i + 4) (by omega)]
    refine ⟨fun hle => ?_, fun hgt => ⟨fun hb => ?_, fun hb => ?_⟩⟩
    · rw [nI_sub_le0 (by omega) (by omega)] at hle
      refine ih (_, _, _) ⟨rfl, keep _ ?_⟩
      unfold hG
      rw [if_neg (fun q => by omega)]; rfl
    · rw [nI_sub_le0 (by omega) (by omega)] at hgt
      rw [nI_bit1 (by omega) (by omega)] at hb
      rw [pk_sub (by omega), show nI i / (4 : Int32) = nI (i / 4) from pk_div (d := 4) (by omega) (by omega) (by omega), show vrem (nI o) (24 : Int32) = nI (o % 24) from vrem_nI (b := 24) (by omega) (by omega) (by omega)]
      refine hg _ _ _ (by omega) (by omega) (by omega) _ _ (fun pile' => ⟨ix (by omega) (by omega), ?_⟩)
      have bg' := bg (h i - h (i + 4)) (i / 4) (o % 24)
      refine ih (_, _, _) ⟨rfl, fun j hj => ?_⟩
      show upd (upd s.2.1 i 0) i _ j = _
      unfold upd
      by_cases q : j = i
      · rw [if_pos q, show nI (h i - h (i + 4)) / (2 : Int32) = nI ((h i - h (i + 4)) / 2) from pk_div (d := 2) (by omega) (by omega) (by omega), vmn_nI (by omega) (by omega), q]
        unfold hG
        rw [if_pos ⟨hb, by omega⟩]
      · rw [if_neg q, if_neg q]; exact hI j (by omega)
    · rw [nI_bit1 (by omega) (by omega)] at hb
      refine ih (_, _, _) ⟨rfl, keep _ ?_⟩
      unfold hG
      rw [if_neg (fun q => hb q.1)]; rfl
