/-! PURE 1: small facts, the leaves -/
theorem nI_lit (k : Nat) : (OfNat.ofNat k : Int32) = nI k := rfl
theorem one_z : ((1 : Int32) = 0) = False := eq_false (by decide)
theorem z_z : ((0 : Int32) = 0) = True := eq_true rfl
theorem p7_within (v lo hi : Int32) (post : Int32 → Prop) : wp_X7_within v lo hi post = (if lo ≤ v ∧ v ≤ hi then post 1 else post 0) := by
  unfold wp_X7_within
  by_cases h1 : v < lo
  · have h2 : ¬ (lo ≤ v ∧ v ≤ hi) := fun h => absurd h.1 (Int32.not_le.mpr h1)
    simp [h1, h2]
  · by_cases h3 : hi < v
    · have h2 : ¬ (lo ≤ v ∧ v ≤ hi) := fun h => absurd h.2 (Int32.not_le.mpr h3)
      simp [h1, h2, h3]
    · have h2 : lo ≤ v ∧ v ≤ hi := ⟨Int32.not_lt.mp h1, Int32.not_lt.mp h3⟩
      simp [h1, h2, h3]
theorem p7_isCell (v : Int32) (post : Int32 → Prop) : wp_X7_isCell v post = (if 0 ≤ v ∧ v ≤ 15 then post 1 else post 0) := p7_within v 0 15 _
theorem p7_isDoor (v : Int32) (post : Int32 → Prop) : wp_X7_isDoor v post = (if 0 ≤ v ∧ v ≤ 11 then post 1 else post 0) := p7_within v 0 11 _
theorem p7_isSheet (v : Int32) (post : Int32 → Prop) : wp_X7_isSheet v post = (if 0 ≤ v ∧ v ≤ 3 then post 1 else post 0) := p7_within v 0 3 _
theorem lg_lt (x y : Int64) : lg_cmp x y < 0 ↔ x < y := by
  unfold lg_cmp
  by_cases h1 : x > y
  · rw [if_pos h1]
    exact ⟨fun h => absurd h (by decide), fun h => absurd h (Int64.not_lt.mpr (Int64.le_of_lt h1))⟩
  · rw [if_neg h1]
    by_cases h2 : x = y
    · rw [if_pos h2, h2]
      exact ⟨fun h => absurd h (by decide), fun h => absurd h Int64.lt_irrefl⟩
    · rw [if_neg h2]
      exact ⟨fun _ => Int64.lt_of_le_of_ne (Int64.not_lt.mp h1) h2, fun _ => by decide⟩
theorem lg_gt (x y : Int64) : 0 < lg_cmp x y ↔ y < x := by
  unfold lg_cmp
  by_cases h1 : x > y
  · rw [if_pos h1]
    exact ⟨fun _ => h1, fun _ => by decide⟩
  · rw [if_neg h1]
    refine ⟨fun h => ?_, fun h => absurd h h1⟩
    by_cases h2 : x = y
    · rw [if_pos h2] at h
      exact absurd h (by decide)
    · rw [if_neg h2] at h
      exact absurd h (by decide)
theorem l64_lt (x y : Int32) : x.toInt64 < y.toInt64 ↔ x < y := by
  rw [Int64.lt_iff_toInt_lt, Int32.toInt_toInt64, Int32.toInt_toInt64, ← Int32.lt_iff_toInt_lt]
theorem p8_in (v lo hi : Int32) (post : Int32 → Prop) : wp_X8_in v.toInt64 lo.toInt64 hi.toInt64 post = (if lo ≤ v ∧ v ≤ hi then post 1 else post 0) := by
  unfold wp_X8_in
  simp only [lg_lt, lg_gt, l64_lt]
  exact p7_within v lo hi post
theorem l64_lit (k : Nat) (h : k < 2 ^ 31) : (OfNat.ofNat k : Int64) = (nI k).toInt64 := (nI_l h).symm
theorem p8_inl (v : Int32) (lo hi : Nat) (h1 : lo < 2 ^ 31) (h2 : hi < 2 ^ 31) (post : Int32 → Prop) : wp_X8_in v.toInt64 (OfNat.ofNat lo) (OfNat.ofNat hi) post = (if nI lo ≤ v ∧ v ≤ nI hi then post 1 else post 0) := by
  rw [l64_lit lo h1, l64_lit hi h2]
  exact p8_in v _ _ post
theorem p8_inx (v x : Int32) (lo : Nat) (h1 : lo < 2 ^ 31) (post : Int32 → Prop) : wp_X8_in v.toInt64 (OfNat.ofNat lo) x.toInt64 post = (if nI lo ≤ v ∧ v ≤ x then post 1 else post 0) := by
  rw [l64_lit lo h1]
  exact p8_in v _ _ post
theorem p8_isCell (v : Int32) (post : Int32 → Prop) : wp_X8_isCell v post = (if 0 ≤ v ∧ v ≤ 15 then post 1 else post 0) := p8_in v 0 15 _
theorem p8_isDoor (v : Int32) (post : Int32 → Prop) : wp_X8_isDoor v post = (if 0 ≤ v ∧ v ≤ 11 then post 1 else post 0) := p8_in v 0 11 _
theorem p8_isSheet (v : Int32) (post : Int32 → Prop) : wp_X8_isSheet v post = (if 0 ≤ v ∧ v ≤ 3 then post 1 else post 0) := p8_in v 0 3 _
theorem p8_held (v lo hi : Int32) (post : Int32 → Prop) : wp_X8_held v lo hi post = (if lo ≤ v then (if v ≤ hi then post v else post hi) else post lo) := by
  unfold wp_X8_held
  by_cases h1 : lo ≤ v <;> by_cases h2 : v ≤ hi <;> simp [h1, h2]
theorem p7_error1 (e : Nat → Int32) (post : Int32 → (Nat → Int32) → Prop) : wp_X7_error 1 e post = post ((-1000000000 : Int32) - 1) (upd e 1 (e 1 + 1)) := by
  unfold wp_X7_error
  have i1 : (1 : Int32).toNatClampNeg = 1 := by decide +kernel
  have v1 : vp_in (1 : Int32) 6 := vin (by decide +kernel)
  simp [i1, v1, show ¬ (1 : Int32) < 0 by decide, show ¬ (6 : Int32) ≤ 1 by decide]
theorem p8_finds (k : Nat) (hk : k < 6) (e : Nat → Int32) (post : Int32 → (Nat → Int32) → Prop) : wp_X8_finds (nI k) e post = post ((-1000000000 : Int32) - nI k) (upd e k (e k + 1)) := by
  unfold wp_X8_finds
  simp [nI_clamp (n := k) (by omega), vp_in_nI (n := k) (N := 6) hk (by decide)]
theorem p7_error (k : Nat) (hk : k < 6) (e : Nat → Int32) (post : Int32 → (Nat → Int32) → Prop) : wp_X7_error (nI k) e post = post ((-1000000000 : Int32) - nI k) (upd e k (e k + 1)) := by
  unfold wp_X7_error
  have a : ¬ nI k < 0 := nI_pos (by omega)
  have b : ¬ (6 : Int32) ≤ nI k := nI_ge (a := k) (b := 6) hk (by decide)
  simp [nI_clamp (n := k) (by omega), vp_in_nI (n := k) (N := 6) hk (by decide), a, b]
