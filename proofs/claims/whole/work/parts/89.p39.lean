/-! PURE 39: voices of the reference; the step -/
theorem p8_above {k : Nat} (hk : k ≤ 6) {P : Int32 → Prop} (p : P (nI (abv k))) : wp_X8_above (nI k) P := by
  unfold abv at p
  refine ⟨fun e => ?_, fun e => ?_⟩
  · rw [if_pos ((nI_leI (b := 3) (by omega) (by omega)).mp e)] at p; exact p
  · have w : ¬ k ≤ 3 := fun z => e ((nI_leI (b := 3) (by omega) (by omega)).mpr z)
    rw [if_neg w] at p
    rw [show nI k - (3 : Int32) = nI (k - 3) from pk_sub (b := 3) (by omega)]
    exact p
theorem ne7 {a b : Nat} (ha : a ≤ 6) (hb : b ≤ 6) (n : a ≠ b) : ¬ nI a = nI b := fun e => n ((nI_eq (by omega) (by omega)).mp e)
theorem s8_zG0 {hh : Int32} {d : Nat} {x : Int32} {T : TrS} {nums : Nat → Int32} {post : Int32 → Int32 → (Nat → Int32) → Prop} (hT : T.1 ≤ 40) (e : tE T nums) (h9 : ∀ nums' : Nat → Int32, tE (tA T 10) nums' → post (x + hh) (nI (tA T 10).1) nums') : wpg_X8_glowsBy (d + 1) 0 (nI 0) x (nI T.1) hh nums post := ⟨fun _ => s8_ran hT e h9, fun z => absurd z (by decide), fun z => absurd rfl z⟩
theorem s8_zG1 {hh : Int32} {d : Nat} {x : Int32} {T : TrS} {nums : Nat → Int32} {post : Int32 → Int32 → (Nat → Int32) → Prop} (hT : T.1 ≤ 40) (e : tE T nums) (h9 : ∀ nums' : Nat → Int32, tE (tA (tA T 20) 10) nums' → post ((x + hh) * 3) (nI (tA (tA T 20) 10).1) nums') : wpg_X8_glowsBy (d + 2) 0 (nI 1) x (nI T.1) hh nums post := ⟨fun z => absurd z (by decide), fun _ => s8_ran hT e (fun n1 e1 => p8_above (k := 1) (by omega) (s8_zG0 (tA_le hT _) e1 h9)), fun _ z => absurd rfl z⟩
theorem s8_zGn {hh : Int32} {d : Nat} {x : Int32} {T : TrS} {nums : Nat → Int32} {post : Int32 → Int32 → (Nat → Int32) → Prop} {fr : Nat} (hf : fr ≤ 6) (n0 : fr ≠ 0) (n1 : fr ≠ 1) (h9 : wpg_X8_glowsBy d 0 (nI (abv fr)) x (nI T.1) hh nums post) : wpg_X8_glowsBy (d + 1) 0 (nI fr) x (nI T.1) hh nums post := ⟨fun z => absurd z (ne7 (b := 0) hf (by omega) n0), fun z => absurd z (ne7 (b := 1) hf (by omega) n1), fun _ _ => p8_above hf h9⟩
theorem s8_zG {hh : Int32} {d : Nat} {x : Int32} {T : TrS} {nums : Nat → Int32} {post : Int32 → Int32 → (Nat → Int32) → Prop} {fr : Nat} (hf : fr ≤ 6) (hT : T.1 ≤ 40) (e : tE T nums) (h9 : ∀ nums' : Nat → Int32, tE (zG hh fr x T).2 nums' → post (zG hh fr x T).1 (nI (zG hh fr x T).2.1) nums') : wpg_X8_glowsBy (d + 3) 0 (nI fr) x (nI T.1) hh nums post := by
  unfold zG at h9
  have q : fr = 0 ∨ fr = 1 ∨ fr = 2 ∨ fr = 3 ∨ fr = 4 ∨ fr = 5 ∨ fr = 6 := by omega
  rcases q with rfl | rfl | rfl | rfl | rfl | rfl | rfl
  · exact s8_zG0 hT e h9
  · exact s8_zG1 hT e h9
  · exact s8_zGn (by omega) (by omega) (by omega) (s8_zG0 hT e h9)
  · exact s8_zGn (by omega) (by omega) (by omega) (s8_zG0 hT e h9)
  · exact s8_zGn (by omega) (by omega) (by omega) (s8_zG1 hT e h9)
  · exact s8_zGn (by omega) (by omega) (by omega) (s8_zGn (fr := 2) (by omega) (by omega) (by omega) (s8_zG0 hT e h9))
  · exact s8_zGn (by omega) (by omega) (by omega) (s8_zGn (fr := 3) (by omega) (by omega) (by omega) (s8_zG0 hT e h9))
theorem s8_zS0 {h k m : Nat} {d : Nat} {x : Int32} {T : TrS} {nums dd : Nat → Int32} {post : Int32 → Int32 → (Nat → Int32) → Prop} (h8 : h < 8) (dk : dd (25 + 4 * h + 0) = nI k) (dm : dd (25 + 4 * h + 1) = nI m) (hT : T.1 ≤ 40) (e : tE T nums) (h9 : ∀ nums' : Nat → Int32, tE (tA T 12) nums' → post (x - nI m) (nI (tA T 12).1) nums') : wpg_X8_shutsBy (d + 1) 0 (nI 0) x (nI T.1) (nI h) dd nums post := ⟨fun _ => s8_ran hT e (fun n1 e1 => p8_of (w := 1) h8 (by omega) (by rw [dm]; exact h9 n1 e1)), fun z => absurd z (by decide), fun z => absurd z (by decide), fun z => absurd rfl z⟩
theorem s8_zS3 {h k m : Nat} {d : Nat} {x : Int32} {T : TrS} {nums dd : Nat → Int32} {post : Int32 → Int32 → (Nat → Int32) → Prop} (h8 : h < 8) (dk : dd (25 + 4 * h + 0) = nI k) (dm : dd (25 + 4 * h + 1) = nI m) (hT : T.1 ≤ 40) (e : tE T nums) (h9 : ∀ nums' : Nat → Int32, tE (tA (tA T 40) 12) nums' → post (-(x - nI m)) (nI (tA (tA T 40) 12).1) nums') : wpg_X8_shutsBy (d + 2) 0 (nI 3) x (nI T.1) (nI h) dd nums post := ⟨fun z => absurd z (by decide), fun _ => s8_ran hT e (fun n1 e1 => p8_above (k := 3) (by omega) (s8_zS0 h8 dk dm (tA_le hT _) e1 h9)), fun z => absurd z (by decide), fun _ z => absurd rfl z⟩
theorem s8_zSn {h : Nat} {d : Nat} {x : Int32} {T : TrS} {nums dd : Nat → Int32} {post : Int32 → Int32 → (Nat → Int32) → Prop} {fr : Nat} (hf : fr ≤ 6) (n0 : fr ≠ 0) (n3 : fr ≠ 3) (n6 : fr ≠ 6) (h9 : wpg_X8_shutsBy d 0 (nI (abv fr)) x (nI T.1) (nI h) dd nums post) : wpg_X8_shutsBy (d + 1) 0 (nI fr) x (nI T.1) (nI h) dd nums post := ⟨fun z => absurd z (ne7 (b := 0) hf (by omega) n0), fun z => absurd z (ne7 (b := 3) hf (by omega) n3), fun z => absurd z (ne7 (b := 6) hf (by omega) n6), fun _ _ _ => p8_above hf h9⟩
theorem s8_zS {h k m : Nat} {d : Nat} {x : Int32} {T : TrS} {nums dd : Nat → Int32} {post : Int32 → Int32 → (Nat → Int32) → Prop} {fr : Nat} (h8 : h < 8) (dk : dd (25 + 4 * h + 0) = nI k) (dm : dd (25 + 4 * h + 1) = nI m) (hf : fr ≤ 6) (hT : T.1 ≤ 40) (e : tE T nums) (h9 : ∀ nums' : Nat → Int32, tE (zS (nI h) (nI m) fr x T).2 nums' → post (zS (nI h) (nI m) fr x T).1 (nI (zS (nI h) (nI m) fr x T).2.1) nums') : wpg_X8_shutsBy (d + 3) 0 (nI fr) x (nI T.1) (nI h) dd nums post := by
  unfold zS at h9
  have q : fr = 0 ∨ fr = 1 ∨ fr = 2 ∨ fr = 3 ∨ fr = 4 ∨ fr = 5 ∨ fr = 6 := by omega
  rcases q with rfl | rfl | rfl | rfl | rfl | rfl | rfl
  · exact s8_zS0 h8 dk dm hT e h9
  · exact s8_zSn (by omega) (by omega) (by omega) (by omega) (s8_zS0 h8 dk dm hT e h9)
  · exact s8_zSn (by omega) (by omega) (by omega) (by omega) (s8_zS0 h8 dk dm hT e h9)
  · exact s8_zS3 h8 dk dm hT e h9
  · exact s8_zSn (by omega) (by omega) (by omega) (by omega) (s8_zSn (fr := 1) (by omega) (by omega) (by omega) (by omega) (s8_zS0 h8 dk dm hT e h9))
  · exact s8_zSn (by omega) (by omega) (by omega) (by omega) (s8_zSn (fr := 2) (by omega) (by omega) (by omega) (by omega) (s8_zS0 h8 dk dm hT e h9))
  · exact ⟨fun z => absurd z (by decide), fun z => absurd z (by decide), fun _ => s8_ran hT e (fun n1 e1 => p8_above (k := 6) (by omega) (s8_zS3 h8 dk dm (tA_le hT _) e1 h9)), fun _ _ z => absurd rfl z⟩
theorem s8_zO0 {h k m : Nat} {d : Nat} {x : Int32} {T : TrS} {nums dd : Nat → Int32} {post : Int32 → Int32 → (Nat → Int32) → Prop} (h8 : h < 8) (dk : dd (25 + 4 * h + 0) = nI k) (dm : dd (25 + 4 * h + 1) = nI m) (hk : k ≤ 6) (hT : T.1 ≤ 40) (e : tE T nums) (h9 : ∀ nums' : Nat → Int32, tE (zO0 (nI h) k x T).2 nums' → post (zO0 (nI h) k x T).1 (nI (zO0 (nI h) k x T).2.1) nums') : wpg_X8_opensBy (d + 1) 0 (nI 0) x (nI T.1) (nI h) dd nums post := ⟨fun _ => s8_ran hT e (fun n1 e1 => p8_of (w := 0) h8 (by omega) (by rw [dk]; exact s8_zG (d := 9) hk (tA_le hT _) e1 h9)), fun z => absurd z (by decide), fun z => absurd z (by decide), fun z => absurd rfl z⟩
theorem s8_zO2 {h k m : Nat} {d : Nat} {x : Int32} {T : TrS} {nums dd : Nat → Int32} {post : Int32 → Int32 → (Nat → Int32) → Prop} (h8 : h < 8) (dk : dd (25 + 4 * h + 0) = nI k) (dm : dd (25 + 4 * h + 1) = nI m) (hk : k ≤ 6) (hT : T.1 ≤ 40) (e : tE T nums) (h9 : ∀ nums' : Nat → Int32, tE (zO2 (nI h) (nI m) k x T).2 nums' → post (zO2 (nI h) (nI m) k x T).1 (nI (zO2 (nI h) (nI m) k x T).2.1) nums') : wpg_X8_opensBy (d + 2) 0 (nI 2) x (nI T.1) (nI h) dd nums post := ⟨fun z => absurd z (by decide), fun _ => s8_ran hT e (fun n1 e1 => p8_above (k := 2) (by omega) (s8_zO0 h8 dk dm hk (tA_le hT _) e1 (fun n2 e2 => p8_of (w := 0) h8 (by omega) (by rw [dk]; exact s8_zS (d := 9) h8 dk dm hk (zO0_le (tA_le hT _)) e2 h9)))), fun z => absurd z (by decide), fun _ z => absurd rfl z⟩
theorem s8_zOn {h : Nat} {d : Nat} {x : Int32} {T : TrS} {nums dd : Nat → Int32} {post : Int32 → Int32 → (Nat → Int32) → Prop} {fr : Nat} (hf : fr ≤ 6) (n0 : fr ≠ 0) (n2 : fr ≠ 2) (n5 : fr ≠ 5) (h9 : wpg_X8_opensBy d 0 (nI (abv fr)) x (nI T.1) (nI h) dd nums post) : wpg_X8_opensBy (d + 1) 0 (nI fr) x (nI T.1) (nI h) dd nums post := ⟨fun z => absurd z (ne7 (b := 0) hf (by omega) n0), fun z => absurd z (ne7 (b := 2) hf (by omega) n2), fun z => absurd z (ne7 (b := 5) hf (by omega) n5), fun _ _ _ => p8_above hf h9⟩
theorem s8_zO {h k m : Nat} {d : Nat} {x : Int32} {T : TrS} {nums dd : Nat → Int32} {post : Int32 → Int32 → (Nat → Int32) → Prop} {fr : Nat} (h8 : h < 8) (dk : dd (25 + 4 * h + 0) = nI k) (dm : dd (25 + 4 * h + 1) = nI m) (hf : fr ≤ 6) (hk : k ≤ 6) (hT : T.1 ≤ 40) (e : tE T nums) (h9 : ∀ nums' : Nat → Int32, tE (zO (nI h) (nI m) k fr x T).2 nums' → post (zO (nI h) (nI m) k fr x T).1 (nI (zO (nI h) (nI m) k fr x T).2.1) nums') : wpg_X8_opensBy (d + 3) 0 (nI fr) x (nI T.1) (nI h) dd nums post := by
  unfold zO at h9
  have q : fr = 0 ∨ fr = 1 ∨ fr = 2 ∨ fr = 3 ∨ fr = 4 ∨ fr = 5 ∨ fr = 6 := by omega
  rcases q with rfl | rfl | rfl | rfl | rfl | rfl | rfl
  · exact s8_zO0 h8 dk dm hk hT e h9
  · exact s8_zOn (by omega) (by omega) (by omega) (by omega) (s8_zO0 h8 dk dm hk hT e h9)
  · exact s8_zO2 h8 dk dm hk hT e h9
  · exact s8_zOn (by omega) (by omega) (by omega) (by omega) (s8_zO0 h8 dk dm hk hT e h9)
  · exact s8_zOn (by omega) (by omega) (by omega) (by omega) (s8_zOn (fr := 1) (by omega) (by omega) (by omega) (by omega) (s8_zO0 h8 dk dm hk hT e h9))
  · exact ⟨fun z => absurd z (by decide), fun z => absurd z (by decide), fun _ => s8_ran hT e (fun n1 e1 => p8_above (k := 5) (by omega) (s8_zO2 h8 dk dm hk (tA_le hT _) e1 h9)), fun _ _ z => absurd rfl z⟩
  · exact s8_zOn (by omega) (by omega) (by omega) (by omega) (s8_zOn (fr := 3) (by omega) (by omega) (by omega) (by omega) (s8_zO0 h8 dk dm hk hT e h9))
theorem s8_zE0 {h k m : Nat} {d : Nat} {x : Int32} {T : TrS} {nums dd : Nat → Int32} {post : Int32 → Int32 → (Nat → Int32) → Prop} (h8 : h < 8) (dk : dd (25 + 4 * h + 0) = nI k) (dm : dd (25 + 4 * h + 1) = nI m) (hk : k ≤ 6) (hT : T.1 ≤ 40) (e : tE T nums) (h9 : ∀ nums' : Nat → Int32, tE (zE0 (nI h) (nI m) k x T).2 nums' → post (zE0 (nI h) (nI m) k x T).1 (nI (zE0 (nI h) (nI m) k x T).2.1) nums') : wpg_X8_tellsBy (d + 1) 0 (nI 0) x (nI T.1) (nI h) dd nums post := ⟨fun _ => s8_ran hT e (fun n1 e1 => p8_of (w := 0) h8 (by omega) (by rw [dk]; exact s8_zO (d := 9) h8 dk dm hk hk (tA_le hT _) e1 (fun n2 e2 => p8_of (w := 0) h8 (by omega) (by rw [dk]; exact s8_zS (d := 9) h8 dk dm hk (zO_le (tA_le hT _)) e2 h9)))), fun z => absurd z (by decide), fun z => absurd z (by decide), fun z => absurd rfl z⟩
theorem s8_zEn {h : Nat} {d : Nat} {x : Int32} {T : TrS} {nums dd : Nat → Int32} {post : Int32 → Int32 → (Nat → Int32) → Prop} {fr : Nat} (hf : fr ≤ 6) (n0 : fr ≠ 0) (n4 : fr ≠ 4) (n6 : fr ≠ 6) (h9 : wpg_X8_tellsBy d 0 (nI (abv fr)) x (nI T.1) (nI h) dd nums post) : wpg_X8_tellsBy (d + 1) 0 (nI fr) x (nI T.1) (nI h) dd nums post := ⟨fun z => absurd z (ne7 (b := 0) hf (by omega) n0), fun z => absurd z (ne7 (b := 4) hf (by omega) n4), fun z => absurd z (ne7 (b := 6) hf (by omega) n6), fun _ _ _ => p8_above hf h9⟩
theorem s8_zE {h k m : Nat} {d : Nat} {x : Int32} {T : TrS} {nums dd : Nat → Int32} {post : Int32 → Int32 → (Nat → Int32) → Prop} {fr : Nat} (h8 : h < 8) (dk : dd (25 + 4 * h + 0) = nI k) (dm : dd (25 + 4 * h + 1) = nI m) (hf : fr ≤ 6) (hk : k ≤ 6) (hT : T.1 ≤ 40) (e : tE T nums) (h9 : ∀ nums' : Nat → Int32, tE (zE (nI h) (nI m) k fr x T).2 nums' → post (zE (nI h) (nI m) k fr x T).1 (nI (zE (nI h) (nI m) k fr x T).2.1) nums') : wpg_X8_tellsBy (d + 3) 0 (nI fr) x (nI T.1) (nI h) dd nums post := by
  unfold zE at h9
  have q : fr = 0 ∨ fr = 1 ∨ fr = 2 ∨ fr = 3 ∨ fr = 4 ∨ fr = 5 ∨ fr = 6 := by omega
  rcases q with rfl | rfl | rfl | rfl | rfl | rfl | rfl
  · exact s8_zE0 h8 dk dm hk hT e h9
  · exact s8_zEn (by omega) (by omega) (by omega) (by omega) (s8_zE0 h8 dk dm hk hT e h9)
  · exact s8_zEn (by omega) (by omega) (by omega) (by omega) (s8_zE0 h8 dk dm hk hT e h9)
  · exact s8_zEn (by omega) (by omega) (by omega) (by omega) (s8_zE0 h8 dk dm hk hT e h9)
  · exact ⟨fun z => absurd z (by decide), fun _ => s8_ran hT e (fun n1 e1 => p8_above (k := 4) (by omega) (s8_zEn (fr := 1) (by omega) (by omega) (by omega) (by omega) (s8_zE0 h8 dk dm hk (tA_le hT _) e1 (fun n2 e2 => p8_of (w := 0) h8 (by omega) (by rw [dk]; exact s8_zG (d := 9) hk (zE0_le (tA_le hT _)) e2 h9))))), fun z => absurd z (by decide), fun _ z => absurd rfl z⟩
  · exact s8_zEn (by omega) (by omega) (by omega) (by omega) (s8_zEn (fr := 2) (by omega) (by omega) (by omega) (by omega) (s8_zE0 h8 dk dm hk hT e h9))
  · exact ⟨fun z => absurd z (by decide), fun z => absurd z (by decide), fun _ => s8_ran hT e (fun n1 e1 => p8_of (w := 0) h8 (by omega) (by rw [dk]; exact s8_zO (d := 9) h8 dk dm hk hk (tA_le hT _) e1 (fun n2 e2 => p8_above (k := 6) (by omega) (s8_zEn (fr := 3) (by omega) (by omega) (by omega) (by omega) (s8_zE0 h8 dk dm hk (zO_le (tA_le hT _)) e2 h9))))), fun _ _ z => absurd rfl z⟩
theorem st_voice : ST_voice Rel := by
  intro cs ms h a1 a2 a3
  obtain ⟨hT, hK, hC, hE, hV, s0, s1, s2, s3⟩ := id h
  have er := er_up hE (k := 1) (by omega)
  obtain ⟨t, a, b, i1, i2, i3, i4, i5, i6, i7⟩ := id hT
  obtain ⟨f1, f2, f3, f4, f5, f6, f7, f8, f9, f10, f11, f12⟩ := id i3
  obtain ⟨m1, m2, m3, m4, m5, m6, m7, m8⟩ := i4.1
  obtain ⟨⟨z1, z2, z3, z4, z5, z6, z7, z8⟩, ⟨y1, y2, y3, y4, y5⟩, zr⟩ := id i1
  unfold wp_X7_voice
  rw [f6]
  by_cases g1 : ∃ i, i < t.1.2.2.1 ∧ a1 = nI i
  · obtain ⟨i, hi, rfl⟩ := g1
    have i8 : i < 8 := by omega
    obtain ⟨n1, n2, n3, n4⟩ := m8 i i8
    have hk := z4 i i8
    have hm := z5 i i8
    refine h7t hi z3 (yes ?_)
    by_cases g2 : 0 ≤ a2 ∧ a2 ≤ 3
    · refine w7t g2 (yes ⟨ix i8 (by omega), ?_⟩)
      rw [nI_clamp (n := i) (by omega), f9 i i8]
      unfold wp_X6_speaks
      rw [show nI (10 * t.1.2.2.2.1 i + t.1.2.2.2.2.1 i) / (10 : Int32) = nI (t.1.2.2.2.1 i) from (pk_div (d := 10) (by omega) (by omega) (by omega)).trans (congrArg nI (by omega)), show vrem (nI (10 * t.1.2.2.2.1 i + t.1.2.2.2.2.1 i)) (10 : Int32) = nI (t.1.2.2.2.2.1 i) from (vrem_nI (b := 10) (by omega) (by omega) (by omega)).trans (congrArg nI (by omega))]
      generalize t.1.2.2.2.1 i = k at hk n1
      generalize t.1.2.2.2.2.1 i = m at hm n2
      have n1' : (ms.2.1 0) (25 + 4 * i + 0) = nI k := n1
      have e0 : ∀ nums : Nat → Int32, tE (0, fun _ => (0 : Int32)) nums := fun _ j hj => absurd hj (Nat.not_lt_zero _)
      have fin : ∀ (R : Int32 × TrS) (n7 n8 : Nat → Int32), R.2.1 ≤ 40 → tE R.2 n7 → tE R.2 n8 → ∃ n, n ≤ 40 ∧ nI R.2.1 = nI n ∧ nI R.2.1 = nI n ∧ ∀ j, j < n → n7 j = n8 j := fun R n7 n8 h1 h2 h3 => ⟨R.2.1, h1, rfl, rfl, fun j hj => (h2 j hj).trans (h3 j hj).symm⟩
      obtain ⟨act, ha, rfl⟩ := rg (m := 3) (by omega) g2
      have q : act = 0 ∨ act = 1 ∨ act = 2 ∨ act = 3 := by omega
      rcases q with rfl | rfl | rfl | rfl
      · refine s7_zG (d := 10) (T := (0, fun _ => 0)) (deep := 0) hk (by decide) (e0 _) (by omega) (fun n7 e7' => ?_)
        refine h8t hi z3 m1 (yes (w8t 0 3 g2 (yes (p8_of (w := 0) i8 (by omega) ?_))))
        rw [n1']
        refine br_t rfl (s8_zG (d := 9) (T := (0, fun _ => 0)) hk (by decide) (e0 _) (fun n8 e8 => ?_))
        exact ⟨rfl, hT, hK, hC, hE, fin (zG (nI i) k a3 (0, fun _ => 0)) n7 n8 (zG_le (by decide)) e7' e8, s0, s1, s2, s3⟩
      · refine s7_zO (d := 7) (T := (0, fun _ => 0)) (deep := 0) hk hk (by decide) (e0 _) (by omega) (fun n7 e7' => ?_)
        refine h8t hi z3 m1 (yes (w8t 0 3 g2 (yes (p8_of (w := 0) i8 (by omega) ?_))))
        rw [n1']
        refine br_f (by decide) (br_t rfl (s8_zO (d := 9) (T := (0, fun _ => 0)) i8 n1' n2 hk hk (by decide) (e0 _) (fun n8 e8 => ?_)))
        exact ⟨rfl, hT, hK, hC, hE, fin (zO (nI i) (nI m) k k a3 (0, fun _ => 0)) n7 n8 (zO_le (by decide)) e7' e8, s0, s1, s2, s3⟩
      · refine s7_zS (d := 9) (T := (0, fun _ => 0)) (deep := 0) hk (by decide) (e0 _) (by omega) (fun n7 e7' => ?_)
        refine h8t hi z3 m1 (yes (w8t 0 3 g2 (yes (p8_of (w := 0) i8 (by omega) ?_))))
        rw [n1']
        refine br_f (by decide) (br_f (by decide) (br_t rfl (s8_zS (d := 9) (T := (0, fun _ => 0)) i8 n1' n2 hk (by decide) (e0 _) (fun n8 e8 => ?_))))
        exact ⟨rfl, hT, hK, hC, hE, fin (zS (nI i) (nI m) k a3 (0, fun _ => 0)) n7 n8 (zS_le (by decide)) e7' e8, s0, s1, s2, s3⟩
      · refine s7_zE (d := 5) (T := (0, fun _ => 0)) (deep := 0) hk hk (by decide) (e0 _) (by omega) (fun n7 e7' => ?_)
        refine h8t hi z3 m1 (yes (w8t 0 3 g2 (yes (p8_of (w := 0) i8 (by omega) ?_))))
        rw [n1']
        refine br_f (by decide) (br_f (by decide) (br_f (by decide) (s8_zE (d := 9) (T := (0, fun _ => 0)) i8 n1' n2 hk hk (by decide) (e0 _) (fun n8 e8 => ?_))))
        exact ⟨rfl, hT, hK, hC, hE, fin (zE (nI i) (nI m) k k a3 (0, fun _ => 0)) n7 n8 (zE_le (by decide)) e7' e8, s0, s1, s2, s3⟩
    · exact w7f g2 (no (e7 1 (by omega) (h8t hi z3 m1 (yes (w8f 0 3 g2 (no (e8 1 (by omega) ⟨rfl, hT, hK, hC, er, hV, s0, s1, s2, s3⟩)))))))
  · exact h7f g1 z3 (no (e7 1 (by omega) (h8f g1 z3 m1 (no (e8 1 (by omega) ⟨rfl, hT, hK, hC, er, hV, s0, s1, s2, s3⟩)))))
