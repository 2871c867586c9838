/-! PURE 27: the vote -/
def vW (t : TT) (n s j : Nat) : Nat := (tB t s n).2.1.2.1 j
theorem vW_b {t : TT} (hI : TI t) {n s j : Nat} (hs : s < 4096) (hj : j < 8) : vW t n s j ≤ 9999 := (TI_B hI hs).2.1.2.1 j hj
def vS (t : TT) (n s : Nat) : Nat → Int32
  | 0 => 0
  | j + 1 => vS t n s j + (if vW t n 0 j ≤ vW t n s j then (if vW t n s j = vW t n 0 j then 0 else 1) else -1)
theorem s7_voteLoop {d n : Nat} {t : TT} (hI : TI t) (hd : d < 12) (hn : n ≤ 1000) (ho : t.2.1.2.2.2.2.1 + n ≤ 20000) {cs : CS} {a b : Nat} (hC : TC (cs.1 1) (cs.1 2) (cs.1 3) (cs.1 4) (cs.1 5) (cs.1 6) (cs.1 7) (cs.2.1 0) (cs.2.1 1) (cs.2.1 2) (cs.2.1 3) (cs.1 10) (cs.1 12) (cs.2.1 5) (cs.2.1 7) t) {wuse guse : Int32} (hw : wuse = 0) (hg : guse = 1) (ha : a ≤ 50) (hb : b ≤ 20) (ea : (cs.1 13) = nI a) (eb : (cs.1 14) = nI b) (errors : Nat → Int32) (post : _)
    (hp : ∀ (wu : Nat → Int32) (o1 o2 o3 o4 o5 o6 o7 o8 : Int32) (r1 r2 r3 r4 r5 : Nat → Int32) (o9 o10 o11 : Int32) (r6 : Nat → Int32) (o12 : Int32) (r7 r8 r9 r10 r11 : Nat → Int32), post (vS t n (2 ^ d) t.1.2.2.1) o1 o2 o3 o4 o5 o6 o7 o8 wu errors r1 r2 r3 r4 r5 o9 o10 o11 r6 o12 r7 r8 r9 r10 r11) :
    ∀ (wu : Nat → Int32) (o1 o2 o3 o4 o5 o6 o7 o8 : Int32) (r1 r2 r3 r4 r5 : Nat → Int32) (o9 o10 o11 : Int32) (r6 : Nat → Int32) (o12 : Int32) (r7 r8 r9 r10 r11 : Nat → Int32), TC o1 o2 o3 o4 o5 o6 o7 r1 r2 r3 r4 o11 o12 r10 r11 (tB t 0 n) → ∃ k, wp_X7_vote_b33 (nI d) (nI n) (cs.1 1) (cs.1 2) (cs.1 3) (cs.1 4) (cs.1 5) (cs.1 6) (cs.1 7) (cs.1 8) (cs.2.1 0) (cs.2.1 1) (cs.2.1 2) (cs.2.1 3) (cs.1 13) (cs.1 14) wuse guse (cs.1 10) (cs.1 12) (cs.2.1 9) (cs.2.1 10) (cs.2.1 5) (cs.2.1 7) post k (0 : Int32) o1 o2 o3 o4 o5 o6 o7 o8 wu errors r1 r2 r3 r4 r5 o9 o10 o11 r6 o12 r7 r8 r9 r10 r11 := by
  intro wu o1 o2 o3 o4 o5 o6 o7 o8 r1 r2 r3 r4 r5 o9 o10 o11 r6 o12 r7 r8 r9 r10 r11 hT
  have e0 : ∀ j, j < 8 → r4 j = nI (vW t n 0 j) := hT.2.2.2.2.2.2.2.2.2.2.1
  have hN := hI.1.2.2.1
  refine lpU (σ := Nat → Int32) (fun f x s => wp_X7_vote_b33 (nI d) (nI n) (cs.1 1) (cs.1 2) (cs.1 3) (cs.1 4) (cs.1 5) (cs.1 6) (cs.1 7) (cs.1 8) (cs.2.1 0) (cs.2.1 1) (cs.2.1 2) (cs.2.1 3) (cs.1 13) (cs.1 14) wuse guse (cs.1 10) (cs.1 12) (cs.2.1 9) (cs.2.1 10) (cs.2.1 5) (cs.2.1 7) post f x o1 o2 o3 o4 o5 o6 o7 o8 s errors r1 r2 r3 r4 r5 o9 o10 o11 r6 o12 r7 r8 r9 r10 r11) (fun i s => ∀ j, j < i → s j = nI (vW t n 0 j)) 8 0 wu (by omega) (fun j hj => absurd hj (Nat.not_lt_zero _)) (fun f s hS => br_t (by decide) ?_) (fun f i s hi hS ih => br_f (nI_ge (b := 8) hi (by omega)) ⟨ix hi (by omega), ix hi (by omega), ?_⟩)
  · rw [nI_shl1 (by omega)]
    refine s7_behind (set := 2 ^ d) hI hC (pow12 hd) hn ho hw hg ha hb ea eb (fun o1 o2 o3 o4 o5 o6 o7 o8 r1 r2 r3 r4 r5 o9 o10 o11 r6 o12 r7 r8 r9 r10 r11 hT' => ?_)
    have e1 : ∀ j, j < 8 → r4 j = nI (vW t n (2 ^ d) j) := hT'.2.2.2.2.2.2.2.2.2.2.1
    have e6 : o6 = nI t.1.2.2.1 := hT'.2.2.2.2.2.1
    rw [e6]
    have hp' := hp s o1 o2 o3 o4 o5 (nI t.1.2.2.1) o7 o8 r1 r2 r3 r4 r5 o9 o10 o11 r6 o12 r7 r8 r9 r10 r11
    refine lpU (σ := Int32) (fun f x v => wp_X7_vote_b76 post f v x o1 o2 o3 o4 o5 (nI t.1.2.2.1) o7 o8 s errors r1 r2 r3 r4 r5 o9 o10 o11 r6 o12 r7 r8 r9 r10 r11) (fun i v => v = vS t n (2 ^ d) i) t.1.2.2.1 0 0 (by omega) rfl (fun f v hv => br_t (nI_le (Nat.le_refl _) (by omega)) ?_) (fun f i v hi hv ih => br_f (nI_ge hi (by omega)) (br_f (nI_ge (a := i) (b := 8) (by omega) (by omega)) ⟨ix (by omega) (by omega), ix (by omega) (by omega), ?_⟩))
    · rw [hv]; exact hp'
    · rw [nI_clamp (by omega), e1 i (by omega), hS i (by omega), nI_1, hv]
      have b0 := vW_b hI (n := n) (s := 0) (by omega) (show i < 8 by omega)
      have b1 := vW_b hI (n := n) (pow12 hd) (show i < 8 by omega)
      have st : vS t n (2 ^ d) (i + 1) = vS t n (2 ^ d) i + (if vW t n 0 i ≤ vW t n (2 ^ d) i then (if vW t n (2 ^ d) i = vW t n 0 i then 0 else 1) else -1) := rfl
      rw [nI_1] at ih
      refine ⟨fun q => ⟨fun q' => ih _ ?_, fun q' => ih _ ?_⟩, fun q => ih _ ?_⟩
      · rw [st, if_pos ((nI_leI (by omega) (by omega)).mp q), if_pos ((nI_eq (by omega) (by omega)).mp q')]
      · rw [st, if_pos ((nI_leI (by omega) (by omega)).mp q), if_neg (fun w => q' (by rw [w]))]
      · rw [st, if_neg (fun w => q ((nI_leI (by omega) (by omega)).mpr w))]
  · refine ih _ (fun j hj => ?_)
    rw [nI_clamp (by omega)]
    unfold upd
    by_cases w : j = i
    · rw [if_pos w, w]; exact e0 i hi
    · rw [if_neg w]; exact hS j (by omega)
theorem st_vote : ST_vote Rel := by
  intro cs ms h a1 a2
  obtain ⟨hT, hK, hC, hE, hV, s0, s1, s2, s3⟩ := id h
  have er := er_up hE (k := 1) (by omega)
  obtain ⟨t, a, b, i1, i2, i3, i4, i5, i6, i7⟩ := id hT
  obtain ⟨ct, bc, hct⟩ := id hC
  have hN := i1.1.2.2.1
  by_cases g1 : 0 ≤ a1 ∧ a1 ≤ 11
  · by_cases g2 : 0 ≤ a2 ∧ a2 ≤ 20
    · obtain ⟨d, hd, rfl⟩ := rg (m := 11) (by omega) g1
      obtain ⟨n, hn, rfl⟩ := rg (m := 20) (by omega) g2
      refine d7t g1 (yes (w7t g2 (yes (s7_behind (set := 0) i1 i3 (by omega) (by omega) (by omega) hK.2.2.2.2.1 hK.2.2.2.2.2 i6.1 i7.1 i6.2.1 i7.2.1 (fun o1 o2 o3 o4 o5 o6 o7 o8 r1 r2 r3 r4 r5 o9 o10 o11 r6 o12 r7 r8 r9 r10 r11 hT' => s7_voteLoop i1 (show d < 12 by omega) (by omega) (by omega) i3 hK.2.2.2.2.1 hK.2.2.2.2.2 i6.1 i7.1 i6.2.1 i7.2.1 _ _ (fun wu _ _ _ _ _ _ _ _ _ _ _ _ _ _ _ _ _ _ _ _ _ _ _ => ?_) _ _ _ _ _ _ _ _ _ _ _ _ _ _ _ _ _ _ _ _ _ _ _ _ hT')))))
      refine d8t g1 (yes (w8t 0 20 g2 (yes (s8_keepAside (fun a' hA => s8_hoursT i1 i4 (by omega) (by omega) hct bc (fun c1 d1 na pi fl hd1 k1 hc1 _ => ?_))))))
      have m0 : d1 0 = nI t.1.2.2.1 := hd1.1.1
      have e0 : ∀ j, j < 8 → d1 (25 + 4 * j + 3) = nI (vW t n 0 j) := fun j hj => by
        have := (hd1.1.2.2.2.2.2.2.2 j hj).2.2.2
        rw [← tB0] at this
        exact this
      refine lpU (σ := Nat → Int32) (fun f x s => wp_X8_vote_b36 (nI d) (nI n) _ f x (nI c1) d1 a' (ms.2.1 3) na pi fl s) (fun i s => ∀ j, j < i → s j = nI (vW t n 0 j)) t.1.2.2.1 0 (ms.2.1 8) (by omega) (fun j hj => absurd hj (Nat.not_lt_zero _)) (fun f s hS => ?_) (fun f i s hi hS ih => ?_)
      · show (_ ≤ _ → _) ∧ _
        rw [kc0, m0]
        refine br_t (nI_le (Nat.le_refl _) (by omega)) (s8_back hA k1.2.2.2 ?_)
        rw [kc8, i4.1.2.2.2.2.2.1, nI_shl1 (by omega), nI_xor]
        have k2 : kp (ms.2.1 0) (upd (ms.2.1 0) 8 (nI (t.1.1 ^^^ 2 ^ d))) := kp_up (by omega) (by omega) (by omega) (by omega)
        refine s8_hoursT (t := ((t.1.1 ^^^ 2 ^ d, t.1.2), t.2)) ⟨ZB_x i1.1 (pow12 (by omega)), i1.2⟩ (TM_kp i4 k2 (RD_8 i4.1 _)) (by omega) (show t.2.1.2.2.2.2.1 + n ≤ 20000 by omega) rfl hc1 (fun c2 d2 na pi fl hd2 k3 hc2 _ => ?_)
        have m2 : d2 0 = nI t.1.2.2.1 := hd2.1.1
        have e2 : ∀ j, j < 8 → d2 (25 + 4 * j + 3) = nI (vW t n (2 ^ d) j) := fun j hj => (hd2.1.2.2.2.2.2.2.2 j hj).2.2.2
        refine lpU (σ := Int32) (fun f x v => wp_X8_vote_b91 _ f v x (nI c2) d2 a' (ms.2.1 3) na pi fl s) (fun i v => v = vS t n (2 ^ d) i) t.1.2.2.1 0 0 (by omega) rfl (fun f v hv => ?_) (fun f i v hi hv ih => ?_)
        · show (_ ≤ _ → _) ∧ _
          rw [kc0, m2]
          refine br_t (nI_le (Nat.le_refl _) (by omega)) (s8_back hA (fun i hi => (k3.2.2.2 i hi).trans (k2.2.2.2 i hi)) ?_)
          rw [hv]
          exact ⟨rfl, hT, hK, ⟨c2, hc2, rfl⟩, hE, hV, s0, s1, s2, s3⟩
        · show (_ ≤ _ → _) ∧ _
          rw [kc0, m2]
          have b0 := vW_b i1 (n := n) (s := 0) (by omega) (show i < 8 by omega)
          have b1 := vW_b i1 (n := n) (pow12 (show d < 12 by omega)) (show i < 8 by omega)
          have st : vS t n (2 ^ d) (i + 1) = vS t n (2 ^ d) i + (if vW t n 0 i ≤ vW t n (2 ^ d) i then (if vW t n (2 ^ d) i = vW t n 0 i then 0 else 1) else -1) := rfl
          refine br_f (nI_ge hi (by omega)) (p8_of (w := 3) (by omega) (by omega) ⟨ix (by omega) (by omega), ?_⟩)
          rw [nI_clamp (by omega), e2 i (by omega), hS i hi, hv]
          refine ⟨fun q => p8_of (w := 3) (by omega) (by omega) ⟨ix (by omega) (by omega), ?_⟩, fun q => ih _ ?_⟩
          · have q1 := (nI_leI (by omega) (by omega)).mp q
            rw [e2 i (by omega)]
            refine ⟨fun q' => ih _ ?_, fun q' => ih _ ?_⟩
            · have q2 := (nI_leI (by omega) (by omega)).mp q'
              rw [st, if_pos q2, if_pos (by omega)]
            · rw [st, if_neg (fun w => q' ((nI_leI (by omega) (by omega)).mpr w))]
          · have q1 : ¬ vW t n (2 ^ d) i ≤ vW t n 0 i := fun w => q ((nI_leI (by omega) (by omega)).mpr w)
            rw [st, if_pos (by omega), if_neg (by omega)]
      · show (_ ≤ _ → _) ∧ _
        rw [kc0, m0]
        refine br_f (nI_ge hi (by omega)) (p8_of (w := 3) (by omega) (by omega) ⟨ix (by omega) (by omega), ih _ (fun j hj => ?_)⟩)
        rw [nI_clamp (by omega)]
        unfold upd
        by_cases w : j = i
        · rw [if_pos w, w]; exact e0 i (by omega)
        · rw [if_neg w]; exact hS j (by omega)
    · exact d7t g1 (yes (w7f g2 (no (e7 1 (by omega) (d8t g1 (yes (w8f 0 20 g2 (no (e8 1 (by omega) ⟨rfl, hT, hK, hC, er, hV, s0, s1, s2, s3⟩)))))))))
  · exact d7f g1 (no (e7 1 (by omega) (d8f g1 (no (e8 1 (by omega) ⟨rfl, hT, hK, hC, er, hV, s0, s1, s2, s3⟩)))))
