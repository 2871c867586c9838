/-! PURE 23: doors opened in thought -/
theorem s8_bS {dA aside na pi fl : Nat → Int32} {content : Int32} {t : TT} {n ct w set : Nat} {post : Int32 → Int32 → (Nat → Int32) → (Nat → Int32) → (Nat → Int32) → (Nat → Int32) → Prop} (hI : TI t) (hT : TM dA t) (hs : set < 4096) (hn : n ≤ 1000) (ho : t.2.1.2.2.2.2.1 + n ≤ 20000) (hc : content = nI ct) (bc : ct < 256) (hw : w < 229) (ha : ∀ i, i < 57 → aside i = dA i)
    (hp : ∀ (c' : Nat) (dn na' pi' fl' : Nat → Int32), TM dn (tB t set n) → c' < 256 → post (dn w) (nI c') dA na' pi' fl') : wp_X8_behind (nI n) (nI w) content (upd dA (8 : Int32).toNatClampNeg (dA (8 : Int32).toNatClampNeg ^^^ nI set)) aside na pi fl post := by
  rw [kc8, hT.1.2.2.2.2.2.1, nI_xor]
  have k2 : kp dA (upd dA 8 (nI (t.1.1 ^^^ set))) := kp_up (by omega) (by omega) (by omega) (by omega)
  exact s8_behind (t := ((t.1.1 ^^^ set, t.1.2), t.2)) ⟨ZB_x hI.1 hs, hI.2⟩ (TM_kp hT k2 (RD_8 hT.1 _)) hn ho hc bc hw ha (fun i hi => k2.2.2.2 i hi) hp
theorem pow12 {i : Nat} (h : i < 12) : 2 ^ i < 4096 := Nat.lt_of_le_of_lt (Nat.pow_le_pow_right (by decide) (by omega : i ≤ 11)) (by decide : 2 ^ 11 < 4096)
theorem or12 {i j : Nat} (h : i < 12) (h' : j < 12) : 2 ^ i ||| 2 ^ j < 4096 := Nat.or_lt_two_pow (n := 12) (pow12 h) (pow12 h')
/-- a house's warm hours, in thought -/
def wD (t : TT) (n i s : Nat) : Nat := (tB t s n).2.1.2.1 i
theorem wD_b {t : TT} (hI : TI t) {n i s : Nat} (hi : i < 8) (hs : s < 4096) : wD t n i s ≤ 9999 := (TI_B hI hs).2.1.2.1 i hi
def oS (f : Nat → Nat) : Nat → Int32 × Nat
  | 0 => (-1, f 0)
  | i + 1 => if f (2 ^ i) ≤ (oS f i).2 then oS f i else (nI i, f (2 ^ i))
theorem oS_b {f : Nat → Nat} (h : ∀ s, s < 4096 → f s ≤ 9999) : ∀ i, i ≤ 12 → (oS f i).2 ≤ 9999 := by
  intro i
  induction i with
  | zero => intro _; exact h 0 (by omega)
  | succ i ih =>
    intro hi
    show (if _ then _ else _ : Int32 × Nat).2 ≤ 9999
    split
    · exact ih (by omega)
    · exact h _ (pow12 (by omega))
theorem s7_openLoop {i n : Nat} {t : TT} (hI : TI t) (hi : i < 8) (hn : n ≤ 1000) (ho : t.2.1.2.2.2.2.1 + n ≤ 20000) {cs : CS} {a b : Nat} (hC : TC (cs.1 1) (cs.1 2) (cs.1 3) (cs.1 4) (cs.1 5) (cs.1 6) (cs.1 7) (cs.2.1 0) (cs.2.1 1) (cs.2.1 2) (cs.2.1 3) (cs.1 10) (cs.1 12) (cs.2.1 5) (cs.2.1 7) t) {wuse guse : Int32} (hw : wuse = 0) (hg : guse = 1) (ha : a ≤ 50) (hb : b ≤ 20) (ea : (cs.1 13) = nI a) (eb : (cs.1 14) = nI b) (errors : Nat → Int32) (post : _)
    (hp : ∀ (o1 o2 o3 o4 o5 o6 o7 o8 : Int32) (r1 r2 r3 r4 r5 : Nat → Int32) (o9 o10 o11 : Int32) (r6 : Nat → Int32) (o12 : Int32) (r7 r8 r9 r10 r11 : Nat → Int32), post (oS (wD t n i) 12).1 o1 o2 o3 o4 o5 o6 o7 o8 errors r1 r2 r3 r4 r5 o9 o10 o11 r6 o12 r7 r8 r9 r10 r11) :
    ∀ k x, x + k = 12 → ∀ (o1 o2 o3 o4 o5 o6 o7 o8 : Int32) (r1 r2 r3 r4 r5 : Nat → Int32) (o9 o10 o11 : Int32) (r6 : Nat → Int32) (o12 : Int32) (r7 r8 r9 r10 r11 : Nat → Int32), wp_X7_open_b42 (nI i) (nI n) (cs.1 1) (cs.1 2) (cs.1 3) (cs.1 4) (cs.1 5) (cs.1 6) (cs.1 7) (cs.1 8) (cs.2.1 0) (cs.2.1 1) (cs.2.1 2) (cs.2.1 3) (cs.1 13) (cs.1 14) wuse guse (cs.1 10) (cs.1 12) (cs.2.1 9) (cs.2.1 10) (cs.2.1 5) (cs.2.1 7) post (k + 1) (oS (wD t n i) x).1 (nI (oS (wD t n i) x).2) (nI x) o1 o2 o3 o4 o5 o6 o7 o8 errors r1 r2 r3 r4 r5 o9 o10 o11 r6 o12 r7 r8 r9 r10 r11 := by
  have ob := oS_b (f := wD t n i) (fun s hs => wD_b hI hi hs)
  intro k
  induction k with
  | zero =>
    intro x hx o1 o2 o3 o4 o5 o6 o7 o8 r1 r2 r3 r4 r5 o9 o10 o11 r6 o12 r7 r8 r9 r10 r11
    have e : x = 12 := by omega
    subst e
    exact br_t (by decide) (hp o1 o2 o3 o4 o5 o6 o7 o8 r1 r2 r3 r4 r5 o9 o10 o11 r6 o12 r7 r8 r9 r10 r11)
  | succ k ih =>
    intro x hx o1 o2 o3 o4 o5 o6 o7 o8 r1 r2 r3 r4 r5 o9 o10 o11 r6 o12 r7 r8 r9 r10 r11
    have st : oS (wD t n i) (x + 1) = if wD t n i (2 ^ x) ≤ (oS (wD t n i) x).2 then oS (wD t n i) x else (nI x, wD t n i (2 ^ x)) := rfl
    have b1 := ob x (by omega)
    have b2 := wD_b hI hi (n := n) (pow12 (i := x) (by omega))
    refine br_f (nI_ge (a := x) (b := 12) (by omega) (by omega)) ?_
    rw [nI_shl1 (by omega)]
    refine s7_behind (set := 2 ^ x) hI hC (pow12 (by omega)) hn ho hw hg ha hb ea eb (fun o1 o2 o3 o4 o5 o6 o7 o8 r1 r2 r3 r4 r5 o9 o10 o11 r6 o12 r7 r8 r9 r10 r11 hT' => ⟨ix hi (by omega), ?_⟩)
    have e : r4 i = nI (wD t n i (2 ^ x)) := hT'.2.2.2.2.2.2.2.2.2.2.1 i hi
    rw [nI_clamp (by omega), e, nI_1]
    refine ⟨fun q => ?_, fun q => ?_⟩
    · have q' := (nI_leI (by omega) (by omega)).mp q
      have r := ih (x + 1) (by omega) o1 o2 o3 o4 o5 o6 o7 o8 r1 r2 r3 r4 r5 o9 o10 o11 r6 o12 r7 r8 r9 r10 r11
      rw [st, if_pos q'] at r
      exact r
    · have q' : ¬ _ ≤ _ := fun w => q ((nI_leI (a := wD t n i (2 ^ x)) (b := (oS (wD t n i) x).2) (by omega) (by omega)).mpr w)
      have r := ih (x + 1) (by omega) o1 o2 o3 o4 o5 o6 o7 o8 r1 r2 r3 r4 r5 o9 o10 o11 r6 o12 r7 r8 r9 r10 r11
      rw [st, if_neg q'] at r
      exact r
theorem st_open : ST_open Rel := by
  intro cs ms h a1 a2
  obtain ⟨hT, hK, hC, hE, hV, s0, s1, s2, s3⟩ := id h
  have er := er_up hE (k := 1) (by omega)
  obtain ⟨t, a, b, i1, i2, i3, i4, i5, i6, i7⟩ := id hT
  have f6 := i3.2.2.2.2.2.1
  obtain ⟨ct, bc, hct⟩ := id hC
  have hN := i1.1.2.2.1
  unfold wp_X7_open
  rw [f6]
  by_cases g1 : ∃ i, i < t.1.2.2.1 ∧ a1 = nI i
  · obtain ⟨i, hi, rfl⟩ := g1
    have i8 : i < 8 := by omega
    refine h7t hi hN (yes ?_)
    by_cases g2 : 0 ≤ a2 ∧ a2 ≤ 20
    · obtain ⟨n, hn, rfl⟩ := rg (m := 20) (by omega) g2
      have ob := oS_b (f := wD t n i) (fun s hs => wD_b i1 i8 hs)
      refine w7t g2 (yes ?_)
      rw [← f6]
      refine s7_behind (set := 0) i1 i3 (by omega) (by omega) (by omega) hK.2.2.2.2.1 hK.2.2.2.2.2 i6.1 i7.1 i6.2.1 i7.2.1 (fun o1 o2 o3 o4 o5 o6 o7 o8 r1 r2 r3 r4 r5 o9 o10 o11 r6 o12 r7 r8 r9 r10 r11 hT' => ⟨ix i8 (by omega), 13, ?_⟩)
      have e : r4 i = nI (wD t n i 0) := hT'.2.2.2.2.2.2.2.2.2.2.1 i i8
      rw [nI_clamp (by omega), e]
      refine s7_openLoop i1 i8 (by omega) (by omega) i3 hK.2.2.2.2.1 hK.2.2.2.2.2 i6.1 i7.1 i6.2.1 i7.2.1 _ _ (fun _ _ _ _ _ _ _ _ _ _ _ _ _ _ _ _ _ _ _ _ _ _ _ => ?_) 12 0 rfl o1 o2 o3 o4 o5 o6 o7 o8 r1 r2 r3 r4 r5 o9 o10 o11 r6 o12 r7 r8 r9 r10 r11
      refine h8t hi hN i4.1.1 (yes (w8t 0 20 g2 (yes (s8_keepAside (fun a' hA => ?_)))))
      have ew : (((25 : Int32) + ((4 : Int32) * nI i)) + (3 : Int32)) = nI (25 + 4 * i + 3) := iof (w := 3) i8 (by omega)
      rw [ew]
      refine s8_behind (dA := (ms.2.1 0)) i1 i4 (by omega) (by omega) hct bc (by omega) hA (fun _ _ => rfl) (fun c0 dn na pi fl hdn hc0 => ?_)
      have e0 : dn (25 + 4 * i + 3) = nI (wD t n i 0) := by
        have := (hdn.1.2.2.2.2.2.2.2 i i8).2.2.2
        rw [← tB0] at this
        exact this
      rw [e0]
      refine lpU (σ := (Int32 × Int32) × Int32 × (Nat → Int32) × (Nat → Int32) × (Nat → Int32)) (fun f x s => wp_X8_open_b53 (nI n) _ f (nI (25 + 4 * i + 3)) s.1.2 s.1.1 x s.2.1 (ms.2.1 0) a' (ms.2.1 3) s.2.2.1 s.2.2.2.1 s.2.2.2.2) (fun x s => s.1 = ((oS (wD t n i) x).1, nI (oS (wD t n i) x).2) ∧ ∃ ct, ct < 256 ∧ s.2.1 = nI ct) 12 0 ((-1, nI (wD t n i 0)), nI c0, na, pi, fl) (by omega) ⟨rfl, c0, hc0, rfl⟩ (fun f s hI => ?_) (fun f x s hx hI ih => ?_)
      · obtain ⟨e1, c', hc', e2⟩ := hI
        rw [e1, e2]
        exact br_t (by decide) ⟨rfl, hT, hK, ⟨c', hc', rfl⟩, hE, hV, s0, s1, s2, s3⟩
      · obtain ⟨e1, c', hc', e2⟩ := hI
        rw [e1, e2]
        have st : oS (wD t n i) (x + 1) = if wD t n i (2 ^ x) ≤ (oS (wD t n i) x).2 then oS (wD t n i) x else (nI x, wD t n i (2 ^ x)) := rfl
        have b1 := ob x (by omega)
        have b2 := wD_b i1 i8 (n := n) (pow12 (i := x) (by omega))
        refine br_f (nI_ge (a := x) (b := 12) (by omega) (by omega)) ?_
        rw [nI_shl1 (by omega)]
        refine s8_bS i1 i4 (pow12 (by omega)) (by omega) (by omega) rfl hc' (by omega) hA (fun c2 dn na pi fl hdn hc2 => ?_)
        have e0 : dn (25 + 4 * i + 3) = nI (wD t n i (2 ^ x)) := (hdn.1.2.2.2.2.2.2.2 i i8).2.2.2
        rw [e0]
        refine ⟨fun q => ih ((_, _), _, _, _, _) ⟨?_, c2, hc2, rfl⟩, fun q => ih ((_, _), _, _, _, _) ⟨?_, c2, hc2, rfl⟩⟩
        · rw [st, if_pos ((nI_leI (by omega) (by omega)).mp q)]
        · rw [st, if_neg (fun w => q ((nI_leI (by omega) (by omega)).mpr w))]
          rfl
    · refine w7f g2 (no (e7 1 (by omega) (h8t hi hN i4.1.1 (yes (w8f 0 20 g2 (no (e8 1 (by omega) ⟨rfl, ?_⟩)))))))
      exact ⟨hT, hK, hC, er, hV, s0, s1, s2, s3⟩
  · refine h7f g1 hN (no (e7 1 (by omega) (h8f g1 hN i4.1.1 (no (e8 1 (by omega) ⟨rfl, ?_⟩)))))
    exact ⟨hT, hK, hC, er, hV, s0, s1, s2, s3⟩
