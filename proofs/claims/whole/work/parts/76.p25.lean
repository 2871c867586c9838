/-! PURE 25: where to settle; how long a cell keeps its heat -/
/-- a town with a house's cell changed -/
def tC (t : TT) (i c : Nat) : TT := ((t.1.1, t.1.2.1, t.1.2.2.1, t.1.2.2.2.1, t.1.2.2.2.2.1, va_up t.1.2.2.2.2.2.1 i c, t.1.2.2.2.2.2.2), t.2)
theorem TI_C {t : TT} (h : TI t) (i : Nat) {c : Nat} (hc : c < 16) : TI (tC t i c) := by
  obtain ⟨⟨z1, z2, z3, z4, z5, z6, z7, z8⟩, hr⟩ := h
  refine ⟨⟨z1, z2, z3, z4, z5, fun l hl => ?_, z7, z8⟩, hr⟩
  show va_up _ _ _ l < 16
  unfold va_up; split
  · exact hc
  · exact z6 l hl
/-- its warm hours then -/
def wC (t : TT) (n i c : Nat) : Nat := (tH (tC t i c) n).2.1.2.1 i
def sS (f : Nat → Nat) : Nat → Int32 × Int32
  | 0 => (0, -1)
  | c + 1 => if nI (f c) ≤ (sS f c).2 then sS f c else (nI c, nI (f c))
theorem s7_settleLoop {i n : Nat} {t : TT} (hI : TI t) (hi : i < 8) (hn : n ≤ 1000) (ho : t.2.1.2.2.2.2.1 + n ≤ 20000) {cs : CS} {a b : Nat} (hC : TC (cs.1 1) (cs.1 2) (cs.1 3) (cs.1 4) (cs.1 5) (cs.1 6) (cs.1 7) (cs.2.1 0) (cs.2.1 1) (cs.2.1 2) (cs.2.1 3) (cs.1 10) (cs.1 12) (cs.2.1 5) (cs.2.1 7) t) {wuse guse : Int32} (hw : wuse = 0) (hg : guse = 1) (ha : a ≤ 50) (hb : b ≤ 20) (ea : (cs.1 13) = nI a) (eb : (cs.1 14) = nI b) (a3 : Int32) (errors : Nat → Int32) (post : _)
    (hp : ∀ (o1 o2 o3 o4 o5 o6 o7 o8 : Int32) (r1 r2 r3 r4 r5 : Nat → Int32) (o9 o10 o11 : Int32) (r6 : Nat → Int32) (o12 : Int32) (r7 r8 r9 r10 r11 : Nat → Int32), (a3 = 0 → post (sS (wC t n i) 16).1 o1 o2 o3 o4 o5 o6 o7 o8 errors r1 r2 r3 r4 r5 o9 o10 o11 r6 o12 r7 r8 r9 r10 r11) ∧ (¬ a3 = 0 → post (sS (wC t n i) 16).2 o1 o2 o3 o4 o5 o6 o7 o8 errors r1 r2 r3 r4 r5 o9 o10 o11 r6 o12 r7 r8 r9 r10 r11)) :
    ∀ k c, c + k = 16 → ∀ (o1 o2 o3 o4 o5 o6 o7 o8 : Int32) (r1 r2 r3 r4 r5 : Nat → Int32) (o9 o10 o11 : Int32) (r6 : Nat → Int32) (o12 : Int32) (r7 r8 r9 r10 r11 : Nat → Int32), wp_X7_settle_b42 (nI i) (nI n) a3 (cs.1 1) (cs.1 2) (cs.1 3) (cs.1 4) (cs.1 5) (cs.1 6) (cs.1 7) (cs.1 8) (cs.2.1 0) (cs.2.1 1) (cs.2.1 2) (cs.2.1 3) (cs.1 13) (cs.1 14) wuse guse (cs.1 10) (cs.1 12) (cs.2.1 9) (cs.2.1 10) (cs.2.1 5) (cs.2.1 7) post (k + 1) (sS (wC t n i) c).1 (sS (wC t n i) c).2 (nI c) o1 o2 o3 o4 o5 o6 o7 o8 errors r1 r2 r3 r4 r5 o9 o10 o11 r6 o12 r7 r8 r9 r10 r11 := by
  intro k
  induction k with
  | zero =>
    intro c hc o1 o2 o3 o4 o5 o6 o7 o8 r1 r2 r3 r4 r5 o9 o10 o11 r6 o12 r7 r8 r9 r10 r11
    have e : c = 16 := by omega
    subst e
    exact br_t (by decide) (hp o1 o2 o3 o4 o5 o6 o7 o8 r1 r2 r3 r4 r5 o9 o10 o11 r6 o12 r7 r8 r9 r10 r11)
  | succ k ih =>
    intro c hc o1 o2 o3 o4 o5 o6 o7 o8 r1 r2 r3 r4 r5 o9 o10 o11 r6 o12 r7 r8 r9 r10 r11
    have st : sS (wC t n i) (c + 1) = if nI (wC t n i c) ≤ (sS (wC t n i) c).2 then sS (wC t n i) c else (nI c, nI (wC t n i c)) := rfl
    refine br_f (nI_ge (b := 16) (by omega) (by omega)) (s7_behind (set := 0) (n := 0) hI hC (by omega) (by omega) (by omega) hw hg ha hb ea eb (fun o1 o2 o3 o4 o5 o6 o7 o8 r1 r2 r3 r4 r5 o9 o10 o11 r6 o12 r7 r8 r9 r10 r11 hT' => ⟨ix hi (by omega), ?_⟩))
    rw [nI_clamp (n := i) (by omega)]
    rw [tB0] at hT'
    obtain ⟨e1, e2, e3, e4, e5, e6, e7, e8, e9, e10, e11, e12⟩ := hT'
    refine s5_passT (t := tC t i c) (TI_C hI i (by omega)) ⟨e1, e2, e3, e4, e5, e6, e7, e8, e9, fun l hl => ?_, e11, e12⟩ hw hg hn ho (fun p1 p2 p3 p4 q1 q2 q3 q4 q5 h' => ⟨ix hi (by omega), ?_⟩)
    · show upd _ i (nI c) l = nI (va_up _ _ _ l)
      unfold upd va_up
      by_cases w : l = i
      · rw [if_pos w, if_pos w]
      · rw [if_neg w, if_neg w]; exact e10 l hl
    · have e : q2 i = nI (wC t n i c) := h'.2.2.2.2.2.2.2.2.2.2.1 i hi
      rw [e, nI_1]
      refine ⟨fun q => ?_, fun q => ⟨ix hi (by omega), ?_⟩⟩
      · have r := ih (c + 1) (by omega)
        rw [st, if_pos q] at r
        exact r _ _ _ _ _ _ _ _ _ _ _ _ _ _ _ _ _ _ _ _ _ _ _
      · have r := ih (c + 1) (by omega)
        rw [st, if_neg q] at r
        exact r _ _ _ _ _ _ _ _ _ _ _ _ _ _ _ _ _ _ _ _ _ _ _
theorem st_settle : ST_settle Rel := by
  intro cs ms h a1 a2 a3
  obtain ⟨hT, hK, hC, hE, hV, s0, s1, s2, s3⟩ := id h
  have er := er_up hE (k := 1) (by omega)
  obtain ⟨t, a, b, i1, i2, i3, i4, i5, i6, i7⟩ := id hT
  have f6 := i3.2.2.2.2.2.1
  obtain ⟨ct, bc, hct⟩ := id hC
  have hN := i1.1.2.2.1
  unfold wp_X7_settle
  rw [f6]
  by_cases g1 : ∃ i, i < t.1.2.2.1 ∧ a1 = nI i
  · obtain ⟨i, hi, rfl⟩ := g1
    have i8 : i < 8 := by omega
    refine h7t hi hN (yes ?_)
    by_cases g2 : 0 ≤ a2 ∧ a2 ≤ 30
    · by_cases g3 : 0 ≤ a3 ∧ a3 ≤ 1
      · obtain ⟨n, hn, rfl⟩ := rg (m := 30) (by omega) g2
        refine w7t g2 (yes (w7t g3 (yes ⟨17, ?_⟩)))
        rw [← f6]
        have ref : ∀ {P : _}, (∀ (as : Nat → Int32) (ct : Nat) (na pi fl : Nat → Int32), ct < 256 → (a3 = 0 → P (sS (wC t n i) 16).1 (nI ct) (ms.2.1 0) as (ms.2.1 3) na pi fl) ∧ (¬ a3 = 0 → P (sS (wC t n i) 16).2 (nI ct) (ms.2.1 0) as (ms.2.1 3) na pi fl)) → wp_X8_settle (nI i) (nI n) a3 (ms.1 8) (ms.2.1 0) (ms.2.1 2) (ms.2.1 3) (ms.2.1 4) (ms.2.1 6) (ms.2.1 7) P := fun {P} p => h8t hi hN i4.1.1 (yes (w8t 0 30 g2 (yes (w8t 0 1 g3 (yes (s8_keepAside (fun a' hA => by
          refine lpU (σ := (Int32 × Int32) × Int32 × (Nat → Int32) × (Nat → Int32) × (Nat → Int32)) (fun f x s => wp_X8_settle_b49 (nI i) (nI n) a3 P f s.1.1 s.1.2 x s.2.1 (ms.2.1 0) a' (ms.2.1 3) s.2.2.1 s.2.2.2.1 s.2.2.2.2) (fun c s => s.1 = sS (wC t n i) c ∧ ∃ ct, ct < 256 ∧ s.2.1 = nI ct) 16 0 ((0, -1), (ms.1 8), _, _, _) (by omega) ⟨rfl, ct, bc, hct⟩ (fun f s hI => ?_) (fun f c s hc hI ih => ?_)
          · obtain ⟨e1, c', hc', e2⟩ := hI
            rw [e1, e2]
            exact br_t (by decide) (p a' c' _ _ _ hc')
          · obtain ⟨e1, c', hc', e2⟩ := hI
            rw [e1, e2]
            have st : sS (wC t n i) (c + 1) = if nI (wC t n i c) ≤ (sS (wC t n i) c).2 then sS (wC t n i) c else (nI c, nI (wC t n i c)) := rfl
            refine br_f (nI_ge (b := 16) (by omega) (by omega)) (p8_sets (w := 2) i8 (by omega) ?_)
            have ew : (((25 : Int32) + ((4 : Int32) * nI i)) + (3 : Int32)) = nI (25 + 4 * i + 3) := iof (w := 3) i8 (by omega)
            have k2 : kp (ms.2.1 0) (upd (ms.2.1 0) (25 + 4 * i + 2) (nI c)) := kp_up (by omega) (by omega) (by omega) (by omega)
            rw [ew]
            refine s8_behind (dA := (ms.2.1 0)) (t := tC t i c) (TI_C i1 i hc) (TM_kp i4 k2 (RDh_2 i4.1 i8 c)) (by omega) (show t.2.1.2.2.2.2.1 + n ≤ 20000 by omega) rfl hc' (by omega) hA (fun l hl => k2.2.2.2 l hl) (fun c2 dn na pi fl hdn hc2 => ?_)
            have e0 : dn (25 + 4 * i + 3) = nI (wC t n i c) := (hdn.1.2.2.2.2.2.2.2 i i8).2.2.2
            rw [e0]
            refine ⟨fun q => ih ((_, _), _, _, _, _) ⟨?_, c2, hc2, rfl⟩, fun q => ih ((_, _), _, _, _, _) ⟨?_, c2, hc2, rfl⟩⟩
            · rw [st, if_pos q]
            · rw [st, if_neg q]
              rfl)))))))
        exact s7_settleLoop i1 i8 (by omega) (by omega) i3 hK.2.2.2.2.1 hK.2.2.2.2.2 i6.1 i7.1 i6.2.1 i7.2.1 a3 _ _ (fun _ _ _ _ _ _ _ _ _ _ _ _ _ _ _ _ _ _ _ _ _ _ _ => ⟨fun q => ref (fun as ct' na pi fl hct' => ⟨fun _ => ⟨rfl, hT, hK, ⟨ct', hct', rfl⟩, hE, hV, s0, s1, s2, s3⟩, fun w => absurd q w⟩), fun q => ref (fun as ct' na pi fl hct' => ⟨fun w => absurd w q, fun _ => ⟨rfl, hT, hK, ⟨ct', hct', rfl⟩, hE, hV, s0, s1, s2, s3⟩⟩)⟩) 16 0 rfl _ _ _ _ _ _ _ _ _ _ _ _ _ _ _ _ _ _ _ _ _ _ _
      · exact w7t g2 (yes (w7f g3 (no (e7 1 (by omega) (h8t hi hN i4.1.1 (yes (w8t 0 30 g2 (yes (w8f 0 1 g3 (no (e8 1 (by omega) ⟨rfl, hT, hK, hC, er, hV, s0, s1, s2, s3⟩)))))))))))
    · exact w7f g2 (no (e7 1 (by omega) (h8t hi hN i4.1.1 (yes (w8f 0 30 g2 (no (e8 1 (by omega) ⟨rfl, hT, hK, hC, er, hV, s0, s1, s2, s3⟩)))))))
  · exact h7f g1 hN (no (e7 1 (by omega) (h8f g1 hN i4.1.1 (no (e8 1 (by omega) ⟨rfl, hT, hK, hC, er, hV, s0, s1, s2, s3⟩)))))
