/-! PURE 12: thoughts of the reference -/
theorem s8_keepAside {d aside : Nat → Int32} {P : (Nat → Int32) → Prop} (hp : ∀ a' : Nat → Int32, (∀ i, i < 57 → a' i = d i) → P a') : wp_X8_keepAside d aside P := by
  unfold wp_X8_keepAside
  refine lpU (σ := Nat → Int32) (fun f x s => wp_X8_keepAside_b2 d P f x s) (fun i s => ∀ j, j < i → s j = d j) 57 0 aside (by omega) (fun j hj => by omega) (fun f s hI => br_t (by decide) (hp _ hI)) (fun f i s hi hI ih => ?_)
  refine br_f (nI_ge (a := i) (b := 57) (by omega) (by omega)) ⟨ix (by omega) (by omega), ix (by omega) (by omega), ?_⟩
  rw [nI_clamp (n := i) (by omega)]
  refine ih _ (fun j hj => ?_)
  unfold upd
  by_cases q : j = i
  · rw [if_pos q, q]
  · rw [if_neg q]; exact hI j (by omega)
theorem s8_putBack {d aside : Nat → Int32} {P : (Nat → Int32) → Prop} (hp : ∀ d' : Nat → Int32, (∀ i, i < 57 → d' i = aside i) → (∀ i, 57 ≤ i → d' i = d i) → P d') : wp_X8_putBack d aside P := by
  unfold wp_X8_putBack
  refine lpU (σ := Nat → Int32) (fun f x s => wp_X8_putBack_b2 aside P f x s) (fun i s => (∀ j, j < i → s j = aside j) ∧ ∀ j, i ≤ j → s j = d j) 57 0 d (by omega) ⟨fun j hj => by omega, fun j _ => rfl⟩ (fun f s hI => br_t (by decide) (hp _ hI.1 hI.2)) (fun f i s hi hI ih => ?_)
  refine br_f (nI_ge (a := i) (b := 57) (by omega) (by omega)) ⟨ix (by omega) (by omega), ix (by omega) (by omega), ?_⟩
  rw [nI_clamp (n := i) (by omega)]
  refine ih _ ⟨fun j hj => ?_, fun j hj => ?_⟩
  · unfold upd
    by_cases q : j = i
    · rw [if_pos q, q]
    · rw [if_neg q]; exact hI.1 j (by omega)
  · unfold upd
    rw [if_neg (by omega)]
    exact hI.2 j (by omega)
/-- all is back -/
theorem s8_back {dA d aside : Nat → Int32} {P : (Nat → Int32) → Prop} (ha : ∀ i, i < 57 → aside i = dA i) (hd : ∀ i, 57 ≤ i → d i = dA i) (hp : P dA) : wp_X8_putBack d aside P := s8_putBack (fun d' h1 h2 => by
  have e : d' = dA := funext (fun i => by
    by_cases q : i < 57
    · rw [h1 i q, ha i q]
    · rw [h2 i (by omega), hd i (by omega)])
  rw [e]; exact hp)
def sc (y : hY) (c : Nat) : hY := (y.1, y.2.1, y.2.2.1, y.2.2.2.1, y.2.2.2.2.1, c)
theorem hrN_c {z : hZ} {y : hY} {c : Nat} : ∀ n, hrN z (sc y c) n = sc (hrN z y n) (if n = 0 then c else (hrN z y n).2.2.2.2.2) := by
  intro n
  cases n with
  | zero => rfl
  | succ n =>
    rw [if_neg (by omega)]
    show hrN z (sc y c) (n + 1) = hrN z y (n + 1)
    induction n with
    | zero => rfl
    | succ n ih =>
      show hr z (hrN z (sc y c) (n + 1)) = hr z (hrN z y (n + 1))
      rw [ih]
theorem s8_hoursT {d names pile flows : Nat → Int32} {content : Int32} {t : TT} {n ct : Nat} {post : Int32 → (Nat → Int32) → (Nat → Int32) → (Nat → Int32) → (Nat → Int32) → Prop} (hI : TI t) (hT : TM d t) (hn : n ≤ 1000) (ho : t.2.1.2.2.2.2.1 + n ≤ 20000) (hc : content = nI ct) (bc : ct < 256)
    (hp : ∀ (c' : Nat) (d' names' pile' flows' : Nat → Int32), TM d' (t.1, hrN t.1 t.2.1 n, t.2.2) → kp d d' → c' < 256 → (n ≠ 0 → c' = (hrN t.1 t.2.1 n).2.2.2.2.2) → post (nI c') d' names' pile' flows') : wp_X8_hoursGo (nI n) content d names pile flows post := by
  obtain ⟨i1, i2, i3, i4, i5, i6, i7, i8⟩ := id hI
  obtain ⟨m1, m2, m3, m4, m5⟩ := id hT
  have yb : YB (sc t.2.1 ct) := ⟨i2.1, i2.2.1, i2.2.2.1, i2.2.2.2.1, bc⟩
  refine s8_hoursGo (y := sc t.2.1 ct) (d0 := d) hn i1 yb ho hc m1 ⟨rfl, rfl, rfl, fun _ _ => rfl⟩ (by rw [i7]; exact gs8 (u := 0) (by omega) i3 i5 m2 m4) (by rw [i8]; exact gs8 (u := 1) (by omega) i4 i6 m3 m5) (fun d' na pi fl h1 h2 => ?_)
  have e := hrN_c (z := t.1) (y := t.2.1) (c := ct) n
  have b := hrN_b i1 yb n
  rw [e] at h1 b
  rw [e]
  refine hp _ _ _ _ _ ⟨h1, by rw [h2.2.2.2 57 (by omega)]; exact m2, by rw [h2.2.2.2 58 (by omega)]; exact m3, fun i hi => by rw [h2.2.2.2 _ (by omega)]; exact m4 i hi, fun i hi => by rw [h2.2.2.2 _ (by omega)]; exact m5 i hi⟩ h2 b.2.2.2.2 (fun h0 => ?_)
  show (if n = 0 then ct else _) = _
  rw [if_neg h0]
theorem s8_behind {dA d aside names pile flows : Nat → Int32} {content : Int32} {t : TT} {n ct w : Nat} {post : Int32 → Int32 → (Nat → Int32) → (Nat → Int32) → (Nat → Int32) → (Nat → Int32) → Prop} (hI : TI t) (hT : TM d t) (hn : n ≤ 1000) (ho : t.2.1.2.2.2.2.1 + n ≤ 20000) (hc : content = nI ct) (bc : ct < 256) (hw : w < 229) (ha : ∀ i, i < 57 → aside i = dA i) (hd : ∀ i, 57 ≤ i → d i = dA i)
    (hp : ∀ (c' : Nat) (dn names' pile' flows' : Nat → Int32), TM dn (t.1, hrN t.1 t.2.1 n, t.2.2) → c' < 256 → post (dn w) (nI c') dA names' pile' flows') : wp_X8_behind (nI n) (nI w) content d aside names pile flows post := by
  unfold wp_X8_behind
  refine s8_hoursT hI hT hn ho hc bc (fun c' d' na pi fl h1 h2 h3 _ => ⟨ix hw (by omega), ?_⟩)
  rw [nI_clamp (n := w) (by omega)]
  exact s8_back ha (fun i hi => by rw [h2.2.2.2 i hi]; exact hd i hi) (hp _ _ _ _ _ h1 h3)
