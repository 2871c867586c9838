/-! PURE 5: hours, the class's -/
theorem s7_pass {n : Nat} {z : hZ} {y : hY} (hn : n ≤ 1000) (hz : ZB z) (hy : YB y) (ho : y.2.2.2.2.1 + n ≤ 20000) {content : Int32} {heat km cell warm going wpile wnums gpile gnums : Nat → Int32} {wuse wmany guse gmany : Int32} {post : Int32 → Int32 → Int32 → Int32 → (Nat → Int32) → (Nat → Int32) → (Nat → Int32) → (Nat → Int32) → (Nat → Int32) → Prop}
    (hH : ∀ c, c < 16 → heat c = nI (y.1 c)) (hU : ∀ j, j < 8 → warm j = nI (y.2.1 j)) (hc : content = nI y.2.2.2.2.2) (hKm : ∀ i, i < 8 → km i = nI (10 * z.2.2.2.1 i + z.2.2.2.2.1 i)) (hC : ∀ i, i < 8 → cell i = nI (z.2.2.2.2.2.1 i)) (gw : GS7 wuse wmany wnums z.2.2.2.2.2.2.1) (gg : GS7 guse gmany gnums z.2.2.2.2.2.2.2)
    (hp : ∀ heat' warm' going' wpile' gpile' : Nat → Int32, (∀ c, c < 16 → heat' c = nI ((hrN z y n).1 c)) → (∀ j, j < 8 → warm' j = nI ((hrN z y n).2.1 j)) → post (nI (hrN z y n).2.2.1) (nI (hrN z y n).2.2.2.1) (nI (hrN z y n).2.2.2.2.1) (nI (hrN z y n).2.2.2.2.2) heat' warm' going' wpile' gpile') :
    wp_X5_pass (nI n) (nI z.1) (nI z.2.1) (nI y.2.2.1) (nI y.2.2.2.1) (nI y.2.2.2.2.1) (nI z.2.2.1) content heat km cell warm going wuse guse wmany wpile gmany gpile wnums gnums post := by
  obtain ⟨z1, z2, z3, z4, z5, z6, z7, z8⟩ := id hz
  unfold wp_X5_pass
  refine lpU (σ := (Int32 × Int32 × Int32 × Int32) × (Nat → Int32) × (Nat → Int32) × (Nat → Int32) × (Nat → Int32) × (Nat → Int32)) (fun f x s => wp_X5_pass_b2 (nI n) (nI z.1) (nI z.2.1) (nI z.2.2.1) km cell wuse guse wmany gmany wnums gnums post f x s.1.1 s.1.2.1 s.1.2.2.1 s.1.2.2.2 s.2.1 s.2.2.1 s.2.2.2.1 s.2.2.2.2.1 s.2.2.2.2.2)
    (fun i s => s.1 = (nI (hrN z y i).2.2.1, nI (hrN z y i).2.2.2.1, nI (hrN z y i).2.2.2.2.1, nI (hrN z y i).2.2.2.2.2) ∧ (∀ c, c < 16 → s.2.1 c = nI ((hrN z y i).1 c)) ∧ ∀ j, j < 8 → s.2.2.1 j = nI ((hrN z y i).2.1 j)) n 0 ((nI y.2.2.1, nI y.2.2.2.1, nI y.2.2.2.2.1, content), heat, warm, going, wpile, gpile) (by omega) ⟨by rw [hc]; rfl, hH, hU⟩ (fun f s hI => ?_) (fun f i s hi hI ih => ?_)
  · obtain ⟨e1, e2, e3⟩ := hI
    refine br_t (nI_le (Nat.le_refl n) (by omega)) ?_
    rw [e1]
    exact hp _ _ _ _ _ e2 e3
  · obtain ⟨e1, e2, e3⟩ := hI
    have yb := hrN_b hz hy i
    have oi := hrN_o (z := z) (y := y) i
    obtain ⟨y1, y2, y3, y4, y5⟩ := yb
    refine br_f (nI_ge (by omega) (by omega)) ?_
    rw [e1]
    refine s7_burn e2 y1 z2 y3 y4 (by omega) gw z7 (fun h1 p1 hh1 => ?_)
    refine s7_flow hh1 (hB_b y1) z1 (by omega) gg z8 (fun h2 go p2 hh2 => ?_)
    refine s7_live z3 (by omega) hh2 (hF_b (hB_b y1)) e3 y2 hKm z4 z5 hC z6 (fun h3 w3 hh3 hw3 => ?_)
    have lb := hLv_b (kd := z.2.2.2.1) (mm := z.2.2.2.2.1) (cl := z.2.2.2.2.2.1) (o := (hrN z y i).2.2.2.2.1) (s := (hF (hG z.2.2.2.2.2.2.2 z.1 (hrN z y i).2.2.2.2.1 (hB z.2.1 (hrN z y i).1)) (hB z.2.1 (hrN z y i).1), (hrN z y i).2.1, 0)) (hF_b (hB_b y1)) y2 rfl z.2.2.1
    refine s7_cool hh3 lb.1 (fun h4 hh4 => ?_)
    refine ih ((_, _, _, _), _, _, _, _, _) ⟨?_, hh4, hw3⟩
    show (_, _, nI (hrN z y i).2.2.2.2.1 + 1, _) = _
    rw [nI_1]
    rfl
