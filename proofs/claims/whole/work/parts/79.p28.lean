/-! PURE 28: hours let loose -/
def shN (z : Int32) : Nat := (z.toUInt32 >>> ((8 : Int32).toUInt32 &&& Int32.toUInt32 31)).toNat
theorem sh_eq (z : Int32) : (z.toUInt32 >>> ((8 : Int32).toUInt32 &&& Int32.toUInt32 31)).toInt32 = nI (shN z) := by
  unfold shN
  generalize (z.toUInt32 >>> ((8 : Int32).toUInt32 &&& Int32.toUInt32 31)) = v
  apply Int32.toBitVec_inj.mp
  show v.toBitVec = BitVec.ofNat 32 v.toBitVec.toNat
  apply BitVec.eq_of_toNat_eq
  rw [BitVec.toNat_ofNat, Nat.mod_eq_of_lt v.toBitVec.isLt]
theorem shN_lt (z : Int32) : shN z < 2 ^ 24 := by
  unfold shN
  rw [UInt32.toNat_shiftRight, show ((8 : Int32).toUInt32 &&& Int32.toUInt32 31).toNat % 32 = 8 from by decide +kernel, Nat.shiftRight_eq_div_pow]
  have := z.toUInt32.toNat_lt
  omega
def lcg (z : Int32) : Int32 := (z * (1103515245 : Int32)) + (12345 : Int32)
/-- the draws, behind names -/
def LZ (L : Int32 → Int32) (S : Int32 → Nat) : Prop := (∀ z : Int32, (z * (1103515245 : Int32)) + (12345 : Int32) = L z) ∧ (∀ z : Int32, (z.toUInt32 >>> ((8 : Int32).toUInt32 &&& Int32.toUInt32 31)).toInt32 = nI (S z)) ∧ ∀ z : Int32, S z < 2 ^ 24
theorem LZ_is : ∃ L S, LZ L S := ⟨lcg, shN, fun _ => rfl, sh_eq, shN_lt⟩
def lzF (L : Int32 → Int32) (S : Int32 → Nat) (z : Int32) : Nat := S (L z) % 40
def lzD (L : Int32 → Int32) (S : Int32 → Nat) (D : Nat) (z : Int32) : Nat := if S (L (L z)) % 4 = 0 then D ^^^ 2 ^ (S (L (L z)) / 8 % 12) else D
theorem lzD_lt {L : Int32 → Int32} {S : Int32 → Nat} {D : Nat} (h : D < 4096) (z : Int32) : lzD L S D z < 4096 := by
  unfold lzD
  split
  · exact xor_lt h (pow12 (by omega))
  · exact h
/-- a town with other doors and other fuel; the numbers that are drawn stay behind names -/
def tDF (t : TT) (D f : Nat) : TT := ((D, f, t.1.2.2), t.2)
theorem TI_DF {t : TT} (h : TI t) {D f : Nat} (hD : D < 4096) (hf : f ≤ 99) : TI (tDF t D f) := ⟨⟨hD, hf, h.1.2.2⟩, h.2⟩
theorem tDF_o {t : TT} {D f : Nat} : (tH (tDF t D f) 1).2.1.2.2.2.2.1 = t.2.1.2.2.2.2.1 + 1 := tH_o 1
theorem lzF_le {L : Int32 → Int32} {S : Int32 → Nat} (z : Int32) : lzF L S z ≤ 99 := by
  unfold lzF
  generalize S (L z) = k
  omega
def lzT (L : Int32 → Int32) (S : Int32 → Nat) (s : TT × Int32) : TT × Int32 := (tH (tDF s.1 (lzD L S s.1.1.1 s.2) (lzF L S s.2)) 1, L (L s.2))
def lzN (L : Int32 → Int32) (S : Int32 → Nat) (s : TT × Int32) : Nat → TT × Int32
  | 0 => s
  | n + 1 => lzT L S (lzN L S s n)
theorem lzT_I {L : Int32 → Int32} {S : Int32 → Nat} {s : TT × Int32} (h : TI s.1) : TI (lzT L S s).1 := TI_H (TI_DF h (lzD_lt h.1.1 s.2) (lzF_le s.2)) 1
theorem TI_N {L : Int32 → Int32} {S : Int32 → Nat} {s : TT × Int32} (h : TI s.1) (n : Nat) : TI (lzN L S s n).1 := by
  induction n with
  | zero => exact h
  | succ n ih => exact lzT_I ih
theorem lzT_o {L : Int32 → Int32} {S : Int32 → Nat} (s : TT × Int32) : (lzT L S s).1.2.1.2.2.2.2.1 = s.1.2.1.2.2.2.2.1 + 1 := tDF_o
theorem lzN_o {L : Int32 → Int32} {S : Int32 → Nat} {s : TT × Int32} (n : Nat) : (lzN L S s n).1.2.1.2.2.2.2.1 = s.1.2.1.2.2.2.2.1 + n := by
  induction n with
  | zero => rfl
  | succ n ih =>
    have e := lzT_o (L := L) (S := S) (lzN L S s n)
    rw [ih] at e
    exact e
theorem s7_draw {L : Int32 → Int32} {S : Int32 → Nat} (hL : LZ L S) {z : Int32} {P : Int32 → Int32 → Prop} (h : P (nI (S (L z))) (L z)) : wp_X5_draw z P := by
  unfold wp_X5_draw
  rw [hL.1 z, hL.2.1 (L z)]
  exact h
theorem rem4 (r : Nat) (h : r < 2 ^ 24) : (vrem (nI r) (4 : Int32) = 0) ↔ r % 4 = 0 := by
  rw [show vrem (nI r) (4 : Int32) = nI (r % 4) from vrem_nI (b := 4) (by omega) (by omega) (by omega)]
  exact nI_eq (a := r % 4) (b := 0) (by omega) (by omega)
theorem dbit (r : Nat) (h : r < 2 ^ 24) : ((1 : Int32) <<< ((vrem (nI r / (8 : Int32)) (12 : Int32)) &&& 31)) = nI (2 ^ (r / 8 % 12)) := by
  rw [show nI r / (8 : Int32) = nI (r / 8) from pk_div (d := 8) (by omega) (by omega) (by omega), show vrem (nI (r / 8)) (12 : Int32) = nI (r / 8 % 12) from vrem_nI (b := 12) (by omega) (by omega) (by omega), nI_shl1 (by omega)]
theorem s7_dfd {L : Int32 → Int32} {S : Int32 → Nat} (hL : LZ L S) {D : Nat} {fed z : Int32} {P : Int32 → Int32 → Int32 → Prop} (h : P (nI (lzD L S D z)) (nI (lzF L S z)) (L (L z))) : wp_X5_drawFedAndDoor (nI D) fed z P := by
  unfold wp_X5_drawFedAndDoor
  refine s7_draw hL (s7_draw hL ?_)
  have b1 := hL.2.2 (L z)
  have b2 := hL.2.2 (L (L z))
  have e1 : vrem (nI (S (L z))) (40 : Int32) = nI (lzF L S z) := vrem_nI (b := 40) (Nat.lt_trans b1 (by omega)) (by omega) (by omega)
  rw [e1]
  unfold lzD at h
  refine ⟨fun q => ?_, fun q => ?_⟩
  · have q' := (rem4 _ b2).mp q
    rw [if_pos q'] at h
    rw [dbit _ b2, nI_xor]
    exact h
  · have q' : ¬ S (L (L z)) % 4 = 0 := fun w => q ((rem4 _ b2).mpr w)
    rw [if_neg q'] at h
    exact h
/-! PURE 29: the step loose -/
theorem s7_looseLoop {L : Int32 → Int32} {S : Int32 → Nat} (hL : LZ L S) {n : Nat} {t : TT} {z0 : Int32} (hI : TI t) (hn : n ≤ 40) (ho : t.2.1.2.2.2.2.1 + n ≤ 9999) {houses wuse guse wm gm : Int32} {km cell wn gn : Nat → Int32} (hw : wuse = 0) (hg : guse = 1) (errors : Nat → Int32) (post : _)
    (hp : ∀ (o1 o2 o3 o4 o5 o7 : Int32) (r1 r4 r5 r6 r7 : Nat → Int32), TC o1 o2 o3 o4 o5 houses o7 r1 km cell r4 wm gm wn gn (lzN L S (t, z0) n).1 → post (smI (fun c => nI ((lzN L S (t, z0) n).1.2.1.1 c)) 16) o1 o2 o3 o4 o5 o7 (lzN L S (t, z0) n).2 errors r1 r4 r5 r6 r7) :
    ∀ k i, i + k = n → ∀ (o1 o2 o3 o4 o5 o7 o8 : Int32) (r1 r4 r5 r6 r7 : Nat → Int32), TC o1 o2 o3 o4 o5 houses o7 r1 km cell r4 wm gm wn gn (lzN L S (t, z0) i).1 → o8 = (lzN L S (t, z0) i).2 → wp_X7_loose_b39 (nI n) houses km cell wuse guse wm gm wn gn post (k + 1) (nI i) o1 o2 o3 o4 o5 o7 o8 errors r1 r4 r5 r6 r7 := by
  intro k
  induction k with
  | zero =>
    intro i hi o1 o2 o3 o4 o5 o7 o8 r1 r4 r5 r6 r7 hT hz
    have e : i = n := by omega
    subst e hz
    exact br_t (nI_le (Nat.le_refl _) (by omega)) (s7_heatOfAll hT.2.2.2.2.2.2.2.1 (hp o1 o2 o3 o4 o5 o7 r1 r4 r5 r6 r7 hT))
  | succ k ih =>
    intro i hi o1 o2 o3 o4 o5 o7 o8 r1 r4 r5 r6 r7 hT hz
    subst hz
    have hIi := TI_N (L := L) (S := S) (s := (t, z0)) hI i
    have hoi := lzN_o (L := L) (S := S) (s := (t, z0)) i
    have st : lzN L S (t, z0) (i + 1) = lzT L S (lzN L S (t, z0) i) := rfl
    have nx : ∀ (o1 o2 o3 o4 o5 o7 : Int32) (r1 r4 r5 r6 r7 : Nat → Int32), TC o1 o2 o3 o4 o5 houses o7 r1 km cell r4 wm gm wn gn (lzT L S (lzN L S (t, z0) i)).1 → wp_X7_loose_b39 (nI n) houses km cell wuse guse wm gm wn gn post (k + 1) (nI i + 1) o1 o2 o3 o4 o5 o7 (lzT L S (lzN L S (t, z0) i)).2 errors r1 r4 r5 r6 r7 := fun o1 o2 o3 o4 o5 o7 r1 r4 r5 r6 r7 h => by
      rw [nI_1]
      rw [← st] at h ⊢
      exact ih (i + 1) (by omega) o1 o2 o3 o4 o5 o7 _ r1 r4 r5 r6 r7 h rfl
    generalize lzN L S (t, z0) i = s at hT hIi hoi nx
    obtain ⟨e1, e2, e3, e4, e5, e6, e7', e8', e9, e10⟩ := hT
    refine br_f (nI_ge (by omega) (by omega)) ?_
    rw [e1]
    refine s7_dfd hL ?_
    have hIG := TI_DF hIi (lzD_lt (L := L) (S := S) hIi.1.1 s.2) (lzF_le (L := L) (S := S) s.2)
    have e0 : lzT L S s = (tH (tDF s.1 (lzD L S s.1.1.1 s.2) (lzF L S s.2)) 1, L (L s.2)) := rfl
    rw [e0] at nx
    generalize L (L s.2) = z2 at nx ⊢
    generalize lzD L S s.1.1.1 s.2 = D at nx hIG ⊢
    generalize lzF L S s.2 = F at nx hIG ⊢
    have ho2 : s.1.2.1.2.2.2.2.1 + 1 ≤ 20000 := by rw [hoi]; show t.2.1.2.2.2.2.1 + i + 1 ≤ 20000; omega
    exact s5_passT (n := 1) (t := tDF s.1 D F) hIG ⟨rfl, rfl, e3, e4, e5, e6, e7', e8', e9, e10⟩ hw hg (by omega) ho2 (fun _ _ _ _ _ _ _ _ _ h' => nx _ _ _ _ _ _ _ _ _ _ _ h')
/-- what loose hours leave alone in the reference's town -/
def kq (d0 d : Nat → Int32) : Prop := d 6 = d0 6 ∧ d 7 = d0 7 ∧ ∀ i, 57 ≤ i → d i = d0 i
theorem TM_kq {d d' : Nat → Int32} {t : TT} {z : hZ} {y : hY} (h : TM d t) (k : kq d d') (hr : RD d' z y) : TM d' (z, y, t.2.2) := ⟨hr, (k.2.2 _ (by omega)).trans h.2.1, (k.2.2 _ (by omega)).trans h.2.2.1, fun i hi => (k.2.2 _ (by omega)).trans (h.2.2.2.1 i hi), fun i hi => (k.2.2 _ (by omega)).trans (h.2.2.2.2 i hi)⟩
theorem kq_up {d : Nat → Int32} {k : Nat} {x : Int32} (h1 : k < 57) (h3 : k ≠ 6) (h4 : k ≠ 7) : kq d (upd d k x) := ⟨by unfold upd; rw [if_neg (by omega)], by unfold upd; rw [if_neg (by omega)], fun i hi => by unfold upd; rw [if_neg (by omega)]⟩
theorem kq_tr {d0 d1 d2 : Nat → Int32} (h1 : kq d0 d1) (h2 : kq d1 d2) : kq d0 d2 := ⟨h2.1.trans h1.1, h2.2.1.trans h1.2.1, fun i hi => (h2.2.2 i hi).trans (h1.2.2 i hi)⟩
theorem s8_draw {L : Int32 → Int32} {S : Int32 → Nat} (hL : LZ L S) {d : Nat → Int32} {z : Int32} (e : d 5 = z) {P : Int32 → (Nat → Int32) → Prop} (h : P (nI (S (L z))) (upd d 5 (L z))) : wp_X8_drawn d P := by
  unfold wp_X8_drawn
  rw [kc5, e, show upd d 5 ((z * (1103515245 : Int32)) + (12345 : Int32)) 5 = (z * (1103515245 : Int32)) + (12345 : Int32) from by unfold upd; rw [if_pos rfl], hL.1 z, hL.2.1 (L z)]
  exact h
theorem upd_ne {d : Nat → Int32} {k j : Nat} {x : Int32} (h : j ≠ k) : upd d k x j = d j := by unfold upd; rw [if_neg h]
theorem upd_eq {d : Nat → Int32} {k : Nat} {x : Int32} : upd d k x k = x := by unfold upd; rw [if_pos rfl]
theorem s8_looseLoop {L : Int32 → Int32} {S : Int32 → Nat} (hL : LZ L S) {n : Nat} {t : TT} {z0 : Int32} (hI : TI t) (hn : n ≤ 40) (ho : t.2.1.2.2.2.2.1 + n ≤ 9999) {d0 : Nat → Int32} (found : Nat → Int32) (post : _)
    (hp : ∀ (ct : Nat) (d na pi fl : Nat → Int32), ct < 256 → TM d (lzN L S (t, z0) n).1 → d 5 = (lzN L S (t, z0) n).2 → kq d0 d → post (smI (fun c => nI ((lzN L S (t, z0) n).1.2.1.1 c)) 16) (nI ct) d found na pi fl) :
    ∀ k i, i + k = n → ∀ (ct : Nat) (d na pi fl : Nat → Int32), ct < 256 → TM d (lzN L S (t, z0) i).1 → d 5 = (lzN L S (t, z0) i).2 → kq d0 d → wp_X8_loose_b40 (nI n) post (k + 1) (nI i) (nI ct) d found na pi fl := by
  intro k
  induction k with
  | zero =>
    intro i hi ct d na pi fl hct hT hz hk
    have e : i = n := by omega
    subst e
    exact br_t (nI_le (Nat.le_refl _) (by omega)) (s8_allHeat hT.1.2.2.2.2.2.2.1 (hp ct d na pi fl hct hT hz hk))
  | succ k ih =>
    intro i hi ct d na pi fl hct hT hz hk
    have hIi := TI_N (L := L) (S := S) (s := (t, z0)) hI i
    have hoi := lzN_o (L := L) (S := S) (s := (t, z0)) i
    have st : lzN L S (t, z0) (i + 1) = lzT L S (lzN L S (t, z0) i) := rfl
    have nx : ∀ (ct : Nat) (d na pi fl : Nat → Int32), ct < 256 → TM d (lzT L S (lzN L S (t, z0) i)).1 → d 5 = (lzT L S (lzN L S (t, z0) i)).2 → kq d0 d → wp_X8_loose_b40 (nI n) post (k + 1) (nI i + 1) (nI ct) d found na pi fl := fun ct d na pi fl h1 h2 h3 h4 => by
      rw [nI_1]
      rw [← st] at h2 h3
      exact ih (i + 1) (by omega) ct d na pi fl h1 h2 h3 h4
    generalize lzN L S (t, z0) i = s at hT hIi hoi nx hz
    refine br_f (nI_ge (by omega) (by omega)) (s8_draw hL hz (s8_draw hL (z := L s.2) ?_ ?_))
    · rw [kc2, upd_ne (by omega), upd_eq]
    have b2 := hL.2.2 (L (L s.2))
    have e1 : vrem (nI (S (L s.2))) (40 : Int32) = nI (lzF L S s.2) := vrem_nI (b := 40) (Nat.lt_trans (hL.2.2 _) (by omega)) (by omega) (by omega)
    have hIG := TI_DF hIi (lzD_lt (L := L) (S := S) hIi.1.1 s.2) (lzF_le (L := L) (S := S) s.2)
    have e0 : lzT L S s = (tH (tDF s.1 (lzD L S s.1.1.1 s.2) (lzF L S s.2)) 1, L (L s.2)) := rfl
    have ho2 : s.1.2.1.2.2.2.2.1 < 20000 := by rw [hoi]; show t.2.1.2.2.2.2.1 + i < 20000; omega
    rw [e0] at nx
    rw [e1, kc2, kc8]
    have q1 : kq d (upd d 5 (L s.2)) := kq_up (by omega) (by omega) (by omega)
    have q2 := kq_tr q1 (kq_up (k := 2) (x := nI (lzF L S s.2)) (by omega) (by omega) (by omega))
    have q3 := kq_tr q2 (kq_up (k := 5) (x := L (L s.2)) (by omega) (by omega) (by omega))
    have rr : RD (upd (upd (upd d 5 (L s.2)) 2 (nI (lzF L S s.2))) 5 (L (L s.2))) (s.1.1.1, lzF L S s.2, s.1.1.2.2) s.1.2.1 := RD_ag (RD_2 (RD_ag hT.1 (d' := upd d 5 (L s.2)) (fun j _ h5 _ _ => upd_ne h5)) (lzF L S s.2)) (fun j _ h5 _ _ => upd_ne h5)
    have z5 : upd (upd (upd d 5 (L s.2)) 2 (nI (lzF L S s.2))) 5 (L (L s.2)) 5 = L (L s.2) := upd_eq
    have z8 : upd (upd (upd d 5 (L s.2)) 2 (nI (lzF L S s.2))) 5 (L (L s.2)) 8 = nI s.1.1.1 := rr.2.2.2.2.2.1
    generalize upd (upd (upd d 5 (L s.2)) 2 (nI (lzF L S s.2))) 5 (L (L s.2)) = d3 at q3 rr z5 z8 ⊢
    have lD : lzD L S s.1.1.1 s.2 = if S (L (L s.2)) % 4 = 0 then s.1.1.1 ^^^ 2 ^ (S (L (L s.2)) / 8 % 12) else s.1.1.1 := rfl
    generalize L (L s.2) = z2 at nx b2 z5 lD ⊢
    generalize lzF L S s.2 = F at nx hIG rr ⊢
    have go : ∀ (d4 : Nat → Int32), TM d4 (tDF s.1 (lzD L S s.1.1.1 s.2) F) → d4 5 = z2 → kq d d4 → wp_X8_hourGoes (nI ct) d4 na pi fl (fun c d' na' pi' fl' => wp_X8_loose_b40 (nI n) post (k + 1) (nI i + 1) c d' found na' pi' fl') := fun d4 g1 g2 g3 =>
      s8_hourT hIG g1 ho2 (fun d' na' pi' fl' hd' k2 => nx _ d' na' pi' fl' ((TI_H hIG 1).2.1.2.2.2.2) hd' (k2.1.trans g2) (kq_tr hk (kq_tr g3 ⟨k2.2.1, k2.2.2.1, k2.2.2.2⟩)))
    refine ⟨fun q => ?_, fun q => ?_⟩
    · have q' := (rem4 _ b2).mp q
      rw [if_pos q'] at lD
      rw [z8, dbit _ b2, nI_xor, ← lD]
      refine go _ ?_ ((upd_ne (by omega)).trans z5) (kq_tr q3 (kq_up (by omega) (by omega) (by omega)))
      exact TM_kq (t := s.1) hT (kq_tr q3 (kq_up (by omega) (by omega) (by omega))) (RD_8 rr _)
    · have q' : ¬ S z2 % 4 = 0 := fun w => q ((rem4 _ b2).mpr w)
      rw [if_neg q'] at lD
      refine go _ ?_ z5 q3
      rw [lD]
      exact TM_kq (t := s.1) hT q3 rr
theorem st_loose : ST_loose Rel := by
  intro cs ms h a1
  obtain ⟨hT, hK, hC, hE, hV, s0, s1, s2, s3⟩ := id h
  have er := er_up hE (k := 1) (by omega)
  have er3 := er_up hE (k := 3) (by omega)
  obtain ⟨t, a, b, i1, i2, i3, i4, i5, i6, i7⟩ := id hT
  obtain ⟨f1, f2, f3, f4, f5, f6, f7, f8, f9⟩ := id i3
  obtain ⟨ct, bc, hct⟩ := id hC
  obtain ⟨L, S, hL⟩ := LZ_is
  by_cases g1 : 1 ≤ a1 ∧ a1 ≤ 40
  · obtain ⟨n, n1, hn, rfl⟩ := rg1 (l := 1) (m := 40) (by omega) (by omega) g1
    refine w7t g1 (yes ?_)
    by_cases g : t.2.1.2.2.2.2.1 + n ≤ 9999
    · refine br_t (by rw [f5, nI_add]; exact nI_le (b := 9999) g (by omega)) ⟨n + 1, s7_looseLoop hL (z0 := (ms.2.1 0) 5) i1 hn g i5.1 i5.2.1 _ _ (fun o1 o2 o3 o4 o5 o7 r1 r4 r5 r6 r7 hC' => ?_) n 0 (by omega) _ _ _ _ _ _ _ _ _ _ _ _ i3 i5.2.2⟩
      refine w8t 1 40 g1 (yes (br_t ?_ ⟨n + 1, ?_⟩))
      · rw [k1c, i4.1.2.1, nI_add]; exact nI_le (b := 9999) g (by omega)
      · rw [hct]
        refine s8_looseLoop hL (z0 := (ms.2.1 0) 5) (d0 := (ms.2.1 0)) i1 hn g _ _ (fun c' d' na pi fl hc' hd' hz' k2 => ⟨rfl, ⟨(lzN L S (t, (ms.2.1 0) 5) n).1, a, b, TI_N (L := L) (S := S) (s := (t, (ms.2.1 0) 5)) i1 n, ?_, hC', hd', ⟨i5.1, i5.2.1, hz'.symm⟩, ⟨i6.1, i6.2.1, k2.1.trans i6.2.2.1, fun i hi => ⟨(i6.2.2.2 i hi).1.trans (k2.2.2 _ (by omega)).symm, ?_⟩⟩, ⟨i7.1, i7.2.1, k2.2.1.trans i7.2.2.1, fun i hi => (i7.2.2.2 i hi).trans (k2.2.2 _ (by omega)).symm⟩⟩, hK, ⟨c', hc', rfl⟩, hE, hV, s0, s1, s2, s3⟩) n 0 (by omega) ct _ _ _ _ bc i4 rfl ⟨rfl, rfl, fun _ _ => rfl⟩
        · rw [lzN_o]; exact g
        · obtain ⟨v, p1, p2⟩ := (i6.2.2.2 i hi).2
          exact ⟨v, p1, (k2.2.2 _ (by omega)).trans p2⟩
    · refine br_f (fun z => g ?_) (e7 3 (by omega) (w8t 1 40 g1 (yes (br_f (fun z => g ?_) (e8 3 (by omega) ⟨rfl, hT, hK, hC, er3, hV, s0, s1, s2, s3⟩)))))
      · rw [f5, nI_add] at z; exact (nI_leI (b := 9999) (by omega) (by omega)).mp z
      · rw [k1c, i4.1.2.1, nI_add] at z; exact (nI_leI (b := 9999) (by omega) (by omega)).mp z
  · exact w7f g1 (no (e7 1 (by omega) (w8f 1 40 g1 (no (e8 1 (by omega) ⟨rfl, hT, hK, hC, er, hV, s0, s1, s2, s3⟩)))))
