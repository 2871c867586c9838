/-! PURE 28: hours let loose -/
def shN (z : Int32) : Nat := (z.toUInt32 >>> ((8 : Int32).toUInt32 &&& Int32.toUInt32 31)).toNat
theorem sh_eq (z : Int32) : (z.toUInt32 >>> ((8 : Int32).toUInt32 &&& Int32.toUInt32 31)).toInt32 = nI (shN z) := by
  unfold shN
  generalize (z.toUInt32 >>> ((8 : Int32).toUInt32 &&& Int32.toUInt32 31)) = v
  apply Int32.toBitVec_inj.mp
  show v.toBitVec = BitVec.ofNat 32 v.toBitVec.toNat
  apply BitVec.eq_of_toNat_eq
  rw [BitVec.toNat_ofNat, Nat.mod_eq_of_lt v.toBitVec.isLt]
theorem shN_lt (z : Int32) : shN z < 2 ^ 24 := by
  unfold shN
  rw [UInt32.toNat_shiftRight, show ((8 : Int32).toUInt32 &&& Int32.toUInt32 31).toNat % 32 = 8 from by decide +kernel, Nat.shiftRight_eq_div_pow]
  have := z.toUInt32.toNat_lt
  omega
def lcg (z : Int32) : Int32 := (z * (1103515245 : Int32)) + (12345 : Int32)
def lzF (z : Int32) : Nat := shN (lcg z) % 40
def lzD (D : Nat) (z : Int32) : Nat := if shN (lcg (lcg z)) % 4 = 0 then D ^^^ 2 ^ (shN (lcg (lcg z)) / 8 % 12) else D
theorem lzD_lt {D : Nat} (h : D < 4096) (z : Int32) : lzD D z < 4096 := by
  unfold lzD
  split
  · exact xor_lt h (pow12 (by omega))
  · exact h
/-- a town with other doors and other fuel; the numbers that are drawn stay behind names -/
def tDF (t : TT) (D f : Nat) : TT := ((D, f, t.1.2.2), t.2)
theorem TI_DF {t : TT} (h : TI t) {D f : Nat} (hD : D < 4096) (hf : f ≤ 99) : TI (tDF t D f) := ⟨⟨hD, hf, h.1.2.2⟩, h.2⟩
theorem tDF_o {t : TT} {D f : Nat} : (tH (tDF t D f) 1).2.1.2.2.2.2.1 = t.2.1.2.2.2.2.1 + 1 := tH_o 1
theorem lzF_le (z : Int32) : lzF z ≤ 99 := by
  unfold lzF
  generalize shN (lcg z) = k
  omega
def lzT (s : TT × Int32) : TT × Int32 := (tH (tDF s.1 (lzD s.1.1.1 s.2) (lzF s.2)) 1, lcg (lcg s.2))
def lzN (s : TT × Int32) : Nat → TT × Int32
  | 0 => s
  | n + 1 => lzT (lzN s n)
theorem lzT_I {s : TT × Int32} (h : TI s.1) : TI (lzT s).1 := TI_H (TI_DF h (lzD_lt h.1.1 s.2) (lzF_le s.2)) 1
theorem TI_N {s : TT × Int32} (h : TI s.1) (n : Nat) : TI (lzN s n).1 := by
  induction n with
  | zero => exact h
  | succ n ih => exact lzT_I ih
theorem lzT_o (s : TT × Int32) : (lzT s).1.2.1.2.2.2.2.1 = s.1.2.1.2.2.2.2.1 + 1 := tDF_o
theorem lzN_o {s : TT × Int32} (n : Nat) : (lzN s n).1.2.1.2.2.2.2.1 = s.1.2.1.2.2.2.2.1 + n := by
  induction n with
  | zero => rfl
  | succ n ih =>
    have e := lzT_o (lzN s n)
    rw [ih] at e
    exact e
theorem s7_draw {z : Int32} {P : Int32 → Int32 → Prop} (h : P (nI (shN (lcg z))) (lcg z)) : wp_X5_draw z P := by
  unfold wp_X5_draw
  rw [sh_eq]
  exact h
theorem rem4 (r : Nat) (h : r < 2 ^ 24) : (vrem (nI r) (4 : Int32) = 0) ↔ r % 4 = 0 := by
  rw [show vrem (nI r) (4 : Int32) = nI (r % 4) from vrem_nI (b := 4) (by omega) (by omega) (by omega)]
  exact nI_eq (a := r % 4) (b := 0) (by omega) (by omega)
theorem dbit (r : Nat) (h : r < 2 ^ 24) : ((1 : Int32) <<< ((vrem (nI r / (8 : Int32)) (12 : Int32)) &&& 31)) = nI (2 ^ (r / 8 % 12)) := by
  rw [show nI r / (8 : Int32) = nI (r / 8) from pk_div (d := 8) (by omega) (by omega) (by omega), show vrem (nI (r / 8)) (12 : Int32) = nI (r / 8 % 12) from vrem_nI (b := 12) (by omega) (by omega) (by omega), nI_shl1 (by omega)]
theorem s7_dfd {D : Nat} {fed z : Int32} {P : Int32 → Int32 → Int32 → Prop} (h : P (nI (lzD D z)) (nI (lzF z)) (lcg (lcg z))) : wp_X5_drawFedAndDoor (nI D) fed z P := by
  unfold wp_X5_drawFedAndDoor
  refine s7_draw (s7_draw ?_)
  have b1 := shN_lt (lcg z)
  have b2 := shN_lt (lcg (lcg z))
  have e1 : vrem (nI (shN (lcg z))) (40 : Int32) = nI (lzF z) := vrem_nI (b := 40) (Nat.lt_trans b1 (by omega)) (by omega) (by omega)
  rw [e1]
  unfold lzD at h
  refine ⟨fun q => ?_, fun q => ?_⟩
  · have q' := (rem4 _ b2).mp q
    rw [if_pos q'] at h
    rw [dbit _ b2, nI_xor]
    exact h
  · have q' : ¬ shN (lcg (lcg z)) % 4 = 0 := fun w => q ((rem4 _ b2).mpr w)
    rw [if_neg q'] at h
    exact h
