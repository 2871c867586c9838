/-! PURE 2: numbers -/
theorem vmn_nI {a b : Nat} (ha : a < 2 ^ 31) (hb : b < 2 ^ 31) : vmn (nI a) (nI b) = nI (min a b) := by
  unfold vmn
  by_cases h : b < a
  · rw [if_pos (nI_lt h ha), Nat.min_eq_right (by omega)]
  · rw [if_neg (nI_nlt (by omega) hb), Nat.min_eq_left (by omega)]
theorem vmx_nI {a b : Nat} (ha : a < 2 ^ 31) (hb : b < 2 ^ 31) : vmx (nI a) (nI b) = nI (max a b) := by
  unfold vmx
  by_cases h : a < b
  · rw [if_pos (nI_lt h hb), Nat.max_eq_right (by omega)]
  · rw [if_neg (nI_nlt (by omega) ha), Nat.max_eq_left (by omega)]
theorem vrem_nI {a b : Nat} (ha : a < 2 ^ 31) (h0 : 0 < b) (hb : b < 2 ^ 31) : vrem (nI a) (nI b) = nI (a % b) := pk_rem ha h0 hb
theorem nI_subI {a b : Nat} (ha : a < 2 ^ 30) (hb : b < 2 ^ 30) : (nI a - nI b).toInt = (a : Int) - b := pk_sub_toInt ha hb
theorem nI_leT {x y : Int32} : x ≤ y ↔ x.toInt ≤ y.toInt := Int32.le_iff_toInt_le
theorem nI_ltT {x y : Int32} : x < y ↔ x.toInt < y.toInt := Int32.lt_iff_toInt_lt
theorem z_T : (0 : Int32).toInt = 0 := by decide +kernel
theorem nI_sub_le0 {a b : Nat} (ha : a < 2 ^ 30) (hb : b < 2 ^ 30) : nI a - nI b ≤ 0 ↔ a ≤ b := by
  rw [nI_leT, nI_subI ha hb, z_T]; omega
theorem vclamp {a b m : Nat} (ha : a < 2 ^ 30) (hb : b < 2 ^ 30) (hm : m < 2 ^ 30) : vmx (0 : Int32) (vmn (nI a - nI b) (nI m)) = nI (min (a - b) m) := by
  by_cases h : b ≤ a
  · rw [pk_sub h, vmn_nI (by omega) (by omega), show (0 : Int32) = nI 0 from rfl, vmx_nI (by omega) (by omega), Nat.max_eq_right (by omega)]
  · have e : (nI a - nI b) < 0 := pk_sneg hb (by omega)
    unfold vmn
    rw [if_neg (fun q => ?_)]
    · unfold vmx
      rw [if_neg (fun q => ?_)]
      · rw [Nat.sub_eq_zero_of_le (by omega)]; simp [nI_0]
      · rw [nI_ltT] at q e; rw [z_T] at q e; omega
    · rw [nI_ltT] at q e; rw [z_T] at e; rw [nI_toInt (by omega)] at q; omega
theorem nI_or (a b : Nat) : nI a ||| nI b = nI (a ||| b) := by
  apply Int32.toBitVec_inj.mp
  show BitVec.ofNat 32 a ||| BitVec.ofNat 32 b = BitVec.ofNat 32 (a ||| b)
  apply BitVec.eq_of_toNat_eq
  simp [BitVec.toNat_or, Nat.or_mod_two_pow]
theorem nI_and (a b : Nat) : nI a &&& nI b = nI (a &&& b) := by
  apply Int32.toBitVec_inj.mp
  show BitVec.ofNat 32 a &&& BitVec.ofNat 32 b = BitVec.ofNat 32 (a &&& b)
  apply BitVec.eq_of_toNat_eq
  simp [BitVec.toNat_and, Nat.and_mod_two_pow]
theorem nI_xor (a b : Nat) : nI a ^^^ nI b = nI (a ^^^ b) := by
  apply Int32.toBitVec_inj.mp
  show BitVec.ofNat 32 a ^^^ BitVec.ofNat 32 b = BitVec.ofNat 32 (a ^^^ b)
  apply BitVec.eq_of_toNat_eq
  simp [BitVec.toNat_xor, Nat.xor_mod_two_pow]
theorem sh31 (i : Nat) (h : i < 32) : ((nI i &&& 31).toBitVec.smod 32).toNat = i := by
  have : ∀ i, i < 32 → ((nI i &&& 31).toBitVec.smod 32).toNat = i := by decide +kernel
  exact this i h
theorem nI_shr {a i : Nat} (ha : a < 2 ^ 31) (hi : i < 32) : nI a >>> (nI i &&& 31) = nI (a / 2 ^ i) := pk_shrN ha _ _ (sh31 i hi)
theorem nI_shl1 {i : Nat} (hi : i < 31) : (1 : Int32) <<< (nI i &&& 31) = nI (2 ^ i) := by
  have : ∀ i, i < 31 → (1 : Int32) <<< (nI i &&& 31) = nI (2 ^ i) := by decide +kernel
  exact this i hi
theorem nI_bit {D i : Nat} (hD : D < 2 ^ 31) (hi : i < 32) : ((nI D >>> (nI i &&& 31)) &&& (1 : Int32)) = nI (D / 2 ^ i % 2) := by
  rw [nI_shr hD hi]
  exact pk_andN (by have := Nat.div_le_self D (2 ^ i); omega) 1 (by decide +kernel)
theorem nI_bit1 {D i : Nat} (hD : D < 2 ^ 31) (hi : i < 32) : ((nI D >>> (nI i &&& 31)) &&& (1 : Int32)) = 1 ↔ D.testBit i = true := by
  rw [nI_bit hD hi, show (1 : Int32) = nI 1 from rfl, nI_eq (by omega) (by omega), Nat.testBit_eq_decide_div_mod_eq]
  simp
/-- a loop that counts up, over any state -/
theorem lpU {σ : Type} (W : Nat → Int32 → σ → Prop) (I : Nat → σ → Prop) (e i0 : Nat) (s : σ) (hi : i0 ≤ e) (h0 : I i0 s) (hx : ∀ n s, I e s → W (n + 1) (nI e) s) (hs : ∀ n i s, i < e → I i s → (∀ s', I (i + 1) s' → W n (nI i + 1) s') → W (n + 1) (nI i) s) : ∃ n, W n (nI i0) s :=
  pk_loop (fun n i s => W n (nI i) s) I e i0 s hi h0 hx (fun n i s h1 h2 h3 => hs n i s h1 h2 (fun s' h => by rw [nI_1]; exact h3 s' h))
/-- the least that is needed of an index -/
theorem ix {i N : Nat} (h : i < N) (hN : N < 2 ^ 31) : vp_in (nI i) N := vp_in_nI h hN
theorem ix4 {i N : Nat} (h : i + 4 < N) (hN : N < 2 ^ 31) : vp_in (nI i + (4 : Int32)) N := by
  rw [show (4 : Int32) = nI 4 from rfl, nI_add]; exact vp_in_nI h hN
theorem cl4 {i : Nat} (h : i + 4 < 2 ^ 31) : (nI i + (4 : Int32)).toNatClampNeg = i + 4 := by
  rw [show (4 : Int32) = nI 4 from rfl, nI_add]; exact nI_clamp h
