/-! PURE 38: voices of the class -/
abbrev TrS : Type := Nat × (Nat → Int32)
def tA (T : TrS) (b : Int32) : TrS := if T.1 < 40 then (T.1 + 1, upd T.2 T.1 b) else T
def tE (T : TrS) (nums : Nat → Int32) : Prop := ∀ i, i < T.1 → nums i = T.2 i
theorem tA_le {T : TrS} (h : T.1 ≤ 40) (b : Int32) : (tA T b).1 ≤ 40 := by
  unfold tA
  split
  · show T.1 + 1 ≤ 40; omega
  · exact h
theorem tE_up {T : TrS} {nums : Nat → Int32} (e : tE T nums) (b : Int32) (h : T.1 < 40) : tE (T.1 + 1, upd T.2 T.1 b) (upd nums T.1 b) := fun i hi => by
  show upd _ _ _ i = upd _ _ _ i
  unfold upd
  by_cases w : i = T.1
  · rw [if_pos w, if_pos w]
  · rw [if_neg w, if_neg w]
    exact e i (by have : i < T.1 + 1 := hi; omega)
theorem p3_tA {T : TrS} (hT : T.1 ≤ 40) {nums : Nat → Int32} (e : tE T nums) {b : Int32} {P : Int32 → Int32 → (Nat → Int32) → Prop} (h : ∀ (r : Int32) (nums' : Nat → Int32), tE (tA T b) nums' → P r (nI (tA T b).1) nums') : wp_X3_add 40 b (nI T.1) nums P := by
  by_cases w : T.1 < 40
  · have ea : tA T b = (T.1 + 1, upd T.2 T.1 b) := by unfold tA; rw [if_pos w]
    rw [ea] at h
    exact p3_add (by omega) w (h _ _ (tE_up e b w))
  · have ea : tA T b = T := by unfold tA; rw [if_neg w]
    rw [ea] at h
    exact br_f (nI_pos (by omega)) (br_f (nI_nlt (b := 40) (by omega) (by omega)) (h _ _ e))
theorem s8_ran {T : TrS} (hT : T.1 ≤ 40) {nums : Nat → Int32} (e : tE T nums) {b : Int32} {P : Int32 → (Nat → Int32) → Prop} (h : ∀ nums' : Nat → Int32, tE (tA T b) nums' → P (nI (tA T b).1) nums') : wp_X8_ran b (nI T.1) nums P := by
  by_cases w : T.1 < 40
  · have ea : tA T b = (T.1 + 1, upd T.2 T.1 b) := by unfold tA; rw [if_pos w]
    rw [ea] at h
    refine br_f (nI_ge (b := 40) w (by omega)) ⟨ix w (by omega), ?_⟩
    rw [nI_clamp (n := T.1) (by omega), nI_1]
    exact h _ (tE_up e b w)
  · have ea : tA T b = T := by unfold tA; rw [if_neg w]
    rw [ea] at h
    exact br_t (nI_le (a := 40) (by omega) (by omega)) (h _ e)
def zG (hh : Int32) (fr : Nat) (x : Int32) (T : TrS) : Int32 × TrS := if fr = 1 ∨ fr = 4 then ((x + hh) * 3, tA (tA T 20) 10) else (x + hh, tA T 10)
def zS (hh mm : Int32) (fr : Nat) (x : Int32) (T : TrS) : Int32 × TrS := if fr = 3 then (-(x - mm), tA (tA T 40) 12) else if fr = 6 then ((-(x - mm)) ^^^ hh, tA (tA (tA T 70) 40) 12) else (x - mm, tA T 12)
def zO0 (hh : Int32) (k : Nat) (x : Int32) (T : TrS) : Int32 × TrS := ((zG hh k x (tA T 11)).1 * 2, (zG hh k x (tA T 11)).2)
def zO2 (hh mm : Int32) (k : Nat) (x : Int32) (T : TrS) : Int32 × TrS := ((zO0 hh k x (tA T 30)).1 - (zS hh mm k 1 (zO0 hh k x (tA T 30)).2).1, (zS hh mm k 1 (zO0 hh k x (tA T 30)).2).2)
def zO (hh mm : Int32) (k fr : Nat) (x : Int32) (T : TrS) : Int32 × TrS := if fr = 2 then zO2 hh mm k x T else if fr = 5 then zO2 hh mm k (x + 1) (tA T 60) else zO0 hh k x T
def zE0 (hh mm : Int32) (k : Nat) (x : Int32) (T : TrS) : Int32 × TrS := ((zO hh mm k k x (tA T 13)).1 ^^^ (zS hh mm k x (zO hh mm k k x (tA T 13)).2).1, (zS hh mm k x (zO hh mm k k x (tA T 13)).2).2)
def zE (hh mm : Int32) (k fr : Nat) (x : Int32) (T : TrS) : Int32 × TrS :=
  if fr = 4 then ((zE0 hh mm k x (tA T 50)).1 - (zG hh k 2 (zE0 hh mm k x (tA T 50)).2).1, (zG hh k 2 (zE0 hh mm k x (tA T 50)).2).2)
  else if fr = 6 then ((zO hh mm k k x (tA T 71)).1 - (zE0 hh mm k x (zO hh mm k k x (tA T 71)).2).1, (zE0 hh mm k x (zO hh mm k k x (tA T 71)).2).2)
  else zE0 hh mm k x T
theorem zG_le {hh : Int32} {fr : Nat} {x : Int32} {T : TrS} (h : T.1 ≤ 40) : (zG hh fr x T).2.1 ≤ 40 := by
  unfold zG
  split
  · exact tA_le (tA_le h _) _
  · exact tA_le h _
theorem zS_le {hh mm : Int32} {fr : Nat} {x : Int32} {T : TrS} (h : T.1 ≤ 40) : (zS hh mm fr x T).2.1 ≤ 40 := by
  unfold zS
  split
  · exact tA_le (tA_le h _) _
  · split
    · exact tA_le (tA_le (tA_le h _) _) _
    · exact tA_le h _
theorem zO0_le {hh : Int32} {k : Nat} {x : Int32} {T : TrS} (h : T.1 ≤ 40) : (zO0 hh k x T).2.1 ≤ 40 := zG_le (tA_le h _)
theorem zO2_le {hh mm : Int32} {k : Nat} {x : Int32} {T : TrS} (h : T.1 ≤ 40) : (zO2 hh mm k x T).2.1 ≤ 40 := zS_le (zO0_le (tA_le h _))
theorem zO_le {hh mm : Int32} {k fr : Nat} {x : Int32} {T : TrS} (h : T.1 ≤ 40) : (zO hh mm k fr x T).2.1 ≤ 40 := by
  unfold zO
  split
  · exact zO2_le h
  · split
    · exact zO2_le (tA_le h _)
    · exact zO0_le h
theorem zE0_le {hh mm : Int32} {k : Nat} {x : Int32} {T : TrS} (h : T.1 ≤ 40) : (zE0 hh mm k x T).2.1 ≤ 40 := zS_le (zO_le (tA_le h _))
theorem zE_le {hh mm : Int32} {k fr : Nat} {x : Int32} {T : TrS} (h : T.1 ≤ 40) : (zE hh mm k fr x T).2.1 ≤ 40 := by
  unfold zE
  split
  · exact zG_le (zE0_le (tA_le h _))
  · split
    · exact zE0_le (zO_le (tA_le h _))
    · exact zE0_le h
def bdv : Nat → Nat → Nat → Int32
  | 0, fr, act => vBodies (fr * 4 + act)
  | n + 1, fr, act => if vBodies (fr * 4 + act) = 0 then bdv n (abv fr) act else vBodies (fr * 4 + act)
theorem p6_bodyL {act : Nat} (ha : act ≤ 3) {P : Int32 → Prop} : ∀ n fr j : Nat, fr ≤ 6 → (fr = 0 ∨ (1 ≤ n ∧ fr ≤ 3) ∨ 2 ≤ n) → j + n + 2 ≤ 28 → P (bdv n fr act) → wp_X6_bodyOf_b7 (nI act) P (n + 2) (nI fr) (0 : Int32) (nI j) := by
  have pl : ∀ fr : Nat, (nI fr * (4 : Int32)) + nI act = nI (fr * 4 + act) := fun fr => by rw [show nI fr * (4 : Int32) = nI (fr * 4) from pk_mul fr 4, nI_add]
  have z0 : ¬ vBodies (0 * 4 + act) = 0 := by
    have : ∀ act, act ≤ 3 → ¬ vBodies (0 * 4 + act) = 0 := by decide +kernel
    exact this act ha
  intro n
  induction n with
  | zero =>
    intro fr j hf hc hj h
    have e : fr = 0 := by omega
    subst e
    refine br_f (nI_ge (b := 28) (by omega) (by omega)) (br_t rfl (br_f (nI_pos (by omega)) ?_))
    rw [pl 0, nI_clamp (n := 0 * 4 + act) (by omega), nI_1]
    exact br_f (nI_pos (by omega)) (br_f (nI_ge (b := 28) (by omega) (by omega)) ⟨ix (by omega) (by omega), p0_above0 (br_f (nI_ge (b := 28) (by omega) (by omega)) (br_f z0 h))⟩)
  | succ n ih =>
    intro fr j hf hc hj h
    have st : bdv (n + 1) fr act = if vBodies (fr * 4 + act) = 0 then bdv n (abv fr) act else vBodies (fr * 4 + act) := rfl
    rw [st] at h
    refine br_f (nI_ge (b := 28) (by omega) (by omega)) (br_t rfl (br_f (nI_pos (by omega)) ?_))
    rw [pl fr, nI_clamp (n := fr * 4 + act) (by omega), nI_1]
    refine br_f (nI_pos (by omega)) (br_f (nI_ge (b := 28) (by omega) (by omega)) ⟨ix (by omega) (by omega), ?_⟩)
    by_cases e : fr = 0
    · subst e
      rw [if_neg z0] at h
      exact p0_above0 (br_f (nI_ge (b := 28) (by omega) (by omega)) (br_f z0 h))
    · refine p0_above (by omega) hf ?_
      by_cases z : vBodies (fr * 4 + act) = 0
      · rw [if_pos z] at h
        rw [z]
        exact ih (abv fr) (j + 1) (by unfold abv; split <;> omega) (by unfold abv; split <;> omega) (by omega) h
      · rw [if_neg z] at h
        exact br_f (nI_ge (b := 28) (by omega) (by omega)) (br_f z h)
theorem p6_body {fr act : Nat} (hf : fr ≤ 6) (ha : act ≤ 3) {B : Int32} (hb : bdv 2 fr act = B) {P : Int32 → Prop} (h : P B) : wp_X6_bodyOf (nI fr) (nI act) P := ⟨4, p6_bodyL ha 2 fr 0 hf (.inr (.inr (by omega))) (by omega) (by rw [hb]; exact h)⟩
theorem bdG : ∀ fr, fr ≤ 6 → bdv 2 fr 0 = if fr = 1 ∨ fr = 4 then 20 else 10 := by decide +kernel
theorem bdO : ∀ fr, fr ≤ 6 → bdv 2 fr 1 = if fr = 2 then 30 else if fr = 5 then 60 else 11 := by decide +kernel
theorem bdS : ∀ fr, fr ≤ 6 → bdv 2 fr 2 = if fr = 3 then 40 else if fr = 6 then 70 else 12 := by decide +kernel
theorem bdE : ∀ fr, fr ≤ 6 → bdv 2 fr 3 = if fr = 4 then 50 else if fr = 6 then 71 else 13 := by decide +kernel
/-! PURE 38b: which body -/
theorem sy10 {A0 A1 A2 A3 A4 A5 A6 A7 A8 A9 A10 B : Prop} (h : A0) : ((10 : Int32) = (10 : Int32) → A0) ∧ ((10 : Int32) = (11 : Int32) → A1) ∧ ((10 : Int32) = (12 : Int32) → A2) ∧ ((10 : Int32) = (13 : Int32) → A3) ∧ ((10 : Int32) = (20 : Int32) → A4) ∧ ((10 : Int32) = (30 : Int32) → A5) ∧ ((10 : Int32) = (40 : Int32) → A6) ∧ ((10 : Int32) = (50 : Int32) → A7) ∧ ((10 : Int32) = (60 : Int32) → A8) ∧ ((10 : Int32) = (70 : Int32) → A9) ∧ ((10 : Int32) = (71 : Int32) → A10) ∧ (¬ (10 : Int32) = (10 : Int32) → ¬ (10 : Int32) = (11 : Int32) → ¬ (10 : Int32) = (12 : Int32) → ¬ (10 : Int32) = (13 : Int32) → ¬ (10 : Int32) = (20 : Int32) → ¬ (10 : Int32) = (30 : Int32) → ¬ (10 : Int32) = (40 : Int32) → ¬ (10 : Int32) = (50 : Int32) → ¬ (10 : Int32) = (60 : Int32) → ¬ (10 : Int32) = (70 : Int32) → ¬ (10 : Int32) = (71 : Int32) → B) := ⟨fun _ => h, fun e => absurd e (by decide), fun e => absurd e (by decide), fun e => absurd e (by decide), fun e => absurd e (by decide), fun e => absurd e (by decide), fun e => absurd e (by decide), fun e => absurd e (by decide), fun e => absurd e (by decide), fun e => absurd e (by decide), fun e => absurd e (by decide), fun e0 _ _ _ _ _ _ _ _ _ _ => absurd rfl e0⟩
theorem sy11 {A0 A1 A2 A3 A4 A5 A6 A7 A8 A9 A10 B : Prop} (h : A1) : ((11 : Int32) = (10 : Int32) → A0) ∧ ((11 : Int32) = (11 : Int32) → A1) ∧ ((11 : Int32) = (12 : Int32) → A2) ∧ ((11 : Int32) = (13 : Int32) → A3) ∧ ((11 : Int32) = (20 : Int32) → A4) ∧ ((11 : Int32) = (30 : Int32) → A5) ∧ ((11 : Int32) = (40 : Int32) → A6) ∧ ((11 : Int32) = (50 : Int32) → A7) ∧ ((11 : Int32) = (60 : Int32) → A8) ∧ ((11 : Int32) = (70 : Int32) → A9) ∧ ((11 : Int32) = (71 : Int32) → A10) ∧ (¬ (11 : Int32) = (10 : Int32) → ¬ (11 : Int32) = (11 : Int32) → ¬ (11 : Int32) = (12 : Int32) → ¬ (11 : Int32) = (13 : Int32) → ¬ (11 : Int32) = (20 : Int32) → ¬ (11 : Int32) = (30 : Int32) → ¬ (11 : Int32) = (40 : Int32) → ¬ (11 : Int32) = (50 : Int32) → ¬ (11 : Int32) = (60 : Int32) → ¬ (11 : Int32) = (70 : Int32) → ¬ (11 : Int32) = (71 : Int32) → B) := ⟨fun e => absurd e (by decide), fun _ => h, fun e => absurd e (by decide), fun e => absurd e (by decide), fun e => absurd e (by decide), fun e => absurd e (by decide), fun e => absurd e (by decide), fun e => absurd e (by decide), fun e => absurd e (by decide), fun e => absurd e (by decide), fun e => absurd e (by decide), fun _ e1 _ _ _ _ _ _ _ _ _ => absurd rfl e1⟩
theorem sy12 {A0 A1 A2 A3 A4 A5 A6 A7 A8 A9 A10 B : Prop} (h : A2) : ((12 : Int32) = (10 : Int32) → A0) ∧ ((12 : Int32) = (11 : Int32) → A1) ∧ ((12 : Int32) = (12 : Int32) → A2) ∧ ((12 : Int32) = (13 : Int32) → A3) ∧ ((12 : Int32) = (20 : Int32) → A4) ∧ ((12 : Int32) = (30 : Int32) → A5) ∧ ((12 : Int32) = (40 : Int32) → A6) ∧ ((12 : Int32) = (50 : Int32) → A7) ∧ ((12 : Int32) = (60 : Int32) → A8) ∧ ((12 : Int32) = (70 : Int32) → A9) ∧ ((12 : Int32) = (71 : Int32) → A10) ∧ (¬ (12 : Int32) = (10 : Int32) → ¬ (12 : Int32) = (11 : Int32) → ¬ (12 : Int32) = (12 : Int32) → ¬ (12 : Int32) = (13 : Int32) → ¬ (12 : Int32) = (20 : Int32) → ¬ (12 : Int32) = (30 : Int32) → ¬ (12 : Int32) = (40 : Int32) → ¬ (12 : Int32) = (50 : Int32) → ¬ (12 : Int32) = (60 : Int32) → ¬ (12 : Int32) = (70 : Int32) → ¬ (12 : Int32) = (71 : Int32) → B) := ⟨fun e => absurd e (by decide), fun e => absurd e (by decide), fun _ => h, fun e => absurd e (by decide), fun e => absurd e (by decide), fun e => absurd e (by decide), fun e => absurd e (by decide), fun e => absurd e (by decide), fun e => absurd e (by decide), fun e => absurd e (by decide), fun e => absurd e (by decide), fun _ _ e2 _ _ _ _ _ _ _ _ => absurd rfl e2⟩
theorem sy13 {A0 A1 A2 A3 A4 A5 A6 A7 A8 A9 A10 B : Prop} (h : A3) : ((13 : Int32) = (10 : Int32) → A0) ∧ ((13 : Int32) = (11 : Int32) → A1) ∧ ((13 : Int32) = (12 : Int32) → A2) ∧ ((13 : Int32) = (13 : Int32) → A3) ∧ ((13 : Int32) = (20 : Int32) → A4) ∧ ((13 : Int32) = (30 : Int32) → A5) ∧ ((13 : Int32) = (40 : Int32) → A6) ∧ ((13 : Int32) = (50 : Int32) → A7) ∧ ((13 : Int32) = (60 : Int32) → A8) ∧ ((13 : Int32) = (70 : Int32) → A9) ∧ ((13 : Int32) = (71 : Int32) → A10) ∧ (¬ (13 : Int32) = (10 : Int32) → ¬ (13 : Int32) = (11 : Int32) → ¬ (13 : Int32) = (12 : Int32) → ¬ (13 : Int32) = (13 : Int32) → ¬ (13 : Int32) = (20 : Int32) → ¬ (13 : Int32) = (30 : Int32) → ¬ (13 : Int32) = (40 : Int32) → ¬ (13 : Int32) = (50 : Int32) → ¬ (13 : Int32) = (60 : Int32) → ¬ (13 : Int32) = (70 : Int32) → ¬ (13 : Int32) = (71 : Int32) → B) := ⟨fun e => absurd e (by decide), fun e => absurd e (by decide), fun e => absurd e (by decide), fun _ => h, fun e => absurd e (by decide), fun e => absurd e (by decide), fun e => absurd e (by decide), fun e => absurd e (by decide), fun e => absurd e (by decide), fun e => absurd e (by decide), fun e => absurd e (by decide), fun _ _ _ e3 _ _ _ _ _ _ _ => absurd rfl e3⟩
theorem sy20 {A0 A1 A2 A3 A4 A5 A6 A7 A8 A9 A10 B : Prop} (h : A4) : ((20 : Int32) = (10 : Int32) → A0) ∧ ((20 : Int32) = (11 : Int32) → A1) ∧ ((20 : Int32) = (12 : Int32) → A2) ∧ ((20 : Int32) = (13 : Int32) → A3) ∧ ((20 : Int32) = (20 : Int32) → A4) ∧ ((20 : Int32) = (30 : Int32) → A5) ∧ ((20 : Int32) = (40 : Int32) → A6) ∧ ((20 : Int32) = (50 : Int32) → A7) ∧ ((20 : Int32) = (60 : Int32) → A8) ∧ ((20 : Int32) = (70 : Int32) → A9) ∧ ((20 : Int32) = (71 : Int32) → A10) ∧ (¬ (20 : Int32) = (10 : Int32) → ¬ (20 : Int32) = (11 : Int32) → ¬ (20 : Int32) = (12 : Int32) → ¬ (20 : Int32) = (13 : Int32) → ¬ (20 : Int32) = (20 : Int32) → ¬ (20 : Int32) = (30 : Int32) → ¬ (20 : Int32) = (40 : Int32) → ¬ (20 : Int32) = (50 : Int32) → ¬ (20 : Int32) = (60 : Int32) → ¬ (20 : Int32) = (70 : Int32) → ¬ (20 : Int32) = (71 : Int32) → B) := ⟨fun e => absurd e (by decide), fun e => absurd e (by decide), fun e => absurd e (by decide), fun e => absurd e (by decide), fun _ => h, fun e => absurd e (by decide), fun e => absurd e (by decide), fun e => absurd e (by decide), fun e => absurd e (by decide), fun e => absurd e (by decide), fun e => absurd e (by decide), fun _ _ _ _ e4 _ _ _ _ _ _ => absurd rfl e4⟩
theorem sy30 {A0 A1 A2 A3 A4 A5 A6 A7 A8 A9 A10 B : Prop} (h : A5) : ((30 : Int32) = (10 : Int32) → A0) ∧ ((30 : Int32) = (11 : Int32) → A1) ∧ ((30 : Int32) = (12 : Int32) → A2) ∧ ((30 : Int32) = (13 : Int32) → A3) ∧ ((30 : Int32) = (20 : Int32) → A4) ∧ ((30 : Int32) = (30 : Int32) → A5) ∧ ((30 : Int32) = (40 : Int32) → A6) ∧ ((30 : Int32) = (50 : Int32) → A7) ∧ ((30 : Int32) = (60 : Int32) → A8) ∧ ((30 : Int32) = (70 : Int32) → A9) ∧ ((30 : Int32) = (71 : Int32) → A10) ∧ (¬ (30 : Int32) = (10 : Int32) → ¬ (30 : Int32) = (11 : Int32) → ¬ (30 : Int32) = (12 : Int32) → ¬ (30 : Int32) = (13 : Int32) → ¬ (30 : Int32) = (20 : Int32) → ¬ (30 : Int32) = (30 : Int32) → ¬ (30 : Int32) = (40 : Int32) → ¬ (30 : Int32) = (50 : Int32) → ¬ (30 : Int32) = (60 : Int32) → ¬ (30 : Int32) = (70 : Int32) → ¬ (30 : Int32) = (71 : Int32) → B) := ⟨fun e => absurd e (by decide), fun e => absurd e (by decide), fun e => absurd e (by decide), fun e => absurd e (by decide), fun e => absurd e (by decide), fun _ => h, fun e => absurd e (by decide), fun e => absurd e (by decide), fun e => absurd e (by decide), fun e => absurd e (by decide), fun e => absurd e (by decide), fun _ _ _ _ _ e5 _ _ _ _ _ => absurd rfl e5⟩
theorem sy40 {A0 A1 A2 A3 A4 A5 A6 A7 A8 A9 A10 B : Prop} (h : A6) : ((40 : Int32) = (10 : Int32) → A0) ∧ ((40 : Int32) = (11 : Int32) → A1) ∧ ((40 : Int32) = (12 : Int32) → A2) ∧ ((40 : Int32) = (13 : Int32) → A3) ∧ ((40 : Int32) = (20 : Int32) → A4) ∧ ((40 : Int32) = (30 : Int32) → A5) ∧ ((40 : Int32) = (40 : Int32) → A6) ∧ ((40 : Int32) = (50 : Int32) → A7) ∧ ((40 : Int32) = (60 : Int32) → A8) ∧ ((40 : Int32) = (70 : Int32) → A9) ∧ ((40 : Int32) = (71 : Int32) → A10) ∧ (¬ (40 : Int32) = (10 : Int32) → ¬ (40 : Int32) = (11 : Int32) → ¬ (40 : Int32) = (12 : Int32) → ¬ (40 : Int32) = (13 : Int32) → ¬ (40 : Int32) = (20 : Int32) → ¬ (40 : Int32) = (30 : Int32) → ¬ (40 : Int32) = (40 : Int32) → ¬ (40 : Int32) = (50 : Int32) → ¬ (40 : Int32) = (60 : Int32) → ¬ (40 : Int32) = (70 : Int32) → ¬ (40 : Int32) = (71 : Int32) → B) := ⟨fun e => absurd e (by decide), fun e => absurd e (by decide), fun e => absurd e (by decide), fun e => absurd e (by decide), fun e => absurd e (by decide), fun e => absurd e (by decide), fun _ => h, fun e => absurd e (by decide), fun e => absurd e (by decide), fun e => absurd e (by decide), fun e => absurd e (by decide), fun _ _ _ _ _ _ e6 _ _ _ _ => absurd rfl e6⟩
theorem sy50 {A0 A1 A2 A3 A4 A5 A6 A7 A8 A9 A10 B : Prop} (h : A7) : ((50 : Int32) = (10 : Int32) → A0) ∧ ((50 : Int32) = (11 : Int32) → A1) ∧ ((50 : Int32) = (12 : Int32) → A2) ∧ ((50 : Int32) = (13 : Int32) → A3) ∧ ((50 : Int32) = (20 : Int32) → A4) ∧ ((50 : Int32) = (30 : Int32) → A5) ∧ ((50 : Int32) = (40 : Int32) → A6) ∧ ((50 : Int32) = (50 : Int32) → A7) ∧ ((50 : Int32) = (60 : Int32) → A8) ∧ ((50 : Int32) = (70 : Int32) → A9) ∧ ((50 : Int32) = (71 : Int32) → A10) ∧ (¬ (50 : Int32) = (10 : Int32) → ¬ (50 : Int32) = (11 : Int32) → ¬ (50 : Int32) = (12 : Int32) → ¬ (50 : Int32) = (13 : Int32) → ¬ (50 : Int32) = (20 : Int32) → ¬ (50 : Int32) = (30 : Int32) → ¬ (50 : Int32) = (40 : Int32) → ¬ (50 : Int32) = (50 : Int32) → ¬ (50 : Int32) = (60 : Int32) → ¬ (50 : Int32) = (70 : Int32) → ¬ (50 : Int32) = (71 : Int32) → B) := ⟨fun e => absurd e (by decide), fun e => absurd e (by decide), fun e => absurd e (by decide), fun e => absurd e (by decide), fun e => absurd e (by decide), fun e => absurd e (by decide), fun e => absurd e (by decide), fun _ => h, fun e => absurd e (by decide), fun e => absurd e (by decide), fun e => absurd e (by decide), fun _ _ _ _ _ _ _ e7 _ _ _ => absurd rfl e7⟩
theorem sy60 {A0 A1 A2 A3 A4 A5 A6 A7 A8 A9 A10 B : Prop} (h : A8) : ((60 : Int32) = (10 : Int32) → A0) ∧ ((60 : Int32) = (11 : Int32) → A1) ∧ ((60 : Int32) = (12 : Int32) → A2) ∧ ((60 : Int32) = (13 : Int32) → A3) ∧ ((60 : Int32) = (20 : Int32) → A4) ∧ ((60 : Int32) = (30 : Int32) → A5) ∧ ((60 : Int32) = (40 : Int32) → A6) ∧ ((60 : Int32) = (50 : Int32) → A7) ∧ ((60 : Int32) = (60 : Int32) → A8) ∧ ((60 : Int32) = (70 : Int32) → A9) ∧ ((60 : Int32) = (71 : Int32) → A10) ∧ (¬ (60 : Int32) = (10 : Int32) → ¬ (60 : Int32) = (11 : Int32) → ¬ (60 : Int32) = (12 : Int32) → ¬ (60 : Int32) = (13 : Int32) → ¬ (60 : Int32) = (20 : Int32) → ¬ (60 : Int32) = (30 : Int32) → ¬ (60 : Int32) = (40 : Int32) → ¬ (60 : Int32) = (50 : Int32) → ¬ (60 : Int32) = (60 : Int32) → ¬ (60 : Int32) = (70 : Int32) → ¬ (60 : Int32) = (71 : Int32) → B) := ⟨fun e => absurd e (by decide), fun e => absurd e (by decide), fun e => absurd e (by decide), fun e => absurd e (by decide), fun e => absurd e (by decide), fun e => absurd e (by decide), fun e => absurd e (by decide), fun e => absurd e (by decide), fun _ => h, fun e => absurd e (by decide), fun e => absurd e (by decide), fun _ _ _ _ _ _ _ _ e8 _ _ => absurd rfl e8⟩
theorem sy70 {A0 A1 A2 A3 A4 A5 A6 A7 A8 A9 A10 B : Prop} (h : A9) : ((70 : Int32) = (10 : Int32) → A0) ∧ ((70 : Int32) = (11 : Int32) → A1) ∧ ((70 : Int32) = (12 : Int32) → A2) ∧ ((70 : Int32) = (13 : Int32) → A3) ∧ ((70 : Int32) = (20 : Int32) → A4) ∧ ((70 : Int32) = (30 : Int32) → A5) ∧ ((70 : Int32) = (40 : Int32) → A6) ∧ ((70 : Int32) = (50 : Int32) → A7) ∧ ((70 : Int32) = (60 : Int32) → A8) ∧ ((70 : Int32) = (70 : Int32) → A9) ∧ ((70 : Int32) = (71 : Int32) → A10) ∧ (¬ (70 : Int32) = (10 : Int32) → ¬ (70 : Int32) = (11 : Int32) → ¬ (70 : Int32) = (12 : Int32) → ¬ (70 : Int32) = (13 : Int32) → ¬ (70 : Int32) = (20 : Int32) → ¬ (70 : Int32) = (30 : Int32) → ¬ (70 : Int32) = (40 : Int32) → ¬ (70 : Int32) = (50 : Int32) → ¬ (70 : Int32) = (60 : Int32) → ¬ (70 : Int32) = (70 : Int32) → ¬ (70 : Int32) = (71 : Int32) → B) := ⟨fun e => absurd e (by decide), fun e => absurd e (by decide), fun e => absurd e (by decide), fun e => absurd e (by decide), fun e => absurd e (by decide), fun e => absurd e (by decide), fun e => absurd e (by decide), fun e => absurd e (by decide), fun e => absurd e (by decide), fun _ => h, fun e => absurd e (by decide), fun _ _ _ _ _ _ _ _ _ e9 _ => absurd rfl e9⟩
theorem sy71 {A0 A1 A2 A3 A4 A5 A6 A7 A8 A9 A10 B : Prop} (h : A10) : ((71 : Int32) = (10 : Int32) → A0) ∧ ((71 : Int32) = (11 : Int32) → A1) ∧ ((71 : Int32) = (12 : Int32) → A2) ∧ ((71 : Int32) = (13 : Int32) → A3) ∧ ((71 : Int32) = (20 : Int32) → A4) ∧ ((71 : Int32) = (30 : Int32) → A5) ∧ ((71 : Int32) = (40 : Int32) → A6) ∧ ((71 : Int32) = (50 : Int32) → A7) ∧ ((71 : Int32) = (60 : Int32) → A8) ∧ ((71 : Int32) = (70 : Int32) → A9) ∧ ((71 : Int32) = (71 : Int32) → A10) ∧ (¬ (71 : Int32) = (10 : Int32) → ¬ (71 : Int32) = (11 : Int32) → ¬ (71 : Int32) = (12 : Int32) → ¬ (71 : Int32) = (13 : Int32) → ¬ (71 : Int32) = (20 : Int32) → ¬ (71 : Int32) = (30 : Int32) → ¬ (71 : Int32) = (40 : Int32) → ¬ (71 : Int32) = (50 : Int32) → ¬ (71 : Int32) = (60 : Int32) → ¬ (71 : Int32) = (70 : Int32) → ¬ (71 : Int32) = (71 : Int32) → B) := ⟨fun e => absurd e (by decide), fun e => absurd e (by decide), fun e => absurd e (by decide), fun e => absurd e (by decide), fun e => absurd e (by decide), fun e => absurd e (by decide), fun e => absurd e (by decide), fun e => absurd e (by decide), fun e => absurd e (by decide), fun e => absurd e (by decide), fun _ => h, fun _ _ _ _ _ _ _ _ _ _ e10 => absurd rfl e10⟩
