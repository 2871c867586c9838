/-! PURE 38c: voices of the class -/
theorem gu_X6_says {d : Nat} {a1 : Int32} {a2 : Int32} {a3 : Int32} {a4 : Int32} {v_number : Int32} {v_kind : Int32} {v_m : Int32} {v_trace_many : Int32} {v_trace_numbers : Nat → Int32} {post : Int32 → Int32 → (Nat → Int32) → Prop} (h : (a4 ≤ (40 : Int32) → (wp_X6_bodyOf a1 a2 (fun r_2 => wp_X3_add 40 r_2 v_trace_many v_trace_numbers (fun r_5 v_trace_many_3 v_trace_numbers_4 => (r_2 = (10 : Int32) → (post (a3 + v_number) v_trace_many_3 v_trace_numbers_4)) ∧ (r_2 = (11 : Int32) → ((wpg_X6_says d) 0 v_kind (0 : Int32) a3 (a4 + (1 : Int32)) v_number v_kind v_m v_trace_many_3 v_trace_numbers_4 (fun r_9 v_trace_many_7 v_trace_numbers_8 => post (r_9 * (2 : Int32)) v_trace_many_7 v_trace_numbers_8))) ∧ (r_2 = (12 : Int32) → (post (a3 - v_m) v_trace_many_3 v_trace_numbers_4)) ∧ (r_2 = (13 : Int32) → ((wpg_X6_says d) 0 v_kind (1 : Int32) a3 (a4 + (1 : Int32)) v_number v_kind v_m v_trace_many_3 v_trace_numbers_4 (fun r_14 v_trace_many_12 v_trace_numbers_13 => (wpg_X6_says d) 0 v_kind (2 : Int32) a3 (a4 + (1 : Int32)) v_number v_kind v_m v_trace_many_12 v_trace_numbers_13 (fun r_17 v_trace_many_15 v_trace_numbers_16 => post (r_14 ^^^ r_17) v_trace_many_15 v_trace_numbers_16)))) ∧ (r_2 = (20 : Int32) → ((wpg_X6_says d) 0 (0 : Int32) (0 : Int32) a3 (a4 + (1 : Int32)) v_number v_kind v_m v_trace_many_3 v_trace_numbers_4 (fun r_21 v_trace_many_19 v_trace_numbers_20 => post (r_21 * (3 : Int32)) v_trace_many_19 v_trace_numbers_20))) ∧ (r_2 = (30 : Int32) → ((wpg_X6_says d) 0 (0 : Int32) (1 : Int32) a3 (a4 + (1 : Int32)) v_number v_kind v_m v_trace_many_3 v_trace_numbers_4 (fun r_25 v_trace_many_23 v_trace_numbers_24 => (wpg_X6_says d) 0 v_kind (2 : Int32) (1 : Int32) (a4 + (1 : Int32)) v_number v_kind v_m v_trace_many_23 v_trace_numbers_24 (fun r_28 v_trace_many_26 v_trace_numbers_27 => post (r_25 - r_28) v_trace_many_26 v_trace_numbers_27)))) ∧ (r_2 = (40 : Int32) → ((wpg_X6_says d) 0 (0 : Int32) (2 : Int32) a3 (a4 + (1 : Int32)) v_number v_kind v_m v_trace_many_3 v_trace_numbers_4 (fun r_32 v_trace_many_30 v_trace_numbers_31 => post (-r_32) v_trace_many_30 v_trace_numbers_31))) ∧ (r_2 = (50 : Int32) → ((wpg_X6_says d) 0 (1 : Int32) (3 : Int32) a3 (a4 + (1 : Int32)) v_number v_kind v_m v_trace_many_3 v_trace_numbers_4 (fun r_36 v_trace_many_34 v_trace_numbers_35 => (wpg_X6_says d) 0 v_kind (0 : Int32) (2 : Int32) (a4 + (1 : Int32)) v_number v_kind v_m v_trace_many_34 v_trace_numbers_35 (fun r_39 v_trace_many_37 v_trace_numbers_38 => post (r_36 - r_39) v_trace_many_37 v_trace_numbers_38)))) ∧ (r_2 = (60 : Int32) → ((wpg_X6_says d) 0 (2 : Int32) (1 : Int32) (a3 + (1 : Int32)) (a4 + (1 : Int32)) v_number v_kind v_m v_trace_many_3 v_trace_numbers_4 (fun r_43 v_trace_many_41 v_trace_numbers_42 => post r_43 v_trace_many_41 v_trace_numbers_42))) ∧ (r_2 = (70 : Int32) → ((wpg_X6_says d) 0 (3 : Int32) (2 : Int32) a3 (a4 + (1 : Int32)) v_number v_kind v_m v_trace_many_3 v_trace_numbers_4 (fun r_47 v_trace_many_45 v_trace_numbers_46 => post (r_47 ^^^ v_number) v_trace_many_45 v_trace_numbers_46))) ∧ (r_2 = (71 : Int32) → ((wpg_X6_says d) 0 v_kind (1 : Int32) a3 (a4 + (1 : Int32)) v_number v_kind v_m v_trace_many_3 v_trace_numbers_4 (fun r_51 v_trace_many_49 v_trace_numbers_50 => (wpg_X6_says d) 0 (3 : Int32) (3 : Int32) a3 (a4 + (1 : Int32)) v_number v_kind v_m v_trace_many_49 v_trace_numbers_50 (fun r_54 v_trace_many_52 v_trace_numbers_53 => post (r_51 - r_54) v_trace_many_52 v_trace_numbers_53)))) ∧ (¬ r_2 = (10 : Int32) → ¬ r_2 = (11 : Int32) → ¬ r_2 = (12 : Int32) → ¬ r_2 = (13 : Int32) → ¬ r_2 = (20 : Int32) → ¬ r_2 = (30 : Int32) → ¬ r_2 = (40 : Int32) → ¬ r_2 = (50 : Int32) → ¬ r_2 = (60 : Int32) → ¬ r_2 = (70 : Int32) → ¬ r_2 = (71 : Int32) → (post (0 : Int32) v_trace_many_3 v_trace_numbers_4)))))) ∧ (¬ a4 ≤ (40 : Int32) → (post (0 : Int32) v_trace_many v_trace_numbers))) : wpg_X6_says (d + 1) 0 a1 a2 a3 a4 v_number v_kind v_m v_trace_many v_trace_numbers post := h
theorem s7_zG {hh mm : Int32} {k : Nat} {d deep : Nat} {x : Int32} {T : TrS} {nums : Nat → Int32} {post : Int32 → Int32 → (Nat → Int32) → Prop} {fr : Nat} (hf : fr ≤ 6) (hT : T.1 ≤ 40) (e : tE T nums) (hd : deep + 1 ≤ 40) (h : ∀ nums' : Nat → Int32, tE (zG hh fr x T).2 nums' → post (zG hh fr x T).1 (nI (zG hh fr x T).2.1) nums') : wpg_X6_says (d + 2) 0 (nI fr) (0 : Int32) x (nI deep) hh (nI k) mm (nI T.1) nums post := by
  unfold zG at h
  by_cases q : fr = 1 ∨ fr = 4
  · rw [if_pos q] at h
    refine br_t (nI_le (b := 40) (by omega) (by omega)) (p6_body (act := 0) (B := 20) hf (by omega) (by rw [bdG fr hf, if_pos q]) (p3_tA hT e (fun _ n1 e1 => sy20 ?_)))
    rw [nI_1]
    exact br_t (nI_le (b := 40) (by omega) (by omega)) (p6_body (fr := 0) (act := 0) (B := 10) (by omega) (by omega) (by rw [bdG 0 (by omega), if_neg (by omega)]) (p3_tA (tA_le hT _) e1 (fun _ n2 e2 => sy10 (h n2 e2))))
  · rw [if_neg q] at h
    exact br_t (nI_le (b := 40) (by omega) (by omega)) (p6_body (act := 0) (B := 10) hf (by omega) (by rw [bdG fr hf, if_neg q]) (p3_tA hT e (fun _ n1 e1 => sy10 (h n1 e1))))
theorem s7_zS0 {hh mm : Int32} {k : Nat} {d deep : Nat} {x : Int32} {T : TrS} {nums : Nat → Int32} {post : Int32 → Int32 → (Nat → Int32) → Prop} {fr : Nat} (hf : fr ≤ 6) (n3 : fr ≠ 3) (n6 : fr ≠ 6) (hT : T.1 ≤ 40) (e : tE T nums) (hd : deep ≤ 40) (h : ∀ nums' : Nat → Int32, tE (tA T 12) nums' → post (x - mm) (nI (tA T 12).1) nums') : wpg_X6_says (d + 1) 0 (nI fr) (2 : Int32) x (nI deep) hh (nI k) mm (nI T.1) nums post := br_t (nI_le (b := 40) (by omega) (by omega)) (p6_body (act := 2) (B := 12) hf (by omega) (by rw [bdS fr hf, if_neg n3, if_neg n6]) (p3_tA hT e (fun _ n1 e1 => sy12 (h n1 e1))))
theorem s7_zS3 {hh mm : Int32} {k : Nat} {d deep : Nat} {x : Int32} {T : TrS} {nums : Nat → Int32} {post : Int32 → Int32 → (Nat → Int32) → Prop} (hT : T.1 ≤ 40) (e : tE T nums) (hd : deep + 1 ≤ 40) (h : ∀ nums' : Nat → Int32, tE (tA (tA T 40) 12) nums' → post (-(x - mm)) (nI (tA (tA T 40) 12).1) nums') : wpg_X6_says (d + 2) 0 (nI 3) (2 : Int32) x (nI deep) hh (nI k) mm (nI T.1) nums post := by
  refine br_t (nI_le (b := 40) (by omega) (by omega)) (p6_body (fr := 3) (act := 2) (B := 40) (by omega) (by omega) (by decide +kernel) (p3_tA hT e (fun _ n1 e1 => sy40 ?_)))
  rw [nI_1]
  exact s7_zS0 (fr := 0) (by omega) (by omega) (by omega) (tA_le hT _) e1 hd h
theorem s7_zS {hh mm : Int32} {k : Nat} {d deep : Nat} {x : Int32} {T : TrS} {nums : Nat → Int32} {post : Int32 → Int32 → (Nat → Int32) → Prop} {fr : Nat} (hf : fr ≤ 6) (hT : T.1 ≤ 40) (e : tE T nums) (hd : deep + 2 ≤ 40) (h : ∀ nums' : Nat → Int32, tE (zS hh mm fr x T).2 nums' → post (zS hh mm fr x T).1 (nI (zS hh mm fr x T).2.1) nums') : wpg_X6_says (d + 3) 0 (nI fr) (2 : Int32) x (nI deep) hh (nI k) mm (nI T.1) nums post := by
  unfold zS at h
  by_cases q3 : fr = 3
  · subst q3
    rw [if_pos rfl] at h
    exact s7_zS3 (d := d + 1) hT e (by omega) h
  · rw [if_neg q3] at h
    by_cases q6 : fr = 6
    · subst q6
      rw [if_pos rfl] at h
      refine br_t (nI_le (b := 40) (by omega) (by omega)) (p6_body (fr := 6) (act := 2) (B := 70) (by omega) (by omega) (by decide +kernel) (p3_tA hT e (fun _ n1 e1 => sy70 ?_)))
      rw [nI_1]
      exact s7_zS3 (tA_le hT _) e1 (by omega) h
    · rw [if_neg q6] at h
      exact s7_zS0 (d := d + 2) hf q3 q6 hT e (by omega) h
theorem s7_zO0 {hh mm : Int32} {k : Nat} {d deep : Nat} {x : Int32} {T : TrS} {nums : Nat → Int32} {post : Int32 → Int32 → (Nat → Int32) → Prop} {fr : Nat} (hf : fr ≤ 6) (hk : k ≤ 6) (n2 : fr ≠ 2) (n5 : fr ≠ 5) (hT : T.1 ≤ 40) (e : tE T nums) (hd : deep + 2 ≤ 40) (h : ∀ nums' : Nat → Int32, tE (zO0 hh k x T).2 nums' → post (zO0 hh k x T).1 (nI (zO0 hh k x T).2.1) nums') : wpg_X6_says (d + 3) 0 (nI fr) (1 : Int32) x (nI deep) hh (nI k) mm (nI T.1) nums post := by
  refine br_t (nI_le (b := 40) (by omega) (by omega)) (p6_body (act := 1) (B := 11) hf (by omega) (by rw [bdO fr hf, if_neg n2, if_neg n5]) (p3_tA hT e (fun _ n1 e1 => sy11 ?_)))
  rw [nI_1]
  exact s7_zG hk (tA_le hT _) e1 (by omega) h
theorem s7_zO2 {hh mm : Int32} {k : Nat} {d deep : Nat} {x : Int32} {T : TrS} {nums : Nat → Int32} {post : Int32 → Int32 → (Nat → Int32) → Prop} (hk : k ≤ 6) (hT : T.1 ≤ 40) (e : tE T nums) (hd : deep + 3 ≤ 40) (h : ∀ nums' : Nat → Int32, tE (zO2 hh mm k x T).2 nums' → post (zO2 hh mm k x T).1 (nI (zO2 hh mm k x T).2.1) nums') : wpg_X6_says (d + 4) 0 (nI 2) (1 : Int32) x (nI deep) hh (nI k) mm (nI T.1) nums post := by
  unfold zO2 at h
  dsimp only at h
  refine gu_X6_says (br_t (nI_le (b := 40) (by omega) (by omega)) (p6_body (fr := 2) (act := 1) (B := 30) (by omega) (by omega) (by decide +kernel) (p3_tA hT e (fun _ n1 e1 => sy30 ?_))))
  rw [nI_1]
  exact s7_zO0 (fr := 0) (by omega) hk (by omega) (by omega) (tA_le hT _) e1 (by omega) (fun n2 e2 => s7_zS hk (zO0_le (tA_le hT _)) e2 (by omega) h)
theorem s7_zO {hh mm : Int32} {k : Nat} {d deep : Nat} {x : Int32} {T : TrS} {nums : Nat → Int32} {post : Int32 → Int32 → (Nat → Int32) → Prop} {fr : Nat} (hf : fr ≤ 6) (hk : k ≤ 6) (hT : T.1 ≤ 40) (e : tE T nums) (hd : deep + 4 ≤ 40) (h : ∀ nums' : Nat → Int32, tE (zO hh mm k fr x T).2 nums' → post (zO hh mm k fr x T).1 (nI (zO hh mm k fr x T).2.1) nums') : wpg_X6_says (d + 5) 0 (nI fr) (1 : Int32) x (nI deep) hh (nI k) mm (nI T.1) nums post := by
  unfold zO at h
  by_cases q2 : fr = 2
  · subst q2
    rw [if_pos rfl] at h
    exact s7_zO2 (d := d + 1) hk hT e (by omega) h
  · rw [if_neg q2] at h
    by_cases q5 : fr = 5
    · subst q5
      rw [if_pos rfl] at h
      refine gu_X6_says (br_t (nI_le (b := 40) (by omega) (by omega)) (p6_body (fr := 5) (act := 1) (B := 60) (by omega) (by omega) (by decide +kernel) (p3_tA hT e (fun _ n1 e1 => sy60 ?_))))
      rw [nI_1]
      exact s7_zO2 hk (tA_le hT _) e1 (by omega) h
    · rw [if_neg q5] at h
      exact s7_zO0 (d := d + 2) hf hk q2 q5 hT e (by omega) h
theorem s7_zE0 {hh mm : Int32} {k : Nat} {d deep : Nat} {x : Int32} {T : TrS} {nums : Nat → Int32} {post : Int32 → Int32 → (Nat → Int32) → Prop} {fr : Nat} (hf : fr ≤ 6) (hk : k ≤ 6) (n4 : fr ≠ 4) (n6 : fr ≠ 6) (hT : T.1 ≤ 40) (e : tE T nums) (hd : deep + 5 ≤ 40) (h : ∀ nums' : Nat → Int32, tE (zE0 hh mm k x T).2 nums' → post (zE0 hh mm k x T).1 (nI (zE0 hh mm k x T).2.1) nums') : wpg_X6_says (d + 6) 0 (nI fr) (3 : Int32) x (nI deep) hh (nI k) mm (nI T.1) nums post := by
  unfold zE0 at h
  dsimp only at h
  refine gu_X6_says (br_t (nI_le (b := 40) (by omega) (by omega)) (p6_body (act := 3) (B := 13) hf (by omega) (by rw [bdE fr hf, if_neg n4, if_neg n6]) (p3_tA hT e (fun _ n1 e1 => sy13 ?_))))
  rw [nI_1]
  exact s7_zO hk hk (tA_le hT _) e1 (by omega) (fun n2 e2 => s7_zS (d := d + 2) hk (zO_le (tA_le hT _)) e2 (by omega) h)
theorem s7_zE {hh mm : Int32} {k : Nat} {d deep : Nat} {x : Int32} {T : TrS} {nums : Nat → Int32} {post : Int32 → Int32 → (Nat → Int32) → Prop} {fr : Nat} (hf : fr ≤ 6) (hk : k ≤ 6) (hT : T.1 ≤ 40) (e : tE T nums) (hd : deep + 6 ≤ 40) (h : ∀ nums' : Nat → Int32, tE (zE hh mm k fr x T).2 nums' → post (zE hh mm k fr x T).1 (nI (zE hh mm k fr x T).2.1) nums') : wpg_X6_says (d + 7) 0 (nI fr) (3 : Int32) x (nI deep) hh (nI k) mm (nI T.1) nums post := by
  unfold zE at h
  by_cases q4 : fr = 4
  · subst q4
    rw [if_pos rfl] at h
    refine gu_X6_says (br_t (nI_le (b := 40) (by omega) (by omega)) (p6_body (fr := 4) (act := 3) (B := 50) (by omega) (by omega) (by decide +kernel) (p3_tA hT e (fun _ n1 e1 => sy50 ?_))))
    rw [nI_1]
    exact s7_zE0 (fr := 1) (by omega) hk (by omega) (by omega) (tA_le hT _) e1 (by omega) (fun n2 e2 => s7_zG (d := d + 4) hk (zE0_le (tA_le hT _)) e2 (by omega) h)
  · rw [if_neg q4] at h
    by_cases q6 : fr = 6
    · subst q6
      rw [if_pos rfl] at h
      refine gu_X6_says (br_t (nI_le (b := 40) (by omega) (by omega)) (p6_body (fr := 6) (act := 3) (B := 71) (by omega) (by omega) (by decide +kernel) (p3_tA hT e (fun _ n1 e1 => sy71 ?_))))
      rw [nI_1]
      exact s7_zO (d := d + 1) hk hk (tA_le hT _) e1 (by omega) (fun n2 e2 => s7_zE0 (fr := 3) (by omega) hk (by omega) (by omega) (zO_le (tA_le hT _)) e2 (by omega) h)
    · rw [if_neg q6] at h
      exact s7_zE0 (d := d + 1) hf hk q4 q6 hT e (by omega) h
