/-! OvenRings$Town.pass(I)V -/
def wp_X5_pass_b2 (a1 : Int32) (v_doors : Int32) (v_fed : Int32) (v_houses : Int32) (v_km : Nat → Int32) (v_cell : Nat → Int32) (v_wanted_use : Int32) (v_goes_use : Int32) (v_wanted_steps_many : Int32) (v_goes_steps_many : Int32) (v_wanted_steps_numbers : Nat → Int32) (v_goes_steps_numbers : Nat → Int32)  (post : Int32 → Int32 → Int32 → Int32 → (Nat → Int32) → (Nat → Int32) → (Nat → Int32) → (Nat → Int32) → (Nat → Int32) → Prop) : Nat → Int32 → Int32 → Int32 → Int32 → Int32 → (Nat → Int32) → (Nat → Int32) → (Nat → Int32) → (Nat → Int32) → (Nat → Int32) → Prop
  | 0, _, _, _, _, _, _, _, _, _, _ => False
  | n + 1, x2, v_wants, v_burnt, v_hour, v_content, v_heat, v_warm, v_going, v_wanted_pile, v_goes_pile => (a1 ≤ x2 → (post v_wants v_burnt v_hour v_content v_heat v_warm v_going v_wanted_pile v_goes_pile)) ∧ (¬ a1 ≤ x2 → (wp_X5_burn v_fed v_wants v_burnt v_hour v_heat v_wanted_use v_wanted_steps_many v_wanted_pile v_wanted_steps_numbers (fun v_wants_2 v_burnt_3 v_heat_4 v_wanted_pile_5 => wp_X5_flow v_doors v_hour v_heat_4 v_going v_goes_use v_goes_steps_many v_goes_pile v_goes_steps_numbers (fun v_heat_6 v_going_7 v_goes_pile_8 => wp_X5_live v_hour v_houses v_content v_heat_6 v_km v_cell v_warm (fun v_content_9 v_heat_10 v_warm_11 => wp_X5_cool v_heat_10 (fun v_heat_12 => wp_X5_pass_b2 a1 v_doors v_fed v_houses v_km v_cell v_wanted_use v_goes_use v_wanted_steps_many v_goes_steps_many v_wanted_steps_numbers v_goes_steps_numbers post n (x2 + (1 : Int32)) v_wants_2 v_burnt_3 (v_hour + (1 : Int32)) v_content_9 v_heat_12 v_warm_11 v_going_7 v_wanted_pile_5 v_goes_pile_8))))))
theorem u_X5_pass_b2 {a1 : Int32} {v_doors : Int32} {v_fed : Int32} {v_houses : Int32} {v_km : Nat → Int32} {v_cell : Nat → Int32} {v_wanted_use : Int32} {v_goes_use : Int32} {v_wanted_steps_many : Int32} {v_goes_steps_many : Int32} {v_wanted_steps_numbers : Nat → Int32} {v_goes_steps_numbers : Nat → Int32}  {post : Int32 → Int32 → Int32 → Int32 → (Nat → Int32) → (Nat → Int32) → (Nat → Int32) → (Nat → Int32) → (Nat → Int32) → Prop} {n : Nat} {x2 : Int32} {v_wants : Int32} {v_burnt : Int32} {v_hour : Int32} {v_content : Int32} {v_heat : Nat → Int32} {v_warm : Nat → Int32} {v_going : Nat → Int32} {v_wanted_pile : Nat → Int32} {v_goes_pile : Nat → Int32} (h : wp_X5_pass_b2 a1 v_doors v_fed v_houses v_km v_cell v_wanted_use v_goes_use v_wanted_steps_many v_goes_steps_many v_wanted_steps_numbers v_goes_steps_numbers post (n + 1) x2 v_wants v_burnt v_hour v_content v_heat v_warm v_going v_wanted_pile v_goes_pile) : (a1 ≤ x2 → (post v_wants v_burnt v_hour v_content v_heat v_warm v_going v_wanted_pile v_goes_pile)) ∧ (¬ a1 ≤ x2 → (wp_X5_burn v_fed v_wants v_burnt v_hour v_heat v_wanted_use v_wanted_steps_many v_wanted_pile v_wanted_steps_numbers (fun v_wants_2 v_burnt_3 v_heat_4 v_wanted_pile_5 => wp_X5_flow v_doors v_hour v_heat_4 v_going v_goes_use v_goes_steps_many v_goes_pile v_goes_steps_numbers (fun v_heat_6 v_going_7 v_goes_pile_8 => wp_X5_live v_hour v_houses v_content v_heat_6 v_km v_cell v_warm (fun v_content_9 v_heat_10 v_warm_11 => wp_X5_cool v_heat_10 (fun v_heat_12 => wp_X5_pass_b2 a1 v_doors v_fed v_houses v_km v_cell v_wanted_use v_goes_use v_wanted_steps_many v_goes_steps_many v_wanted_steps_numbers v_goes_steps_numbers post n (x2 + (1 : Int32)) v_wants_2 v_burnt_3 (v_hour + (1 : Int32)) v_content_9 v_heat_12 v_warm_11 v_going_7 v_wanted_pile_5 v_goes_pile_8)))))) := h
def wp_X5_pass (a1 : Int32) (v_doors : Int32) (v_fed : Int32) (v_wants : Int32) (v_burnt : Int32) (v_hour : Int32) (v_houses : Int32) (v_content : Int32) (v_heat : Nat → Int32) (v_km : Nat → Int32) (v_cell : Nat → Int32) (v_warm : Nat → Int32) (v_going : Nat → Int32) (v_wanted_use : Int32) (v_goes_use : Int32) (v_wanted_steps_many : Int32) (v_wanted_pile : Nat → Int32) (v_goes_steps_many : Int32) (v_goes_pile : Nat → Int32) (v_wanted_steps_numbers : Nat → Int32) (v_goes_steps_numbers : Nat → Int32) (post : Int32 → Int32 → Int32 → Int32 → (Nat → Int32) → (Nat → Int32) → (Nat → Int32) → (Nat → Int32) → (Nat → Int32) → Prop) : Prop := ∃ n, wp_X5_pass_b2 a1 v_doors v_fed v_houses v_km v_cell v_wanted_use v_goes_use v_wanted_steps_many v_goes_steps_many v_wanted_steps_numbers v_goes_steps_numbers post n (0 : Int32) v_wants v_burnt v_hour v_content v_heat v_warm v_going v_wanted_pile v_goes_pile
abbrev rm_X5_pass : Room := { frames := 4, cells := 0, slots := 0, locals := 94 }
abbrev Qc_X5_pass (K : vGl) (q_h q_h_heat q_h_km q_h_cell q_h_warm q_h_going q_h_wanted q_h_goes q_h_wanted_steps q_h_wanted_pile q_h_goes_steps q_h_goes_pile q_h_wanted_steps_numbers q_h_goes_steps_numbers : Nat)  (g_h_tape : Value) (g_h_waiting : Value) (g_h_z : Value) (v_doors : Int32) (v_fed : Int32) (v_houses : Int32) (v_km : Nat → Int32) (v_cell : Nat → Int32) (v_wanted_use : Int32) (v_goes_use : Int32) (v_wanted_steps_many : Int32) (v_goes_steps_many : Int32) (v_wanted_steps_numbers : Nat → Int32) (v_goes_steps_numbers : Nat → Int32) (post : Int32 → Int32 → Int32 → Int32 → (Nat → Int32) → (Nat → Int32) → (Nat → Int32) → (Nat → Int32) → (Nat → Int32) → Prop) (A : Nat → Prop) : Array Value → State → Outcome → State → Prop := va_Qv (fun (u : Int32 × Int32 × Int32 × Int32 × (Nat → Int32) × (Nat → Int32) × (Nat → Int32) × (Nat → Int32) × (Nat → Int32)) => post u.1 u.2.1 u.2.2.1 u.2.2.2.1 u.2.2.2.2.1 u.2.2.2.2.2.1 u.2.2.2.2.2.2.1 u.2.2.2.2.2.2.2.1 u.2.2.2.2.2.2.2.2) (fun u t => vB K A [(q_h, .inr (4, [.ref q_h_heat, .int v_doors, .int v_fed, .int u.1, .int u.2.1, .int u.2.2.1, .int v_houses, .ref q_h_km, .ref q_h_cell, .ref q_h_warm, .int u.2.2.2.1, .ref q_h_going, .ref q_h_wanted, .ref q_h_goes, g_h_tape, g_h_waiting, g_h_z])), (q_h_heat, .inl (K.2.2.1, 16, .inl u.2.2.2.2.1)), (q_h_km, .inl (K.2.2.1, 8, .inl v_km)), (q_h_cell, .inl (K.2.2.1, 8, .inl v_cell)), (q_h_warm, .inl (K.2.2.1, 8, .inl u.2.2.2.2.2.1)), (q_h_going, .inl (K.2.2.1, 12, .inl u.2.2.2.2.2.2.1)), (q_h_wanted, .inr (0, [.ref q_h_wanted_steps, .ref q_h_wanted_pile, .int v_wanted_use])), (q_h_goes, .inr (0, [.ref q_h_goes_steps, .ref q_h_goes_pile, .int v_goes_use])), (q_h_wanted_steps, .inr (2, [.ref q_h_wanted_steps_numbers, .int v_wanted_steps_many])), (q_h_wanted_pile, .inl (K.2.2.1, 50, .inl u.2.2.2.2.2.2.2.1)), (q_h_goes_steps, .inr (2, [.ref q_h_goes_steps_numbers, .int v_goes_steps_many])), (q_h_goes_pile, .inl (K.2.2.1, 50, .inl u.2.2.2.2.2.2.2.2)), (q_h_wanted_steps_numbers, .inl (K.2.2.1, 50, .inl v_wanted_steps_numbers)), (q_h_goes_steps_numbers, .inl (K.2.2.1, 50, .inl v_goes_steps_numbers))] t) A
set_option maxHeartbeats 4000000 in
set_option maxRecDepth 100000 in
theorem t_X5_pass_b2 {p : Program} {l : Launch} {e : Env} {s : State} {m : MethodId} {args : Array Value} {below : List Frame} {meth : Method} {c : Code} {A : Nat → Prop} {K : vGl} {q_h q_h_heat q_h_km q_h_cell q_h_warm q_h_going q_h_wanted q_h_goes q_h_wanted_steps q_h_wanted_pile q_h_goes_steps q_h_goes_pile q_h_wanted_steps_numbers q_h_goes_steps_numbers : Nat} {g_h_tape : Value} {g_h_waiting : Value} {g_h_z : Value} {a1 : Int32} {v_doors : Int32} {v_fed : Int32} {v_houses : Int32} {v_km : Nat → Int32} {v_cell : Nat → Int32} {v_wanted_use : Int32} {v_goes_use : Int32} {v_wanted_steps_many : Int32} {v_goes_steps_many : Int32} {v_wanted_steps_numbers : Nat → Int32} {v_goes_steps_numbers : Nat → Int32} {post : Int32 → Int32 → Int32 → Int32 → (Nat → Int32) → (Nat → Int32) → (Nat → Int32) → (Nat → Int32) → (Nat → Int32) → Prop} (F : vFx p s m args meth c cX5_pass RX5 3 (none : Option Jvm.ClassFile.FieldType)) (hX : vX K A s) : ∀ (n : Nat) (x2 : Int32) (v_wants : Int32) (v_burnt : Int32) (v_hour : Int32) (v_content : Int32) (v_heat : Nat → Int32) (v_warm : Nat → Int32) (v_going : Nat → Int32) (v_wanted_pile : Nat → Int32) (v_goes_pile : Nat → Int32) (H : Heap) (locs : List Loc) (ls : Array Slot), wp_X5_pass_b2 a1 v_doors v_fed v_houses v_km v_cell v_wanted_use v_goes_use v_wanted_steps_many v_goes_steps_many v_wanted_steps_numbers v_goes_steps_numbers post n x2 v_wants v_burnt v_hour v_content v_heat v_warm v_going v_wanted_pile v_goes_pile → va_P K.1 vwCl [(q_h, .inr (4, [.ref q_h_heat, .int v_doors, .int v_fed, .int v_wants, .int v_burnt, .int v_hour, .int v_houses, .ref q_h_km, .ref q_h_cell, .ref q_h_warm, .int v_content, .ref q_h_going, .ref q_h_wanted, .ref q_h_goes, g_h_tape, g_h_waiting, g_h_z])), (q_h_heat, .inl (K.2.2.1, 16, .inl v_heat)), (q_h_km, .inl (K.2.2.1, 8, .inl v_km)), (q_h_cell, .inl (K.2.2.1, 8, .inl v_cell)), (q_h_warm, .inl (K.2.2.1, 8, .inl v_warm)), (q_h_going, .inl (K.2.2.1, 12, .inl v_going)), (q_h_wanted, .inr (0, [.ref q_h_wanted_steps, .ref q_h_wanted_pile, .int v_wanted_use])), (q_h_goes, .inr (0, [.ref q_h_goes_steps, .ref q_h_goes_pile, .int v_goes_use])), (q_h_wanted_steps, .inr (2, [.ref q_h_wanted_steps_numbers, .int v_wanted_steps_many])), (q_h_wanted_pile, .inl (K.2.2.1, 50, .inl v_wanted_pile)), (q_h_goes_steps, .inr (2, [.ref q_h_goes_steps_numbers, .int v_goes_steps_many])), (q_h_goes_pile, .inl (K.2.2.1, 50, .inl v_goes_pile)), (q_h_wanted_steps_numbers, .inl (K.2.2.1, 50, .inl v_wanted_steps_numbers)), (q_h_goes_steps_numbers, .inl (K.2.2.1, 50, .inl v_goes_steps_numbers))] H → va_D A [(q_h, .inr (4, [.ref q_h_heat, .int v_doors, .int v_fed, .int v_wants, .int v_burnt, .int v_hour, .int v_houses, .ref q_h_km, .ref q_h_cell, .ref q_h_warm, .int v_content, .ref q_h_going, .ref q_h_wanted, .ref q_h_goes, g_h_tape, g_h_waiting, g_h_z])), (q_h_heat, .inl (K.2.2.1, 16, .inl v_heat)), (q_h_km, .inl (K.2.2.1, 8, .inl v_km)), (q_h_cell, .inl (K.2.2.1, 8, .inl v_cell)), (q_h_warm, .inl (K.2.2.1, 8, .inl v_warm)), (q_h_going, .inl (K.2.2.1, 12, .inl v_going)), (q_h_wanted, .inr (0, [.ref q_h_wanted_steps, .ref q_h_wanted_pile, .int v_wanted_use])), (q_h_goes, .inr (0, [.ref q_h_goes_steps, .ref q_h_goes_pile, .int v_goes_use])), (q_h_wanted_steps, .inr (2, [.ref q_h_wanted_steps_numbers, .int v_wanted_steps_many])), (q_h_wanted_pile, .inl (K.2.2.1, 50, .inl v_wanted_pile)), (q_h_goes_steps, .inr (2, [.ref q_h_goes_steps_numbers, .int v_goes_steps_many])), (q_h_goes_pile, .inl (K.2.2.1, 50, .inl v_goes_pile)), (q_h_wanted_steps_numbers, .inl (K.2.2.1, 50, .inl v_wanted_steps_numbers)), (q_h_goes_steps_numbers, .inl (K.2.2.1, 50, .inl v_goes_steps_numbers))] → va_S A s.heap H locs → lv_has ls 3 [(0, .ref q_h), (1, .int a1), (2, .int x2)] → W p l e rm_X5_pass s m args below meth c H locs 0 0 (MQ below (Qc_X5_pass K q_h q_h_heat q_h_km q_h_cell q_h_warm q_h_going q_h_wanted q_h_goes q_h_wanted_steps q_h_wanted_pile q_h_goes_steps q_h_goes_pile q_h_wanted_steps_numbers q_h_goes_steps_numbers g_h_tape g_h_waiting g_h_z v_doors v_fed v_houses v_km v_cell v_wanted_use v_goes_use v_wanted_steps_many v_goes_steps_many v_wanted_steps_numbers v_goes_steps_numbers post A) args s 0 0 A) (F0 m 2 ls []) := by
  obtain ⟨hx, hb, hml, hown, hts, hr, hlocks⟩ := id F
  intro n
  induction n with
  | zero =>
    intro x2 v_wants v_burnt v_hour v_content v_heat v_warm v_going v_wanted_pile v_goes_pile H locs ls hw
    exact hw.elim
  | succ n ih =>
    intro x2 v_wants v_burnt v_hour v_content v_heat v_warm v_going v_wanted_pile v_goes_pile H locs ls hw hP hD hS hl
    have hw := u_X5_pass_b2 hw
    refine lv_iload_n hx hb dX5_pass_2 rfl (lv_at hl 2 rfl) ?_
    refine lv_iload_n hx hb dX5_pass_3 rfl (lv_at hl 1 rfl) ?_
    refine lv_icmp_ge (tgt := 39) hx hb dX5_pass_4 (by decide) (fun c_1 => ?_) (fun c_1 => ?_)
    · have hw := hw.1 c_1
      exact W.vret hx hb hr (fun t ht hW => ⟨⟨(v_wants, v_burnt, v_hour, v_content, v_heat, v_warm, v_going, v_wanted_pile, v_goes_pile), rfl, hw, by rw [ht]; exact hP, va_K.moved hW.alike hX.1, hD⟩, hS.F ht⟩) hS.2.2 dX5_pass_39 hlocks
    · have hw := hw.2 c_1
      refine lv_aload_n hx hb dX5_pass_7 rfl (lv_at hl 0 rfl) ?_
      refine vCallv (K := K) (wr := [(q_h_km, .inl (K.2.2.1, 8, .inl v_km)), (q_h_cell, .inl (K.2.2.1, 8, .inl v_cell)), (q_h_warm, .inl (K.2.2.1, 8, .inl v_warm)), (q_h_going, .inl (K.2.2.1, 12, .inl v_going)), (q_h_goes, .inr (0, [.ref q_h_goes_steps, .ref q_h_goes_pile, .int v_goes_use])), (q_h_goes_steps, .inr (2, [.ref q_h_goes_steps_numbers, .int v_goes_steps_many])), (q_h_goes_pile, .inl (K.2.2.1, 50, .inl v_goes_pile)), (q_h_goes_steps_numbers, .inl (K.2.2.1, 50, .inl v_goes_steps_numbers))]) (w1 := (fun (u : Int32 × Int32 × (Nat → Int32) × (Nat → Int32)) => [(q_h, .inr (4, [.ref q_h_heat, (.int v_doors), .int v_fed, .int u.1, .int u.2.1, .int v_hour, (.int v_houses), (.ref q_h_km), (.ref q_h_cell), (.ref q_h_warm), (.int v_content), (.ref q_h_going), .ref q_h_wanted, (.ref q_h_goes), g_h_tape, g_h_waiting, g_h_z])), (q_h_heat, .inl (K.2.2.1, 16, .inl u.2.2.1)), (q_h_wanted, .inr (0, [.ref q_h_wanted_steps, .ref q_h_wanted_pile, .int v_wanted_use])), (q_h_wanted_steps, .inr (2, [.ref q_h_wanted_steps_numbers, .int v_wanted_steps_many])), (q_h_wanted_pile, .inl (K.2.2.1, 50, .inl u.2.2.2)), (q_h_wanted_steps_numbers, .inl (K.2.2.1, 50, .inl v_wanted_steps_numbers))])) (va_runV (As := []) (rest := []) ⟨hx, hb, hml, hown, hts⟩ (c_X5_burn l K q_h q_h_heat q_h_wanted q_h_wanted_steps q_h_wanted_pile q_h_wanted_steps_numbers (.int v_doors) (.int v_houses) (.ref q_h_km) (.ref q_h_cell) (.ref q_h_warm) (.int v_content) (.ref q_h_going) (.ref q_h_goes) g_h_tape g_h_waiting g_h_z H.size v_fed v_wants v_burnt v_hour v_heat v_wanted_use v_wanted_steps_many v_wanted_pile v_wanted_steps_numbers _ hw) (cwV 0 hts (vGoodV k_547 k_549 k_8 k_58 k_550) rfl rfl rfl (by decide +kernel) ⟨Nat.le_of_ble_eq_true rfl, Nat.le_of_ble_eq_true rfl⟩) ⟨vPre_blind, va_recv hX.1 hP (ci := 4) (q0 := 0) rfl rfl, fun U hU hW => ⟨rfl, vPre_of hX hP hD hS [0, 1, 6, 8, 9, 12] rfl (by decide) U hU hW⟩⟩ rfl rfl hl.1 rfl (lv_room (Nat.le_of_ble_eq_true rfl)) dX5_pass_8 ⟨Nat.zero_le _, Nat.zero_le _⟩) hX hP hD hS [0, 1, 6, 8, 9, 12] [2, 3, 4, 5, 7, 10, 11, 13] rfl rfl (by decide) (by decide) (fun u H locs hw hP hD hS => ?_)
      obtain ⟨v_wants_2, v_burnt_3, v_heat_4, v_wanted_pile_5⟩ := u
      have hP : va_P K.1 vwCl [(q_h, .inr (4, [.ref q_h_heat, .int v_doors, .int v_fed, .int v_wants_2, .int v_burnt_3, .int v_hour, .int v_houses, .ref q_h_km, .ref q_h_cell, .ref q_h_warm, .int v_content, .ref q_h_going, .ref q_h_wanted, .ref q_h_goes, g_h_tape, g_h_waiting, g_h_z])), (q_h_heat, .inl (K.2.2.1, 16, .inl v_heat_4)), (q_h_km, .inl (K.2.2.1, 8, .inl v_km)), (q_h_cell, .inl (K.2.2.1, 8, .inl v_cell)), (q_h_warm, .inl (K.2.2.1, 8, .inl v_warm)), (q_h_going, .inl (K.2.2.1, 12, .inl v_going)), (q_h_wanted, .inr (0, [.ref q_h_wanted_steps, .ref q_h_wanted_pile, .int v_wanted_use])), (q_h_goes, .inr (0, [.ref q_h_goes_steps, .ref q_h_goes_pile, .int v_goes_use])), (q_h_wanted_steps, .inr (2, [.ref q_h_wanted_steps_numbers, .int v_wanted_steps_many])), (q_h_wanted_pile, .inl (K.2.2.1, 50, .inl v_wanted_pile_5)), (q_h_goes_steps, .inr (2, [.ref q_h_goes_steps_numbers, .int v_goes_steps_many])), (q_h_goes_pile, .inl (K.2.2.1, 50, .inl v_goes_pile)), (q_h_wanted_steps_numbers, .inl (K.2.2.1, 50, .inl v_wanted_steps_numbers)), (q_h_goes_steps_numbers, .inl (K.2.2.1, 50, .inl v_goes_steps_numbers))] H := hP.sub [8, 9, 0, 1, 2, 3, 10, 4, 11, 12, 5, 6, 13, 7] rfl
      have hD : va_D A [(q_h, .inr (4, [.ref q_h_heat, .int v_doors, .int v_fed, .int v_wants_2, .int v_burnt_3, .int v_hour, .int v_houses, .ref q_h_km, .ref q_h_cell, .ref q_h_warm, .int v_content, .ref q_h_going, .ref q_h_wanted, .ref q_h_goes, g_h_tape, g_h_waiting, g_h_z])), (q_h_heat, .inl (K.2.2.1, 16, .inl v_heat_4)), (q_h_km, .inl (K.2.2.1, 8, .inl v_km)), (q_h_cell, .inl (K.2.2.1, 8, .inl v_cell)), (q_h_warm, .inl (K.2.2.1, 8, .inl v_warm)), (q_h_going, .inl (K.2.2.1, 12, .inl v_going)), (q_h_wanted, .inr (0, [.ref q_h_wanted_steps, .ref q_h_wanted_pile, .int v_wanted_use])), (q_h_goes, .inr (0, [.ref q_h_goes_steps, .ref q_h_goes_pile, .int v_goes_use])), (q_h_wanted_steps, .inr (2, [.ref q_h_wanted_steps_numbers, .int v_wanted_steps_many])), (q_h_wanted_pile, .inl (K.2.2.1, 50, .inl v_wanted_pile_5)), (q_h_goes_steps, .inr (2, [.ref q_h_goes_steps_numbers, .int v_goes_steps_many])), (q_h_goes_pile, .inl (K.2.2.1, 50, .inl v_goes_pile)), (q_h_wanted_steps_numbers, .inl (K.2.2.1, 50, .inl v_wanted_steps_numbers)), (q_h_goes_steps_numbers, .inl (K.2.2.1, 50, .inl v_goes_steps_numbers))] := hD.sub [8, 9, 0, 1, 2, 3, 10, 4, 11, 12, 5, 6, 13, 7] (by decide) rfl
      refine lv_aload_n hx hb dX5_pass_11 rfl (lv_at hl 0 rfl) ?_
      refine vCallv (K := K) (wr := [(q_h_km, .inl (K.2.2.1, 8, .inl v_km)), (q_h_cell, .inl (K.2.2.1, 8, .inl v_cell)), (q_h_warm, .inl (K.2.2.1, 8, .inl v_warm)), (q_h_wanted, .inr (0, [.ref q_h_wanted_steps, .ref q_h_wanted_pile, .int v_wanted_use])), (q_h_wanted_steps, .inr (2, [.ref q_h_wanted_steps_numbers, .int v_wanted_steps_many])), (q_h_wanted_pile, .inl (K.2.2.1, 50, .inl v_wanted_pile_5)), (q_h_wanted_steps_numbers, .inl (K.2.2.1, 50, .inl v_wanted_steps_numbers))]) (w1 := (fun (u : (Nat → Int32) × (Nat → Int32) × (Nat → Int32)) => [(q_h, .inr (4, [.ref q_h_heat, .int v_doors, (.int v_fed), (.int v_wants_2), (.int v_burnt_3), .int v_hour, (.int v_houses), (.ref q_h_km), (.ref q_h_cell), (.ref q_h_warm), (.int v_content), .ref q_h_going, (.ref q_h_wanted), .ref q_h_goes, g_h_tape, g_h_waiting, g_h_z])), (q_h_heat, .inl (K.2.2.1, 16, .inl u.1)), (q_h_going, .inl (K.2.2.1, 12, .inl u.2.1)), (q_h_goes, .inr (0, [.ref q_h_goes_steps, .ref q_h_goes_pile, .int v_goes_use])), (q_h_goes_steps, .inr (2, [.ref q_h_goes_steps_numbers, .int v_goes_steps_many])), (q_h_goes_pile, .inl (K.2.2.1, 50, .inl u.2.2)), (q_h_goes_steps_numbers, .inl (K.2.2.1, 50, .inl v_goes_steps_numbers))])) (va_runV (As := []) (rest := []) ⟨hx, hb, hml, hown, hts⟩ (c_X5_flow l K q_h q_h_heat q_h_going q_h_goes q_h_goes_steps q_h_goes_pile q_h_goes_steps_numbers (.int v_fed) (.int v_wants_2) (.int v_burnt_3) (.int v_houses) (.ref q_h_km) (.ref q_h_cell) (.ref q_h_warm) (.int v_content) (.ref q_h_wanted) g_h_tape g_h_waiting g_h_z H.size v_doors v_hour v_heat_4 v_going v_goes_use v_goes_steps_many v_goes_pile v_goes_steps_numbers _ hw) (cwV 0 hts (vGoodV k_554 k_556 k_9 k_58 k_557) rfl rfl rfl (by decide +kernel) ⟨Nat.le_of_ble_eq_true rfl, Nat.le_of_ble_eq_true rfl⟩) ⟨vPre_blind, va_recv hX.1 hP (ci := 4) (q0 := 0) rfl rfl, fun U hU hW => ⟨rfl, vPre_of hX hP hD hS [0, 1, 5, 7, 10, 11, 13] rfl (by decide) U hU hW⟩⟩ rfl rfl hl.1 rfl (lv_room (Nat.le_of_ble_eq_true rfl)) dX5_pass_12 ⟨Nat.zero_le _, Nat.zero_le _⟩) hX hP hD hS [0, 1, 5, 7, 10, 11, 13] [2, 3, 4, 6, 8, 9, 12] rfl rfl (by decide) (by decide) (fun u H locs hw hP hD hS => ?_)
      obtain ⟨v_heat_6, v_going_7, v_goes_pile_8⟩ := u
      have hP : va_P K.1 vwCl [(q_h, .inr (4, [.ref q_h_heat, .int v_doors, .int v_fed, .int v_wants_2, .int v_burnt_3, .int v_hour, .int v_houses, .ref q_h_km, .ref q_h_cell, .ref q_h_warm, .int v_content, .ref q_h_going, .ref q_h_wanted, .ref q_h_goes, g_h_tape, g_h_waiting, g_h_z])), (q_h_heat, .inl (K.2.2.1, 16, .inl v_heat_6)), (q_h_km, .inl (K.2.2.1, 8, .inl v_km)), (q_h_cell, .inl (K.2.2.1, 8, .inl v_cell)), (q_h_warm, .inl (K.2.2.1, 8, .inl v_warm)), (q_h_going, .inl (K.2.2.1, 12, .inl v_going_7)), (q_h_wanted, .inr (0, [.ref q_h_wanted_steps, .ref q_h_wanted_pile, .int v_wanted_use])), (q_h_goes, .inr (0, [.ref q_h_goes_steps, .ref q_h_goes_pile, .int v_goes_use])), (q_h_wanted_steps, .inr (2, [.ref q_h_wanted_steps_numbers, .int v_wanted_steps_many])), (q_h_wanted_pile, .inl (K.2.2.1, 50, .inl v_wanted_pile_5)), (q_h_goes_steps, .inr (2, [.ref q_h_goes_steps_numbers, .int v_goes_steps_many])), (q_h_goes_pile, .inl (K.2.2.1, 50, .inl v_goes_pile_8)), (q_h_wanted_steps_numbers, .inl (K.2.2.1, 50, .inl v_wanted_steps_numbers)), (q_h_goes_steps_numbers, .inl (K.2.2.1, 50, .inl v_goes_steps_numbers))] H := hP.sub [7, 8, 0, 1, 2, 9, 3, 10, 4, 5, 11, 12, 6, 13] rfl
      have hD : va_D A [(q_h, .inr (4, [.ref q_h_heat, .int v_doors, .int v_fed, .int v_wants_2, .int v_burnt_3, .int v_hour, .int v_houses, .ref q_h_km, .ref q_h_cell, .ref q_h_warm, .int v_content, .ref q_h_going, .ref q_h_wanted, .ref q_h_goes, g_h_tape, g_h_waiting, g_h_z])), (q_h_heat, .inl (K.2.2.1, 16, .inl v_heat_6)), (q_h_km, .inl (K.2.2.1, 8, .inl v_km)), (q_h_cell, .inl (K.2.2.1, 8, .inl v_cell)), (q_h_warm, .inl (K.2.2.1, 8, .inl v_warm)), (q_h_going, .inl (K.2.2.1, 12, .inl v_going_7)), (q_h_wanted, .inr (0, [.ref q_h_wanted_steps, .ref q_h_wanted_pile, .int v_wanted_use])), (q_h_goes, .inr (0, [.ref q_h_goes_steps, .ref q_h_goes_pile, .int v_goes_use])), (q_h_wanted_steps, .inr (2, [.ref q_h_wanted_steps_numbers, .int v_wanted_steps_many])), (q_h_wanted_pile, .inl (K.2.2.1, 50, .inl v_wanted_pile_5)), (q_h_goes_steps, .inr (2, [.ref q_h_goes_steps_numbers, .int v_goes_steps_many])), (q_h_goes_pile, .inl (K.2.2.1, 50, .inl v_goes_pile_8)), (q_h_wanted_steps_numbers, .inl (K.2.2.1, 50, .inl v_wanted_steps_numbers)), (q_h_goes_steps_numbers, .inl (K.2.2.1, 50, .inl v_goes_steps_numbers))] := hD.sub [7, 8, 0, 1, 2, 9, 3, 10, 4, 5, 11, 12, 6, 13] (by decide) rfl
      refine lv_aload_n hx hb dX5_pass_15 rfl (lv_at hl 0 rfl) ?_
      refine vCallv (K := K) (wr := [(q_h_going, .inl (K.2.2.1, 12, .inl v_going_7)), (q_h_wanted, .inr (0, [.ref q_h_wanted_steps, .ref q_h_wanted_pile, .int v_wanted_use])), (q_h_goes, .inr (0, [.ref q_h_goes_steps, .ref q_h_goes_pile, .int v_goes_use])), (q_h_wanted_steps, .inr (2, [.ref q_h_wanted_steps_numbers, .int v_wanted_steps_many])), (q_h_wanted_pile, .inl (K.2.2.1, 50, .inl v_wanted_pile_5)), (q_h_goes_steps, .inr (2, [.ref q_h_goes_steps_numbers, .int v_goes_steps_many])), (q_h_goes_pile, .inl (K.2.2.1, 50, .inl v_goes_pile_8)), (q_h_wanted_steps_numbers, .inl (K.2.2.1, 50, .inl v_wanted_steps_numbers)), (q_h_goes_steps_numbers, .inl (K.2.2.1, 50, .inl v_goes_steps_numbers))]) (w1 := (fun (u : Int32 × (Nat → Int32) × (Nat → Int32)) => [(q_h, .inr (4, [.ref q_h_heat, (.int v_doors), (.int v_fed), (.int v_wants_2), (.int v_burnt_3), .int v_hour, .int v_houses, .ref q_h_km, .ref q_h_cell, .ref q_h_warm, .int u.1, (.ref q_h_going), (.ref q_h_wanted), (.ref q_h_goes), g_h_tape, g_h_waiting, g_h_z])), (q_h_heat, .inl (K.2.2.1, 16, .inl u.2.1)), (q_h_km, .inl (K.2.2.1, 8, .inl v_km)), (q_h_cell, .inl (K.2.2.1, 8, .inl v_cell)), (q_h_warm, .inl (K.2.2.1, 8, .inl u.2.2))])) (va_runV (As := []) (rest := []) ⟨hx, hb, hml, hown, hts⟩ (c_X5_live l K q_h q_h_heat q_h_km q_h_cell q_h_warm (.int v_doors) (.int v_fed) (.int v_wants_2) (.int v_burnt_3) (.ref q_h_going) (.ref q_h_wanted) (.ref q_h_goes) g_h_tape g_h_waiting g_h_z H.size v_hour v_houses v_content v_heat_6 v_km v_cell v_warm _ hw) (cwV 0 hts (vGoodV k_558 k_560 k_10 k_58 k_561) rfl rfl rfl (by decide +kernel) ⟨Nat.le_of_ble_eq_true rfl, Nat.le_of_ble_eq_true rfl⟩) ⟨vPre_blind, va_recv hX.1 hP (ci := 4) (q0 := 0) rfl rfl, fun U hU hW => ⟨rfl, vPre_of hX hP hD hS [0, 1, 2, 3, 4] rfl (by decide) U hU hW⟩⟩ rfl rfl hl.1 rfl (lv_room (Nat.le_of_ble_eq_true rfl)) dX5_pass_16 ⟨Nat.zero_le _, Nat.zero_le _⟩) hX hP hD hS [0, 1, 2, 3, 4] [5, 6, 7, 8, 9, 10, 11, 12, 13] rfl rfl (by decide) (by decide) (fun u H locs hw hP hD hS => ?_)
      obtain ⟨v_content_9, v_heat_10, v_warm_11⟩ := u
      have hP : va_P K.1 vwCl [(q_h, .inr (4, [.ref q_h_heat, .int v_doors, .int v_fed, .int v_wants_2, .int v_burnt_3, .int v_hour, .int v_houses, .ref q_h_km, .ref q_h_cell, .ref q_h_warm, .int v_content_9, .ref q_h_going, .ref q_h_wanted, .ref q_h_goes, g_h_tape, g_h_waiting, g_h_z])), (q_h_heat, .inl (K.2.2.1, 16, .inl v_heat_10)), (q_h_km, .inl (K.2.2.1, 8, .inl v_km)), (q_h_cell, .inl (K.2.2.1, 8, .inl v_cell)), (q_h_warm, .inl (K.2.2.1, 8, .inl v_warm_11)), (q_h_going, .inl (K.2.2.1, 12, .inl v_going_7)), (q_h_wanted, .inr (0, [.ref q_h_wanted_steps, .ref q_h_wanted_pile, .int v_wanted_use])), (q_h_goes, .inr (0, [.ref q_h_goes_steps, .ref q_h_goes_pile, .int v_goes_use])), (q_h_wanted_steps, .inr (2, [.ref q_h_wanted_steps_numbers, .int v_wanted_steps_many])), (q_h_wanted_pile, .inl (K.2.2.1, 50, .inl v_wanted_pile_5)), (q_h_goes_steps, .inr (2, [.ref q_h_goes_steps_numbers, .int v_goes_steps_many])), (q_h_goes_pile, .inl (K.2.2.1, 50, .inl v_goes_pile_8)), (q_h_wanted_steps_numbers, .inl (K.2.2.1, 50, .inl v_wanted_steps_numbers)), (q_h_goes_steps_numbers, .inl (K.2.2.1, 50, .inl v_goes_steps_numbers))] H := hP.sub [9, 10, 11, 12, 13, 0, 1, 2, 3, 4, 5, 6, 7, 8] rfl
      have hD : va_D A [(q_h, .inr (4, [.ref q_h_heat, .int v_doors, .int v_fed, .int v_wants_2, .int v_burnt_3, .int v_hour, .int v_houses, .ref q_h_km, .ref q_h_cell, .ref q_h_warm, .int v_content_9, .ref q_h_going, .ref q_h_wanted, .ref q_h_goes, g_h_tape, g_h_waiting, g_h_z])), (q_h_heat, .inl (K.2.2.1, 16, .inl v_heat_10)), (q_h_km, .inl (K.2.2.1, 8, .inl v_km)), (q_h_cell, .inl (K.2.2.1, 8, .inl v_cell)), (q_h_warm, .inl (K.2.2.1, 8, .inl v_warm_11)), (q_h_going, .inl (K.2.2.1, 12, .inl v_going_7)), (q_h_wanted, .inr (0, [.ref q_h_wanted_steps, .ref q_h_wanted_pile, .int v_wanted_use])), (q_h_goes, .inr (0, [.ref q_h_goes_steps, .ref q_h_goes_pile, .int v_goes_use])), (q_h_wanted_steps, .inr (2, [.ref q_h_wanted_steps_numbers, .int v_wanted_steps_many])), (q_h_wanted_pile, .inl (K.2.2.1, 50, .inl v_wanted_pile_5)), (q_h_goes_steps, .inr (2, [.ref q_h_goes_steps_numbers, .int v_goes_steps_many])), (q_h_goes_pile, .inl (K.2.2.1, 50, .inl v_goes_pile_8)), (q_h_wanted_steps_numbers, .inl (K.2.2.1, 50, .inl v_wanted_steps_numbers)), (q_h_goes_steps_numbers, .inl (K.2.2.1, 50, .inl v_goes_steps_numbers))] := hD.sub [9, 10, 11, 12, 13, 0, 1, 2, 3, 4, 5, 6, 7, 8] (by decide) rfl
      refine lv_aload_n hx hb dX5_pass_19 rfl (lv_at hl 0 rfl) ?_
      refine vCallv (K := K) (wr := [(q_h_km, .inl (K.2.2.1, 8, .inl v_km)), (q_h_cell, .inl (K.2.2.1, 8, .inl v_cell)), (q_h_warm, .inl (K.2.2.1, 8, .inl v_warm_11)), (q_h_going, .inl (K.2.2.1, 12, .inl v_going_7)), (q_h_wanted, .inr (0, [.ref q_h_wanted_steps, .ref q_h_wanted_pile, .int v_wanted_use])), (q_h_goes, .inr (0, [.ref q_h_goes_steps, .ref q_h_goes_pile, .int v_goes_use])), (q_h_wanted_steps, .inr (2, [.ref q_h_wanted_steps_numbers, .int v_wanted_steps_many])), (q_h_wanted_pile, .inl (K.2.2.1, 50, .inl v_wanted_pile_5)), (q_h_goes_steps, .inr (2, [.ref q_h_goes_steps_numbers, .int v_goes_steps_many])), (q_h_goes_pile, .inl (K.2.2.1, 50, .inl v_goes_pile_8)), (q_h_wanted_steps_numbers, .inl (K.2.2.1, 50, .inl v_wanted_steps_numbers)), (q_h_goes_steps_numbers, .inl (K.2.2.1, 50, .inl v_goes_steps_numbers))]) (w1 := (fun (u : (Nat → Int32)) => [(q_h, .inr (4, [.ref q_h_heat, (.int v_doors), (.int v_fed), (.int v_wants_2), (.int v_burnt_3), (.int v_hour), (.int v_houses), (.ref q_h_km), (.ref q_h_cell), (.ref q_h_warm), (.int v_content_9), (.ref q_h_going), (.ref q_h_wanted), (.ref q_h_goes), g_h_tape, g_h_waiting, g_h_z])), (q_h_heat, .inl (K.2.2.1, 16, .inl u))])) (va_runV (As := []) (rest := []) ⟨hx, hb, hml, hown, hts⟩ (c_X5_cool l K q_h q_h_heat (.int v_doors) (.int v_fed) (.int v_wants_2) (.int v_burnt_3) (.int v_hour) (.int v_houses) (.ref q_h_km) (.ref q_h_cell) (.ref q_h_warm) (.int v_content_9) (.ref q_h_going) (.ref q_h_wanted) (.ref q_h_goes) g_h_tape g_h_waiting g_h_z H.size v_heat_10 _ hw) (cwV 0 hts (vGoodV k_564 k_566 k_11 k_58 k_567) rfl rfl rfl (by decide +kernel) ⟨Nat.le_of_ble_eq_true rfl, Nat.le_of_ble_eq_true rfl⟩) ⟨vPre_blind, va_recv hX.1 hP (ci := 4) (q0 := 0) rfl rfl, fun U hU hW => ⟨rfl, vPre_of hX hP hD hS [0, 1] rfl (by decide) U hU hW⟩⟩ rfl rfl hl.1 rfl (lv_room (Nat.le_of_ble_eq_true rfl)) dX5_pass_20 ⟨Nat.zero_le _, Nat.zero_le _⟩) hX hP hD hS [0, 1] [2, 3, 4, 5, 6, 7, 8, 9, 10, 11, 12, 13] rfl rfl (by decide) (by decide) (fun v_heat_12 H locs hw hP hD hS => ?_)
      have hP : va_P K.1 vwCl [(q_h, .inr (4, [.ref q_h_heat, .int v_doors, .int v_fed, .int v_wants_2, .int v_burnt_3, .int v_hour, .int v_houses, .ref q_h_km, .ref q_h_cell, .ref q_h_warm, .int v_content_9, .ref q_h_going, .ref q_h_wanted, .ref q_h_goes, g_h_tape, g_h_waiting, g_h_z])), (q_h_heat, .inl (K.2.2.1, 16, .inl v_heat_12)), (q_h_km, .inl (K.2.2.1, 8, .inl v_km)), (q_h_cell, .inl (K.2.2.1, 8, .inl v_cell)), (q_h_warm, .inl (K.2.2.1, 8, .inl v_warm_11)), (q_h_going, .inl (K.2.2.1, 12, .inl v_going_7)), (q_h_wanted, .inr (0, [.ref q_h_wanted_steps, .ref q_h_wanted_pile, .int v_wanted_use])), (q_h_goes, .inr (0, [.ref q_h_goes_steps, .ref q_h_goes_pile, .int v_goes_use])), (q_h_wanted_steps, .inr (2, [.ref q_h_wanted_steps_numbers, .int v_wanted_steps_many])), (q_h_wanted_pile, .inl (K.2.2.1, 50, .inl v_wanted_pile_5)), (q_h_goes_steps, .inr (2, [.ref q_h_goes_steps_numbers, .int v_goes_steps_many])), (q_h_goes_pile, .inl (K.2.2.1, 50, .inl v_goes_pile_8)), (q_h_wanted_steps_numbers, .inl (K.2.2.1, 50, .inl v_wanted_steps_numbers)), (q_h_goes_steps_numbers, .inl (K.2.2.1, 50, .inl v_goes_steps_numbers))] H := hP.sub [12, 13, 0, 1, 2, 3, 4, 5, 6, 7, 8, 9, 10, 11] rfl
      have hD : va_D A [(q_h, .inr (4, [.ref q_h_heat, .int v_doors, .int v_fed, .int v_wants_2, .int v_burnt_3, .int v_hour, .int v_houses, .ref q_h_km, .ref q_h_cell, .ref q_h_warm, .int v_content_9, .ref q_h_going, .ref q_h_wanted, .ref q_h_goes, g_h_tape, g_h_waiting, g_h_z])), (q_h_heat, .inl (K.2.2.1, 16, .inl v_heat_12)), (q_h_km, .inl (K.2.2.1, 8, .inl v_km)), (q_h_cell, .inl (K.2.2.1, 8, .inl v_cell)), (q_h_warm, .inl (K.2.2.1, 8, .inl v_warm_11)), (q_h_going, .inl (K.2.2.1, 12, .inl v_going_7)), (q_h_wanted, .inr (0, [.ref q_h_wanted_steps, .ref q_h_wanted_pile, .int v_wanted_use])), (q_h_goes, .inr (0, [.ref q_h_goes_steps, .ref q_h_goes_pile, .int v_goes_use])), (q_h_wanted_steps, .inr (2, [.ref q_h_wanted_steps_numbers, .int v_wanted_steps_many])), (q_h_wanted_pile, .inl (K.2.2.1, 50, .inl v_wanted_pile_5)), (q_h_goes_steps, .inr (2, [.ref q_h_goes_steps_numbers, .int v_goes_steps_many])), (q_h_goes_pile, .inl (K.2.2.1, 50, .inl v_goes_pile_8)), (q_h_wanted_steps_numbers, .inl (K.2.2.1, 50, .inl v_wanted_steps_numbers)), (q_h_goes_steps_numbers, .inl (K.2.2.1, 50, .inl v_goes_steps_numbers))] := hD.sub [12, 13, 0, 1, 2, 3, 4, 5, 6, 7, 8, 9, 10, 11] (by decide) rfl
      refine lv_aload_n hx hb dX5_pass_23 rfl (lv_at hl 0 rfl) ?_
      refine lv_dup hx hb dX5_pass_24 rfl ?_
      refine va_get (D := K.1) (ci := 4) (v := .int v_hour) (C := RX5) (T := TX5) (N := 17) hx hb hts iwX5 hown hX.1 hP 0 rfl rfl 5 (by decide) (hts _ k_142) (fun _ h9 => h9) rfl dX5_pass_25 ?_
      refine lv_iconst (v := (1 : Int32)) hx hb dX5_pass_28 (by decide) ?_
      refine lv_iadd hx hb dX5_pass_29 ?_
      refine va_put (D := K.1) (ci := 4) (v := .int (v_hour + (1 : Int32))) (ty := .int) (C := RX5) (T := TX5) (N := 17) hx hb hts iwX5 tyX5 tyX5_ok nmX5 hown hX.1 hP hD hS 0 rfl rfl 5 (by decide) (hts _ k_142) (fun _ h9 => h9) rfl (by decide +kernel) rfl rfl (Nat.le_of_ble_eq_true rfl) dX5_pass_30 (fun H locs hP hD hS => ?_)
      have hP : va_P K.1 vwCl [(q_h, .inr (4, [.ref q_h_heat, .int v_doors, .int v_fed, .int v_wants_2, .int v_burnt_3, .int (v_hour + (1 : Int32)), .int v_houses, .ref q_h_km, .ref q_h_cell, .ref q_h_warm, .int v_content_9, .ref q_h_going, .ref q_h_wanted, .ref q_h_goes, g_h_tape, g_h_waiting, g_h_z])), (q_h_heat, .inl (K.2.2.1, 16, .inl v_heat_12)), (q_h_km, .inl (K.2.2.1, 8, .inl v_km)), (q_h_cell, .inl (K.2.2.1, 8, .inl v_cell)), (q_h_warm, .inl (K.2.2.1, 8, .inl v_warm_11)), (q_h_going, .inl (K.2.2.1, 12, .inl v_going_7)), (q_h_wanted, .inr (0, [.ref q_h_wanted_steps, .ref q_h_wanted_pile, .int v_wanted_use])), (q_h_goes, .inr (0, [.ref q_h_goes_steps, .ref q_h_goes_pile, .int v_goes_use])), (q_h_wanted_steps, .inr (2, [.ref q_h_wanted_steps_numbers, .int v_wanted_steps_many])), (q_h_wanted_pile, .inl (K.2.2.1, 50, .inl v_wanted_pile_5)), (q_h_goes_steps, .inr (2, [.ref q_h_goes_steps_numbers, .int v_goes_steps_many])), (q_h_goes_pile, .inl (K.2.2.1, 50, .inl v_goes_pile_8)), (q_h_wanted_steps_numbers, .inl (K.2.2.1, 50, .inl v_wanted_steps_numbers)), (q_h_goes_steps_numbers, .inl (K.2.2.1, 50, .inl v_goes_steps_numbers))] H := hP
      have hD : va_D A [(q_h, .inr (4, [.ref q_h_heat, .int v_doors, .int v_fed, .int v_wants_2, .int v_burnt_3, .int (v_hour + (1 : Int32)), .int v_houses, .ref q_h_km, .ref q_h_cell, .ref q_h_warm, .int v_content_9, .ref q_h_going, .ref q_h_wanted, .ref q_h_goes, g_h_tape, g_h_waiting, g_h_z])), (q_h_heat, .inl (K.2.2.1, 16, .inl v_heat_12)), (q_h_km, .inl (K.2.2.1, 8, .inl v_km)), (q_h_cell, .inl (K.2.2.1, 8, .inl v_cell)), (q_h_warm, .inl (K.2.2.1, 8, .inl v_warm_11)), (q_h_going, .inl (K.2.2.1, 12, .inl v_going_7)), (q_h_wanted, .inr (0, [.ref q_h_wanted_steps, .ref q_h_wanted_pile, .int v_wanted_use])), (q_h_goes, .inr (0, [.ref q_h_goes_steps, .ref q_h_goes_pile, .int v_goes_use])), (q_h_wanted_steps, .inr (2, [.ref q_h_wanted_steps_numbers, .int v_wanted_steps_many])), (q_h_wanted_pile, .inl (K.2.2.1, 50, .inl v_wanted_pile_5)), (q_h_goes_steps, .inr (2, [.ref q_h_goes_steps_numbers, .int v_goes_steps_many])), (q_h_goes_pile, .inl (K.2.2.1, 50, .inl v_goes_pile_8)), (q_h_wanted_steps_numbers, .inl (K.2.2.1, 50, .inl v_wanted_steps_numbers)), (q_h_goes_steps_numbers, .inl (K.2.2.1, 50, .inl v_goes_steps_numbers))] := hD
      refine lv_iinc (v := (x2 + (1 : Int32))) (lv' := [(2, .int (x2 + (1 : Int32))), (0, .ref q_h), (1, .int a1)]) hx hb dX5_pass_33 hl (k := 2) rfl rfl (by decide) rfl (fun ls hl => ?_)
      refine lv_goto (tgt := 2) hx hb dX5_pass_36 (by decide) ?_
      exact ih _ _ _ _ _ _ _ _ _ _ _ _ _ hw hP hD hS (lv_sub hl [1, 2, 0] rfl)
set_option maxHeartbeats 4000000 in
set_option maxRecDepth 100000 in
theorem c_X5_pass (l : Launch) (K : vGl) (q_h q_h_heat q_h_km q_h_cell q_h_warm q_h_going q_h_wanted q_h_goes q_h_wanted_steps q_h_wanted_pile q_h_goes_steps q_h_goes_pile q_h_wanted_steps_numbers q_h_goes_steps_numbers : Nat)  (g_h_tape : Value) (g_h_waiting : Value) (g_h_z : Value) (sz : Nat) (a1 : Int32) (v_doors : Int32) (v_fed : Int32) (v_wants : Int32) (v_burnt : Int32) (v_hour : Int32) (v_houses : Int32) (v_content : Int32) (v_heat : Nat → Int32) (v_km : Nat → Int32) (v_cell : Nat → Int32) (v_warm : Nat → Int32) (v_going : Nat → Int32) (v_wanted_use : Int32) (v_goes_use : Int32) (v_wanted_steps_many : Int32) (v_wanted_pile : Nat → Int32) (v_goes_steps_many : Int32) (v_goes_pile : Nat → Int32) (v_wanted_steps_numbers : Nat → Int32) (v_goes_steps_numbers : Nat → Int32) (post : Int32 → Int32 → Int32 → Int32 → (Nat → Int32) → (Nat → Int32) → (Nat → Int32) → (Nat → Int32) → (Nat → Int32) → Prop) (hw : wp_X5_pass a1 v_doors v_fed v_wants v_burnt v_hour v_houses v_content v_heat v_km v_cell v_warm v_going v_wanted_use v_goes_use v_wanted_steps_many v_wanted_pile v_goes_steps_many v_goes_pile v_wanted_steps_numbers v_goes_steps_numbers post) : Met l yX5_pass (.code yX5_pass cX5_pass 3 (none : Option Jvm.ClassFile.FieldType) :: vT) rm_X5_pass (va_Pc [.ref q_h, .int a1] (vPre K [(q_h, .inr (4, [.ref q_h_heat, .int v_doors, .int v_fed, .int v_wants, .int v_burnt, .int v_hour, .int v_houses, .ref q_h_km, .ref q_h_cell, .ref q_h_warm, .int v_content, .ref q_h_going, .ref q_h_wanted, .ref q_h_goes, g_h_tape, g_h_waiting, g_h_z])), (q_h_heat, .inl (K.2.2.1, 16, .inl v_heat)), (q_h_km, .inl (K.2.2.1, 8, .inl v_km)), (q_h_cell, .inl (K.2.2.1, 8, .inl v_cell)), (q_h_warm, .inl (K.2.2.1, 8, .inl v_warm)), (q_h_going, .inl (K.2.2.1, 12, .inl v_going)), (q_h_wanted, .inr (0, [.ref q_h_wanted_steps, .ref q_h_wanted_pile, .int v_wanted_use])), (q_h_goes, .inr (0, [.ref q_h_goes_steps, .ref q_h_goes_pile, .int v_goes_use])), (q_h_wanted_steps, .inr (2, [.ref q_h_wanted_steps_numbers, .int v_wanted_steps_many])), (q_h_wanted_pile, .inl (K.2.2.1, 50, .inl v_wanted_pile)), (q_h_goes_steps, .inr (2, [.ref q_h_goes_steps_numbers, .int v_goes_steps_many])), (q_h_goes_pile, .inl (K.2.2.1, 50, .inl v_goes_pile)), (q_h_wanted_steps_numbers, .inl (K.2.2.1, 50, .inl v_wanted_steps_numbers)), (q_h_goes_steps_numbers, .inl (K.2.2.1, 50, .inl v_goes_steps_numbers))] sz)) (Qc_X5_pass K q_h q_h_heat q_h_km q_h_cell q_h_warm q_h_going q_h_wanted q_h_goes q_h_wanted_steps q_h_wanted_pile q_h_goes_steps q_h_goes_pile q_h_wanted_steps_numbers q_h_goes_steps_numbers g_h_tape g_h_waiting g_h_z v_doors v_fed v_houses v_km v_cell v_wanted_use v_goes_use v_wanted_steps_many v_goes_steps_many v_wanted_steps_numbers v_goes_steps_numbers post (va_A [(q_h, .inr (4, [.ref q_h_heat, .int v_doors, .int v_fed, .int v_wants, .int v_burnt, .int v_hour, .int v_houses, .ref q_h_km, .ref q_h_cell, .ref q_h_warm, .int v_content, .ref q_h_going, .ref q_h_wanted, .ref q_h_goes, g_h_tape, g_h_waiting, g_h_z])), (q_h_heat, .inl (K.2.2.1, 16, .inl v_heat)), (q_h_km, .inl (K.2.2.1, 8, .inl v_km)), (q_h_cell, .inl (K.2.2.1, 8, .inl v_cell)), (q_h_warm, .inl (K.2.2.1, 8, .inl v_warm)), (q_h_going, .inl (K.2.2.1, 12, .inl v_going)), (q_h_wanted, .inr (0, [.ref q_h_wanted_steps, .ref q_h_wanted_pile, .int v_wanted_use])), (q_h_goes, .inr (0, [.ref q_h_goes_steps, .ref q_h_goes_pile, .int v_goes_use])), (q_h_wanted_steps, .inr (2, [.ref q_h_wanted_steps_numbers, .int v_wanted_steps_many])), (q_h_wanted_pile, .inl (K.2.2.1, 50, .inl v_wanted_pile)), (q_h_goes_steps, .inr (2, [.ref q_h_goes_steps_numbers, .int v_goes_steps_many])), (q_h_goes_pile, .inl (K.2.2.1, 50, .inl v_goes_pile)), (q_h_wanted_steps_numbers, .inl (K.2.2.1, 50, .inl v_wanted_steps_numbers)), (q_h_goes_steps_numbers, .inl (K.2.2.1, 50, .inl v_goes_steps_numbers))] sz)) 0 0 (va_A [(q_h, .inr (4, [.ref q_h_heat, .int v_doors, .int v_fed, .int v_wants, .int v_burnt, .int v_hour, .int v_houses, .ref q_h_km, .ref q_h_cell, .ref q_h_warm, .int v_content, .ref q_h_going, .ref q_h_wanted, .ref q_h_goes, g_h_tape, g_h_waiting, g_h_z])), (q_h_heat, .inl (K.2.2.1, 16, .inl v_heat)), (q_h_km, .inl (K.2.2.1, 8, .inl v_km)), (q_h_cell, .inl (K.2.2.1, 8, .inl v_cell)), (q_h_warm, .inl (K.2.2.1, 8, .inl v_warm)), (q_h_going, .inl (K.2.2.1, 12, .inl v_going)), (q_h_wanted, .inr (0, [.ref q_h_wanted_steps, .ref q_h_wanted_pile, .int v_wanted_use])), (q_h_goes, .inr (0, [.ref q_h_goes_steps, .ref q_h_goes_pile, .int v_goes_use])), (q_h_wanted_steps, .inr (2, [.ref q_h_wanted_steps_numbers, .int v_wanted_steps_many])), (q_h_wanted_pile, .inl (K.2.2.1, 50, .inl v_wanted_pile)), (q_h_goes_steps, .inr (2, [.ref q_h_goes_steps_numbers, .int v_goes_steps_many])), (q_h_goes_pile, .inl (K.2.2.1, 50, .inl v_goes_pile)), (q_h_wanted_steps_numbers, .inl (K.2.2.1, 50, .inl v_wanted_steps_numbers)), (q_h_goes_steps_numbers, .inl (K.2.2.1, 50, .inl v_goes_steps_numbers))] sz) := by
  unfold wp_X5_pass at hw
  refine Met.ofW (cc := cX5_pass) (maxL := 3) (ret := (none : Option Jvm.ClassFile.FieldType)) (by decide) rfl ?_
  intro p e s m args below meth c s₁ B hml hv
  obtain ⟨rfl, hsz, hP, hK, hD0, hG, hR⟩ := hv
  have hx := B.exec
  have hb := B.bytes
  have hr := B.returns
  have hts : ∀ w ∈ vT, w.before _ s = true := fun w h => atoms_spec (ws := .code yX5_pass cX5_pass 3 (none : Option Jvm.ClassFile.FieldType) :: vT) B.pre w (List.mem_cons_of_mem _ h)
  have hown : s.vm.findClass RX5 = some m.cls := findClass_of_methodNamed B.named
  have hlocks := B.notSynchronized
  subst hsz
  have hD := hD0.self (sz := s.heap.size)
  show W p l e rm_X5_pass s m _ below meth c s.heap [] 0 0 _ _
  generalize hAe : va_A [(q_h, .inr (4, [.ref q_h_heat, .int v_doors, .int v_fed, .int v_wants, .int v_burnt, .int v_hour, .int v_houses, .ref q_h_km, .ref q_h_cell, .ref q_h_warm, .int v_content, .ref q_h_going, .ref q_h_wanted, .ref q_h_goes, g_h_tape, g_h_waiting, g_h_z])), (q_h_heat, .inl (K.2.2.1, 16, .inl v_heat)), (q_h_km, .inl (K.2.2.1, 8, .inl v_km)), (q_h_cell, .inl (K.2.2.1, 8, .inl v_cell)), (q_h_warm, .inl (K.2.2.1, 8, .inl v_warm)), (q_h_going, .inl (K.2.2.1, 12, .inl v_going)), (q_h_wanted, .inr (0, [.ref q_h_wanted_steps, .ref q_h_wanted_pile, .int v_wanted_use])), (q_h_goes, .inr (0, [.ref q_h_goes_steps, .ref q_h_goes_pile, .int v_goes_use])), (q_h_wanted_steps, .inr (2, [.ref q_h_wanted_steps_numbers, .int v_wanted_steps_many])), (q_h_wanted_pile, .inl (K.2.2.1, 50, .inl v_wanted_pile)), (q_h_goes_steps, .inr (2, [.ref q_h_goes_steps_numbers, .int v_goes_steps_many])), (q_h_goes_pile, .inl (K.2.2.1, 50, .inl v_goes_pile)), (q_h_wanted_steps_numbers, .inl (K.2.2.1, 50, .inl v_wanted_steps_numbers)), (q_h_goes_steps_numbers, .inl (K.2.2.1, 50, .inl v_goes_steps_numbers))] s.heap.size = A at hD hG ⊢
  have hX : vX K A s := ⟨hK, hG, hR, fun q h => by rw [← hAe]; exact Or.inr h⟩
  have hS : va_S A s.heap s.heap [] := va_S.rf
  have F : vFx p s m ([.ref q_h, .int a1] : List Value).toArray meth c cX5_pass RX5 3 (none : Option Jvm.ClassFile.FieldType) := ⟨hx, hb, hml, hown, hts, hr, hlocks⟩
  have hl := lv_entry ([.ref q_h, .int a1]) (n := 3) (Nat.le_of_ble_eq_true rfl)
  rw [lg_entry_eq]
  generalize (lg_sl ([.ref q_h, .int a1]) ++ List.replicate (3 - (lg_sl ([.ref q_h, .int a1])).length) Slot.unset).toArray = ls at hl ⊢
  have hl : lv_has ls 3 [(0, .ref q_h), (1, .int a1)] := hl
  obtain ⟨H, hHe⟩ : ∃ H, H = s.heap := ⟨_, rfl⟩
  have hS : va_S A s.heap H [] := by rw [hHe]; exact hS
  have hP : va_P K.1 vwCl [(q_h, .inr (4, [.ref q_h_heat, .int v_doors, .int v_fed, .int v_wants, .int v_burnt, .int v_hour, .int v_houses, .ref q_h_km, .ref q_h_cell, .ref q_h_warm, .int v_content, .ref q_h_going, .ref q_h_wanted, .ref q_h_goes, g_h_tape, g_h_waiting, g_h_z])), (q_h_heat, .inl (K.2.2.1, 16, .inl v_heat)), (q_h_km, .inl (K.2.2.1, 8, .inl v_km)), (q_h_cell, .inl (K.2.2.1, 8, .inl v_cell)), (q_h_warm, .inl (K.2.2.1, 8, .inl v_warm)), (q_h_going, .inl (K.2.2.1, 12, .inl v_going)), (q_h_wanted, .inr (0, [.ref q_h_wanted_steps, .ref q_h_wanted_pile, .int v_wanted_use])), (q_h_goes, .inr (0, [.ref q_h_goes_steps, .ref q_h_goes_pile, .int v_goes_use])), (q_h_wanted_steps, .inr (2, [.ref q_h_wanted_steps_numbers, .int v_wanted_steps_many])), (q_h_wanted_pile, .inl (K.2.2.1, 50, .inl v_wanted_pile)), (q_h_goes_steps, .inr (2, [.ref q_h_goes_steps_numbers, .int v_goes_steps_many])), (q_h_goes_pile, .inl (K.2.2.1, 50, .inl v_goes_pile)), (q_h_wanted_steps_numbers, .inl (K.2.2.1, 50, .inl v_wanted_steps_numbers)), (q_h_goes_steps_numbers, .inl (K.2.2.1, 50, .inl v_goes_steps_numbers))] H := by rw [hHe]; exact hP
  refine vWH hHe ?_
  refine lv_iconst (v := (0 : Int32)) hx hb dX5_pass_0 (by decide) ?_
  refine lv_istore_n (lv' := [(2, .int (0 : Int32)), (0, .ref q_h), (1, .int a1)]) hx hb dX5_pass_1 rfl hl (by decide) rfl (fun ls hl => ?_)
  obtain ⟨n, hw⟩ := hw
  exact t_X5_pass_b2 F hX n _ _ _ _ _ _ _ _ _ _ _ _ _ hw hP hD hS (lv_sub hl [1, 2, 0] rfl)
/-! OvenRings$Town.draw()I -/
def wp_X5_draw (v_z : Int32) (post : Int32 → Int32 → Prop) : Prop := post ((((v_z * (1103515245 : Int32)) + (12345 : Int32)).toUInt32 >>> ((8 : Int32).toUInt32 &&& Int32.toUInt32 31)).toInt32) ((v_z * (1103515245 : Int32)) + (12345 : Int32))
abbrev rm_X5_draw : Room := { frames := 0, cells := 0, slots := 0, locals := 0 }
abbrev Qc_X5_draw (K : vGl) (q_h : Nat)  (g_h_heat : Value) (g_h_doors : Value) (g_h_fed : Value) (g_h_wants : Value) (g_h_burnt : Value) (g_h_hour : Value) (g_h_houses : Value) (g_h_km : Value) (g_h_cell : Value) (g_h_warm : Value) (g_h_content : Value) (g_h_going : Value) (g_h_wanted : Value) (g_h_goes : Value) (g_h_tape : Value) (g_h_waiting : Value)  (post : Int32 → Int32 → Prop) (A : Nat → Prop) : Array Value → State → Outcome → State → Prop := va_Qi (fun (r : Int32) (u : Int32) => post r u) (fun u t => vB K A [(q_h, .inr (4, [g_h_heat, g_h_doors, g_h_fed, g_h_wants, g_h_burnt, g_h_hour, g_h_houses, g_h_km, g_h_cell, g_h_warm, g_h_content, g_h_going, g_h_wanted, g_h_goes, g_h_tape, g_h_waiting, .int u]))] t) A
set_option maxHeartbeats 4000000 in
set_option maxRecDepth 100000 in
theorem c_X5_draw (l : Launch) (K : vGl) (q_h : Nat)  (g_h_heat : Value) (g_h_doors : Value) (g_h_fed : Value) (g_h_wants : Value) (g_h_burnt : Value) (g_h_hour : Value) (g_h_houses : Value) (g_h_km : Value) (g_h_cell : Value) (g_h_warm : Value) (g_h_content : Value) (g_h_going : Value) (g_h_wanted : Value) (g_h_goes : Value) (g_h_tape : Value) (g_h_waiting : Value) (sz : Nat) (v_z : Int32) (post : Int32 → Int32 → Prop) (hw : wp_X5_draw v_z post) : Met l yX5_draw (.code yX5_draw cX5_draw 1 (some .int) :: vT) rm_X5_draw (va_Pc [.ref q_h] (vPre K [(q_h, .inr (4, [g_h_heat, g_h_doors, g_h_fed, g_h_wants, g_h_burnt, g_h_hour, g_h_houses, g_h_km, g_h_cell, g_h_warm, g_h_content, g_h_going, g_h_wanted, g_h_goes, g_h_tape, g_h_waiting, .int v_z]))] sz)) (Qc_X5_draw K q_h g_h_heat g_h_doors g_h_fed g_h_wants g_h_burnt g_h_hour g_h_houses g_h_km g_h_cell g_h_warm g_h_content g_h_going g_h_wanted g_h_goes g_h_tape g_h_waiting post (va_A [(q_h, .inr (4, [g_h_heat, g_h_doors, g_h_fed, g_h_wants, g_h_burnt, g_h_hour, g_h_houses, g_h_km, g_h_cell, g_h_warm, g_h_content, g_h_going, g_h_wanted, g_h_goes, g_h_tape, g_h_waiting, .int v_z]))] sz)) 0 0 (va_A [(q_h, .inr (4, [g_h_heat, g_h_doors, g_h_fed, g_h_wants, g_h_burnt, g_h_hour, g_h_houses, g_h_km, g_h_cell, g_h_warm, g_h_content, g_h_going, g_h_wanted, g_h_goes, g_h_tape, g_h_waiting, .int v_z]))] sz) := by
  unfold wp_X5_draw at hw
  refine Met.ofW (cc := cX5_draw) (maxL := 1) (ret := (some .int)) (by decide) rfl ?_
  intro p e s m args below meth c s₁ B hml hv
  obtain ⟨rfl, hsz, hP, hK, hD0, hG, hR⟩ := hv
  have hx := B.exec
  have hb := B.bytes
  have hr := B.returns
  have hts : ∀ w ∈ vT, w.before _ s = true := fun w h => atoms_spec (ws := .code yX5_draw cX5_draw 1 (some .int) :: vT) B.pre w (List.mem_cons_of_mem _ h)
  have hown : s.vm.findClass RX5 = some m.cls := findClass_of_methodNamed B.named
  have hlocks := B.notSynchronized
  subst hsz
  have hD := hD0.self (sz := s.heap.size)
  show W p l e rm_X5_draw s m _ below meth c s.heap [] 0 0 _ _
  generalize hAe : va_A [(q_h, .inr (4, [g_h_heat, g_h_doors, g_h_fed, g_h_wants, g_h_burnt, g_h_hour, g_h_houses, g_h_km, g_h_cell, g_h_warm, g_h_content, g_h_going, g_h_wanted, g_h_goes, g_h_tape, g_h_waiting, .int v_z]))] s.heap.size = A at hD hG ⊢
  have hX : vX K A s := ⟨hK, hG, hR, fun q h => by rw [← hAe]; exact Or.inr h⟩
  have hS : va_S A s.heap s.heap [] := va_S.rf
  have F : vFx p s m ([.ref q_h] : List Value).toArray meth c cX5_draw RX5 1 (some .int) := ⟨hx, hb, hml, hown, hts, hr, hlocks⟩
  have hl := lv_entry ([.ref q_h]) (n := 1) (Nat.le_of_ble_eq_true rfl)
  rw [lg_entry_eq]
  generalize (lg_sl ([.ref q_h]) ++ List.replicate (1 - (lg_sl ([.ref q_h])).length) Slot.unset).toArray = ls at hl ⊢
  have hl : lv_has ls 1 [(0, .ref q_h)] := hl
  obtain ⟨H, hHe⟩ : ∃ H, H = s.heap := ⟨_, rfl⟩
  have hS : va_S A s.heap H [] := by rw [hHe]; exact hS
  have hP : va_P K.1 vwCl [(q_h, .inr (4, [g_h_heat, g_h_doors, g_h_fed, g_h_wants, g_h_burnt, g_h_hour, g_h_houses, g_h_km, g_h_cell, g_h_warm, g_h_content, g_h_going, g_h_wanted, g_h_goes, g_h_tape, g_h_waiting, .int v_z]))] H := by rw [hHe]; exact hP
  refine vWH hHe ?_
  refine lv_aload_n hx hb dX5_draw_0 rfl (lv_at hl 0 rfl) ?_
  refine lv_aload_n hx hb dX5_draw_1 rfl (lv_at hl 0 rfl) ?_
  refine va_get (D := K.1) (ci := 4) (v := .int v_z) (C := RX5) (T := TX5) (N := 17) hx hb hts iwX5 hown hX.1 hP 0 rfl rfl 16 (by decide) (hts _ k_163) (fun _ h9 => h9) rfl dX5_draw_2 ?_
  refine lv_ldc (v := (1103515245 : Int32)) hx hb hown (hts _ k_584) dX5_draw_5 ?_
  refine lv_imul hx hb dX5_draw_7 ?_
  refine lv_sipush (v := (12345 : Int32)) hx hb dX5_draw_8 (by decide) ?_
  refine lv_iadd hx hb dX5_draw_11 ?_
  refine va_put (D := K.1) (ci := 4) (v := .int ((v_z * (1103515245 : Int32)) + (12345 : Int32))) (ty := .int) (C := RX5) (T := TX5) (N := 17) hx hb hts iwX5 tyX5 tyX5_ok nmX5 hown hX.1 hP hD hS 0 rfl rfl 16 (by decide) (hts _ k_163) (fun _ h9 => h9) rfl (by decide +kernel) rfl rfl (Nat.le_of_ble_eq_true rfl) dX5_draw_12 (fun H locs hP hD hS => ?_)
  have hP : va_P K.1 vwCl [(q_h, .inr (4, [g_h_heat, g_h_doors, g_h_fed, g_h_wants, g_h_burnt, g_h_hour, g_h_houses, g_h_km, g_h_cell, g_h_warm, g_h_content, g_h_going, g_h_wanted, g_h_goes, g_h_tape, g_h_waiting, .int ((v_z * (1103515245 : Int32)) + (12345 : Int32))]))] H := hP
  have hD : va_D A [(q_h, .inr (4, [g_h_heat, g_h_doors, g_h_fed, g_h_wants, g_h_burnt, g_h_hour, g_h_houses, g_h_km, g_h_cell, g_h_warm, g_h_content, g_h_going, g_h_wanted, g_h_goes, g_h_tape, g_h_waiting, .int ((v_z * (1103515245 : Int32)) + (12345 : Int32))]))] := hD
  refine lv_aload_n hx hb dX5_draw_15 rfl (lv_at hl 0 rfl) ?_
  refine va_get (D := K.1) (ci := 4) (v := .int ((v_z * (1103515245 : Int32)) + (12345 : Int32))) (C := RX5) (T := TX5) (N := 17) hx hb hts iwX5 hown hX.1 hP 0 rfl rfl 16 (by decide) (hts _ k_163) (fun _ h9 => h9) rfl dX5_draw_16 ?_
  refine lv_bipush (v := (8 : Int32)) hx hb dX5_draw_19 (by decide) ?_
  refine lv_iushr hx hb dX5_draw_21 rfl ?_
  exact W.iret (v := (((v_z * (1103515245 : Int32)) + (12345 : Int32)).toUInt32 >>> ((8 : Int32).toUInt32 &&& Int32.toUInt32 31)).toInt32) hx hb hr (fun t ht hW => ⟨⟨(((v_z * (1103515245 : Int32)) + (12345 : Int32)).toUInt32 >>> ((8 : Int32).toUInt32 &&& Int32.toUInt32 31)).toInt32, ((v_z * (1103515245 : Int32)) + (12345 : Int32)), rfl, hw, by rw [ht]; exact hP, va_K.moved hW.alike hX.1, hD⟩, hS.F ht⟩) hS.2.2 dX5_draw_22 hlocks
/-! OvenRings$Town.drawFedAndDoor()V -/
def wp_X5_drawFedAndDoor (v_doors : Int32) (v_fed : Int32) (v_z : Int32) (post : Int32 → Int32 → Int32 → Prop) : Prop := wp_X5_draw v_z (fun r_2 v_z_1 => wp_X5_draw v_z_1 (fun r_4 v_z_3 => ((vrem r_4 (4 : Int32)) = 0 → (post (v_doors ^^^ ((1 : Int32) <<< ((vrem (r_4 / (8 : Int32)) (12 : Int32)) &&& 31))) (vrem r_2 (40 : Int32)) v_z_3)) ∧ (¬ (vrem r_4 (4 : Int32)) = 0 → (post v_doors (vrem r_2 (40 : Int32)) v_z_3))))
abbrev rm_X5_drawFedAndDoor : Room := { frames := 1, cells := 0, slots := 0, locals := 20 }
abbrev Qc_X5_drawFedAndDoor (K : vGl) (q_h : Nat)  (g_h_heat : Value) (g_h_wants : Value) (g_h_burnt : Value) (g_h_hour : Value) (g_h_houses : Value) (g_h_km : Value) (g_h_cell : Value) (g_h_warm : Value) (g_h_content : Value) (g_h_going : Value) (g_h_wanted : Value) (g_h_goes : Value) (g_h_tape : Value) (g_h_waiting : Value)  (post : Int32 → Int32 → Int32 → Prop) (A : Nat → Prop) : Array Value → State → Outcome → State → Prop := va_Qv (fun (u : Int32 × Int32 × Int32) => post u.1 u.2.1 u.2.2) (fun u t => vB K A [(q_h, .inr (4, [g_h_heat, .int u.1, .int u.2.1, g_h_wants, g_h_burnt, g_h_hour, g_h_houses, g_h_km, g_h_cell, g_h_warm, g_h_content, g_h_going, g_h_wanted, g_h_goes, g_h_tape, g_h_waiting, .int u.2.2]))] t) A
set_option maxHeartbeats 4000000 in
set_option maxRecDepth 100000 in
theorem c_X5_drawFedAndDoor (l : Launch) (K : vGl) (q_h : Nat)  (g_h_heat : Value) (g_h_wants : Value) (g_h_burnt : Value) (g_h_hour : Value) (g_h_houses : Value) (g_h_km : Value) (g_h_cell : Value) (g_h_warm : Value) (g_h_content : Value) (g_h_going : Value) (g_h_wanted : Value) (g_h_goes : Value) (g_h_tape : Value) (g_h_waiting : Value) (sz : Nat) (v_doors : Int32) (v_fed : Int32) (v_z : Int32) (post : Int32 → Int32 → Int32 → Prop) (hw : wp_X5_drawFedAndDoor v_doors v_fed v_z post) : Met l yX5_drawFedAndDoor (.code yX5_drawFedAndDoor cX5_drawFedAndDoor 2 (none : Option Jvm.ClassFile.FieldType) :: vT) rm_X5_drawFedAndDoor (va_Pc [.ref q_h] (vPre K [(q_h, .inr (4, [g_h_heat, .int v_doors, .int v_fed, g_h_wants, g_h_burnt, g_h_hour, g_h_houses, g_h_km, g_h_cell, g_h_warm, g_h_content, g_h_going, g_h_wanted, g_h_goes, g_h_tape, g_h_waiting, .int v_z]))] sz)) (Qc_X5_drawFedAndDoor K q_h g_h_heat g_h_wants g_h_burnt g_h_hour g_h_houses g_h_km g_h_cell g_h_warm g_h_content g_h_going g_h_wanted g_h_goes g_h_tape g_h_waiting post (va_A [(q_h, .inr (4, [g_h_heat, .int v_doors, .int v_fed, g_h_wants, g_h_burnt, g_h_hour, g_h_houses, g_h_km, g_h_cell, g_h_warm, g_h_content, g_h_going, g_h_wanted, g_h_goes, g_h_tape, g_h_waiting, .int v_z]))] sz)) 0 0 (va_A [(q_h, .inr (4, [g_h_heat, .int v_doors, .int v_fed, g_h_wants, g_h_burnt, g_h_hour, g_h_houses, g_h_km, g_h_cell, g_h_warm, g_h_content, g_h_going, g_h_wanted, g_h_goes, g_h_tape, g_h_waiting, .int v_z]))] sz) := by
  unfold wp_X5_drawFedAndDoor at hw
  refine Met.ofW (cc := cX5_drawFedAndDoor) (maxL := 2) (ret := (none : Option Jvm.ClassFile.FieldType)) (by decide) rfl ?_
  intro p e s m args below meth c s₁ B hml hv
  obtain ⟨rfl, hsz, hP, hK, hD0, hG, hR⟩ := hv
  have hx := B.exec
  have hb := B.bytes
  have hr := B.returns
  have hts : ∀ w ∈ vT, w.before _ s = true := fun w h => atoms_spec (ws := .code yX5_drawFedAndDoor cX5_drawFedAndDoor 2 (none : Option Jvm.ClassFile.FieldType) :: vT) B.pre w (List.mem_cons_of_mem _ h)
  have hown : s.vm.findClass RX5 = some m.cls := findClass_of_methodNamed B.named
  have hlocks := B.notSynchronized
  subst hsz
  have hD := hD0.self (sz := s.heap.size)
  show W p l e rm_X5_drawFedAndDoor s m _ below meth c s.heap [] 0 0 _ _
  generalize hAe : va_A [(q_h, .inr (4, [g_h_heat, .int v_doors, .int v_fed, g_h_wants, g_h_burnt, g_h_hour, g_h_houses, g_h_km, g_h_cell, g_h_warm, g_h_content, g_h_going, g_h_wanted, g_h_goes, g_h_tape, g_h_waiting, .int v_z]))] s.heap.size = A at hD hG ⊢
  have hX : vX K A s := ⟨hK, hG, hR, fun q h => by rw [← hAe]; exact Or.inr h⟩
  have hS : va_S A s.heap s.heap [] := va_S.rf
  have F : vFx p s m ([.ref q_h] : List Value).toArray meth c cX5_drawFedAndDoor RX5 2 (none : Option Jvm.ClassFile.FieldType) := ⟨hx, hb, hml, hown, hts, hr, hlocks⟩
  have hl := lv_entry ([.ref q_h]) (n := 2) (Nat.le_of_ble_eq_true rfl)
  rw [lg_entry_eq]
  generalize (lg_sl ([.ref q_h]) ++ List.replicate (2 - (lg_sl ([.ref q_h])).length) Slot.unset).toArray = ls at hl ⊢
  have hl : lv_has ls 2 [(0, .ref q_h)] := hl
  obtain ⟨H, hHe⟩ : ∃ H, H = s.heap := ⟨_, rfl⟩
  have hS : va_S A s.heap H [] := by rw [hHe]; exact hS
  have hP : va_P K.1 vwCl [(q_h, .inr (4, [g_h_heat, .int v_doors, .int v_fed, g_h_wants, g_h_burnt, g_h_hour, g_h_houses, g_h_km, g_h_cell, g_h_warm, g_h_content, g_h_going, g_h_wanted, g_h_goes, g_h_tape, g_h_waiting, .int v_z]))] H := by rw [hHe]; exact hP
  refine vWH hHe ?_
  refine lv_aload_n hx hb dX5_drawFedAndDoor_0 rfl (lv_at hl 0 rfl) ?_
  refine lv_aload_n hx hb dX5_drawFedAndDoor_1 rfl (lv_at hl 0 rfl) ?_
  refine vCalli (K := K) (wr := []) (w1 := (fun (u : Int32) => [(q_h, .inr (4, [g_h_heat, (.int v_doors), (.int v_fed), g_h_wants, g_h_burnt, g_h_hour, g_h_houses, g_h_km, g_h_cell, g_h_warm, g_h_content, g_h_going, g_h_wanted, g_h_goes, g_h_tape, g_h_waiting, .int u]))])) (va_runV (As := []) (rest := [.ref q_h]) ⟨hx, hb, hml, hown, hts⟩ (c_X5_draw l K q_h g_h_heat (.int v_doors) (.int v_fed) g_h_wants g_h_burnt g_h_hour g_h_houses g_h_km g_h_cell g_h_warm g_h_content g_h_going g_h_wanted g_h_goes g_h_tape g_h_waiting H.size v_z _ hw) (cwV 0 hts (vGoodV k_580 k_582 k_12 k_58 k_583) rfl rfl rfl (by decide +kernel) ⟨Nat.le_of_ble_eq_true rfl, Nat.le_of_ble_eq_true rfl⟩) ⟨vPre_blind, va_recv hX.1 hP (ci := 4) (q0 := 0) rfl rfl, fun U hU hW => ⟨rfl, vPre_of hX hP hD hS [0] rfl (by decide) U hU hW⟩⟩ rfl rfl hl.1 rfl (lv_room (Nat.le_of_ble_eq_true rfl)) dX5_drawFedAndDoor_2 ⟨Nat.zero_le _, Nat.zero_le _⟩) hX hP hD hS [0] [] rfl rfl (by decide) (by decide) (fun r_2 v_z_1 H locs hw hP hD hS => ?_)
  have hP : va_P K.1 vwCl [(q_h, .inr (4, [g_h_heat, .int v_doors, .int v_fed, g_h_wants, g_h_burnt, g_h_hour, g_h_houses, g_h_km, g_h_cell, g_h_warm, g_h_content, g_h_going, g_h_wanted, g_h_goes, g_h_tape, g_h_waiting, .int v_z_1]))] H := hP.sub [0] rfl
  have hD : va_D A [(q_h, .inr (4, [g_h_heat, .int v_doors, .int v_fed, g_h_wants, g_h_burnt, g_h_hour, g_h_houses, g_h_km, g_h_cell, g_h_warm, g_h_content, g_h_going, g_h_wanted, g_h_goes, g_h_tape, g_h_waiting, .int v_z_1]))] := hD.sub [0] (by decide) rfl
  refine lv_bipush (v := (40 : Int32)) hx hb dX5_drawFedAndDoor_5 (by decide) ?_
  refine lv_irem hx hb dX5_drawFedAndDoor_7 (by decide) ?_
  refine va_put (D := K.1) (ci := 4) (v := .int (vrem r_2 (40 : Int32))) (ty := .int) (C := RX5) (T := TX5) (N := 17) hx hb hts iwX5 tyX5 tyX5_ok nmX5 hown hX.1 hP hD hS 0 rfl rfl 2 (by decide) (hts _ k_136) (fun _ h9 => h9) rfl (by decide +kernel) rfl rfl (Nat.le_of_ble_eq_true rfl) dX5_drawFedAndDoor_8 (fun H locs hP hD hS => ?_)
  have hP : va_P K.1 vwCl [(q_h, .inr (4, [g_h_heat, .int v_doors, .int (vrem r_2 (40 : Int32)), g_h_wants, g_h_burnt, g_h_hour, g_h_houses, g_h_km, g_h_cell, g_h_warm, g_h_content, g_h_going, g_h_wanted, g_h_goes, g_h_tape, g_h_waiting, .int v_z_1]))] H := hP
  have hD : va_D A [(q_h, .inr (4, [g_h_heat, .int v_doors, .int (vrem r_2 (40 : Int32)), g_h_wants, g_h_burnt, g_h_hour, g_h_houses, g_h_km, g_h_cell, g_h_warm, g_h_content, g_h_going, g_h_wanted, g_h_goes, g_h_tape, g_h_waiting, .int v_z_1]))] := hD
  refine lv_aload_n hx hb dX5_drawFedAndDoor_11 rfl (lv_at hl 0 rfl) ?_
  refine vCalli (K := K) (wr := []) (w1 := (fun (u : Int32) => [(q_h, .inr (4, [g_h_heat, (.int v_doors), (.int (vrem r_2 (40 : Int32))), g_h_wants, g_h_burnt, g_h_hour, g_h_houses, g_h_km, g_h_cell, g_h_warm, g_h_content, g_h_going, g_h_wanted, g_h_goes, g_h_tape, g_h_waiting, .int u]))])) (va_runV (As := []) (rest := []) ⟨hx, hb, hml, hown, hts⟩ (c_X5_draw l K q_h g_h_heat (.int v_doors) (.int (vrem r_2 (40 : Int32))) g_h_wants g_h_burnt g_h_hour g_h_houses g_h_km g_h_cell g_h_warm g_h_content g_h_going g_h_wanted g_h_goes g_h_tape g_h_waiting H.size v_z_1 _ hw) (cwV 0 hts (vGoodV k_580 k_582 k_12 k_58 k_583) rfl rfl rfl (by decide +kernel) ⟨Nat.le_of_ble_eq_true rfl, Nat.le_of_ble_eq_true rfl⟩) ⟨vPre_blind, va_recv hX.1 hP (ci := 4) (q0 := 0) rfl rfl, fun U hU hW => ⟨rfl, vPre_of hX hP hD hS [0] rfl (by decide) U hU hW⟩⟩ rfl rfl hl.1 rfl (lv_room (Nat.le_of_ble_eq_true rfl)) dX5_drawFedAndDoor_12 ⟨Nat.zero_le _, Nat.zero_le _⟩) hX hP hD hS [0] [] rfl rfl (by decide) (by decide) (fun r_4 v_z_3 H locs hw hP hD hS => ?_)
  have hP : va_P K.1 vwCl [(q_h, .inr (4, [g_h_heat, .int v_doors, .int (vrem r_2 (40 : Int32)), g_h_wants, g_h_burnt, g_h_hour, g_h_houses, g_h_km, g_h_cell, g_h_warm, g_h_content, g_h_going, g_h_wanted, g_h_goes, g_h_tape, g_h_waiting, .int v_z_3]))] H := hP.sub [0] rfl
  have hD : va_D A [(q_h, .inr (4, [g_h_heat, .int v_doors, .int (vrem r_2 (40 : Int32)), g_h_wants, g_h_burnt, g_h_hour, g_h_houses, g_h_km, g_h_cell, g_h_warm, g_h_content, g_h_going, g_h_wanted, g_h_goes, g_h_tape, g_h_waiting, .int v_z_3]))] := hD.sub [0] (by decide) rfl
  refine lv_istore_n (lv' := [(1, .int r_4), (0, .ref q_h)]) hx hb dX5_drawFedAndDoor_15 rfl hl (by decide) rfl (fun ls hl => ?_)
  refine lv_iload_n hx hb dX5_drawFedAndDoor_16 rfl (lv_at hl 0 rfl) ?_
  refine lv_iconst (v := (4 : Int32)) hx hb dX5_drawFedAndDoor_17 (by decide) ?_
  refine lv_irem hx hb dX5_drawFedAndDoor_18 (by decide) ?_
  refine lv_if_ne (tgt := 40) hx hb dX5_drawFedAndDoor_19 (by decide) (fun c_5 => ?_) (fun c_5 => ?_)
  · have hw := hw.2 c_5
    exact W.vret hx hb hr (fun t ht hW => ⟨⟨(v_doors, (vrem r_2 (40 : Int32)), v_z_3), rfl, hw, by rw [ht]; exact hP, va_K.moved hW.alike hX.1, hD⟩, hS.F ht⟩) hS.2.2 dX5_drawFedAndDoor_40 hlocks
  · have hw := hw.1 c_5
    refine lv_aload_n hx hb dX5_drawFedAndDoor_22 rfl (lv_at hl 1 rfl) ?_
    refine lv_dup hx hb dX5_drawFedAndDoor_23 rfl ?_
    refine va_get (D := K.1) (ci := 4) (v := .int v_doors) (C := RX5) (T := TX5) (N := 17) hx hb hts iwX5 hown hX.1 hP 0 rfl rfl 1 (by decide) (hts _ k_134) (fun _ h9 => h9) rfl dX5_drawFedAndDoor_24 ?_
    refine lv_iconst (v := (1 : Int32)) hx hb dX5_drawFedAndDoor_27 (by decide) ?_
    refine lv_iload_n hx hb dX5_drawFedAndDoor_28 rfl (lv_at hl 0 rfl) ?_
    refine lv_bipush (v := (8 : Int32)) hx hb dX5_drawFedAndDoor_29 (by decide) ?_
    refine lv_idiv hx hb dX5_drawFedAndDoor_31 (by decide) ?_
    refine lv_bipush (v := (12 : Int32)) hx hb dX5_drawFedAndDoor_32 (by decide) ?_
    refine lv_irem hx hb dX5_drawFedAndDoor_34 (by decide) ?_
    refine lv_ishl hx hb dX5_drawFedAndDoor_35 ?_
    refine lv_ixor hx hb dX5_drawFedAndDoor_36 ?_
    refine va_put (D := K.1) (ci := 4) (v := .int (v_doors ^^^ ((1 : Int32) <<< ((vrem (r_4 / (8 : Int32)) (12 : Int32)) &&& 31)))) (ty := .int) (C := RX5) (T := TX5) (N := 17) hx hb hts iwX5 tyX5 tyX5_ok nmX5 hown hX.1 hP hD hS 0 rfl rfl 1 (by decide) (hts _ k_134) (fun _ h9 => h9) rfl (by decide +kernel) rfl rfl (Nat.le_of_ble_eq_true rfl) dX5_drawFedAndDoor_37 (fun H locs hP hD hS => ?_)
    have hP : va_P K.1 vwCl [(q_h, .inr (4, [g_h_heat, .int (v_doors ^^^ ((1 : Int32) <<< ((vrem (r_4 / (8 : Int32)) (12 : Int32)) &&& 31))), .int (vrem r_2 (40 : Int32)), g_h_wants, g_h_burnt, g_h_hour, g_h_houses, g_h_km, g_h_cell, g_h_warm, g_h_content, g_h_going, g_h_wanted, g_h_goes, g_h_tape, g_h_waiting, .int v_z_3]))] H := hP
    have hD : va_D A [(q_h, .inr (4, [g_h_heat, .int (v_doors ^^^ ((1 : Int32) <<< ((vrem (r_4 / (8 : Int32)) (12 : Int32)) &&& 31))), .int (vrem r_2 (40 : Int32)), g_h_wants, g_h_burnt, g_h_hour, g_h_houses, g_h_km, g_h_cell, g_h_warm, g_h_content, g_h_going, g_h_wanted, g_h_goes, g_h_tape, g_h_waiting, .int v_z_3]))] := hD
    exact W.vret hx hb hr (fun t ht hW => ⟨⟨((v_doors ^^^ ((1 : Int32) <<< ((vrem (r_4 / (8 : Int32)) (12 : Int32)) &&& 31))), (vrem r_2 (40 : Int32)), v_z_3), rfl, hw, by rw [ht]; exact hP, va_K.moved hW.alike hX.1, hD⟩, hS.F ht⟩) hS.2.2 dX5_drawFedAndDoor_40 hlocks
/-! OvenRings$Town.heatOfAll()I -/
def wp_X5_heatOfAll_b4 (v_heat : Nat → Int32)  (post : Int32 → Prop) : Nat → Int32 → Int32 → Prop
  | 0, _, _ => False
  | n + 1, x1, x2 => ((16 : Int32) ≤ x2 → (post x1)) ∧ (¬ (16 : Int32) ≤ x2 → (vp_in x2 16 ∧ (wp_X5_heatOfAll_b4 v_heat post n (x1 + (v_heat x2.toNatClampNeg)) (x2 + (1 : Int32)))))
theorem u_X5_heatOfAll_b4 {v_heat : Nat → Int32}  {post : Int32 → Prop} {n : Nat} {x1 : Int32} {x2 : Int32} (h : wp_X5_heatOfAll_b4 v_heat post (n + 1) x1 x2) : ((16 : Int32) ≤ x2 → (post x1)) ∧ (¬ (16 : Int32) ≤ x2 → (vp_in x2 16 ∧ (wp_X5_heatOfAll_b4 v_heat post n (x1 + (v_heat x2.toNatClampNeg)) (x2 + (1 : Int32))))) := h
def wp_X5_heatOfAll (v_heat : Nat → Int32) (post : Int32 → Prop) : Prop := ∃ n, wp_X5_heatOfAll_b4 v_heat post n (0 : Int32) (0 : Int32)
abbrev rm_X5_heatOfAll : Room := { frames := 0, cells := 0, slots := 0, locals := 0 }
abbrev Qc_X5_heatOfAll (K : vGl) (q_h q_h_heat : Nat)  (g_h_doors : Value) (g_h_fed : Value) (g_h_wants : Value) (g_h_burnt : Value) (g_h_hour : Value) (g_h_houses : Value) (g_h_km : Value) (g_h_cell : Value) (g_h_warm : Value) (g_h_content : Value) (g_h_going : Value) (g_h_wanted : Value) (g_h_goes : Value) (g_h_tape : Value) (g_h_waiting : Value) (g_h_z : Value) (v_heat : Nat → Int32) (post : Int32 → Prop) (A : Nat → Prop) : Array Value → State → Outcome → State → Prop := va_Qi (fun (r : Int32) (u : Unit) => post r ) (fun u t => vB K A [(q_h, .inr (4, [.ref q_h_heat, g_h_doors, g_h_fed, g_h_wants, g_h_burnt, g_h_hour, g_h_houses, g_h_km, g_h_cell, g_h_warm, g_h_content, g_h_going, g_h_wanted, g_h_goes, g_h_tape, g_h_waiting, g_h_z])), (q_h_heat, .inl (K.2.2.1, 16, .inl v_heat))] t) A
set_option maxHeartbeats 4000000 in
set_option maxRecDepth 100000 in
theorem t_X5_heatOfAll_b4 {p : Program} {l : Launch} {e : Env} {s : State} {m : MethodId} {args : Array Value} {below : List Frame} {meth : Method} {c : Code} {A : Nat → Prop} {K : vGl} {q_h q_h_heat : Nat} {g_h_doors : Value} {g_h_fed : Value} {g_h_wants : Value} {g_h_burnt : Value} {g_h_hour : Value} {g_h_houses : Value} {g_h_km : Value} {g_h_cell : Value} {g_h_warm : Value} {g_h_content : Value} {g_h_going : Value} {g_h_wanted : Value} {g_h_goes : Value} {g_h_tape : Value} {g_h_waiting : Value} {g_h_z : Value} {v_heat : Nat → Int32} {post : Int32 → Prop} (F : vFx p s m args meth c cX5_heatOfAll RX5 3 (some .int)) (hX : vX K A s) : ∀ (n : Nat) (x1 : Int32) (x2 : Int32) (H : Heap) (locs : List Loc) (ls : Array Slot), wp_X5_heatOfAll_b4 v_heat post n x1 x2 → va_P K.1 vwCl [(q_h, .inr (4, [.ref q_h_heat, g_h_doors, g_h_fed, g_h_wants, g_h_burnt, g_h_hour, g_h_houses, g_h_km, g_h_cell, g_h_warm, g_h_content, g_h_going, g_h_wanted, g_h_goes, g_h_tape, g_h_waiting, g_h_z])), (q_h_heat, .inl (K.2.2.1, 16, .inl v_heat))] H → va_D A [(q_h, .inr (4, [.ref q_h_heat, g_h_doors, g_h_fed, g_h_wants, g_h_burnt, g_h_hour, g_h_houses, g_h_km, g_h_cell, g_h_warm, g_h_content, g_h_going, g_h_wanted, g_h_goes, g_h_tape, g_h_waiting, g_h_z])), (q_h_heat, .inl (K.2.2.1, 16, .inl v_heat))] → va_S A s.heap H locs → lv_has ls 3 [(0, .ref q_h), (1, .int x1), (2, .int x2)] → W p l e rm_X5_heatOfAll s m args below meth c H locs 0 0 (MQ below (Qc_X5_heatOfAll K q_h q_h_heat g_h_doors g_h_fed g_h_wants g_h_burnt g_h_hour g_h_houses g_h_km g_h_cell g_h_warm g_h_content g_h_going g_h_wanted g_h_goes g_h_tape g_h_waiting g_h_z v_heat post A) args s 0 0 A) (F0 m 4 ls []) := by
  obtain ⟨hx, hb, hml, hown, hts, hr, hlocks⟩ := id F
  intro n
  induction n with
  | zero =>
    intro x1 x2 H locs ls hw
    exact hw.elim
  | succ n ih =>
    intro x1 x2 H locs ls hw hP hD hS hl
    have hw := u_X5_heatOfAll_b4 hw
    refine lv_iload_n hx hb dX5_heatOfAll_4 rfl (lv_at hl 2 rfl) ?_
    refine lv_bipush (v := (16 : Int32)) hx hb dX5_heatOfAll_5 (by decide) ?_
    refine lv_icmp_ge (tgt := 25) hx hb dX5_heatOfAll_7 (by decide) (fun c_1 => ?_) (fun c_1 => ?_)
    · have hw := hw.1 c_1
      refine lv_iload_n hx hb dX5_heatOfAll_25 rfl (lv_at hl 1 rfl) ?_
      exact W.iret (v := x1) hx hb hr (fun t ht hW => ⟨⟨x1, (), rfl, hw, by rw [ht]; exact hP, va_K.moved hW.alike hX.1, hD⟩, hS.F ht⟩) hS.2.2 dX5_heatOfAll_26 hlocks
    · have hw := hw.2 c_1
      refine lv_iload_n hx hb dX5_heatOfAll_10 rfl (lv_at hl 1 rfl) ?_
      refine lv_aload_n hx hb dX5_heatOfAll_11 rfl (lv_at hl 0 rfl) ?_
      refine va_get (D := K.1) (ci := 4) (v := .ref q_h_heat) (C := RX5) (T := TX5) (N := 17) hx hb hts iwX5 hown hX.1 hP 0 rfl rfl 0 (by decide) (hts _ k_132) (fun _ h9 => h9) rfl dX5_heatOfAll_12 ?_
      refine lv_iload_n hx hb dX5_heatOfAll_15 rfl (lv_at hl 2 rfl) ?_
      refine va_iald hx hb hX.1 hP 1 0 rfl rfl hw.1 dX5_heatOfAll_16 ?_
      have hw := hw.2
      refine lv_iadd hx hb dX5_heatOfAll_17 ?_
      refine lv_istore_n (lv' := [(1, .int (x1 + (v_heat x2.toNatClampNeg))), (0, .ref q_h), (2, .int x2)]) hx hb dX5_heatOfAll_18 rfl hl (by decide) rfl (fun ls hl => ?_)
      refine lv_iinc (v := (x2 + (1 : Int32))) (lv' := [(2, .int (x2 + (1 : Int32))), (1, .int (x1 + (v_heat x2.toNatClampNeg))), (0, .ref q_h)]) hx hb dX5_heatOfAll_19 hl (k := 2) rfl rfl (by decide) rfl (fun ls hl => ?_)
      refine lv_goto (tgt := 4) hx hb dX5_heatOfAll_22 (by decide) ?_
      exact ih _ _ _ _ _ hw hP hD hS (lv_sub hl [2, 1, 0] rfl)
set_option maxHeartbeats 4000000 in
set_option maxRecDepth 100000 in
theorem c_X5_heatOfAll (l : Launch) (K : vGl) (q_h q_h_heat : Nat)  (g_h_doors : Value) (g_h_fed : Value) (g_h_wants : Value) (g_h_burnt : Value) (g_h_hour : Value) (g_h_houses : Value) (g_h_km : Value) (g_h_cell : Value) (g_h_warm : Value) (g_h_content : Value) (g_h_going : Value) (g_h_wanted : Value) (g_h_goes : Value) (g_h_tape : Value) (g_h_waiting : Value) (g_h_z : Value) (sz : Nat) (v_heat : Nat → Int32) (post : Int32 → Prop) (hw : wp_X5_heatOfAll v_heat post) : Met l yX5_heatOfAll (.code yX5_heatOfAll cX5_heatOfAll 3 (some .int) :: vT) rm_X5_heatOfAll (va_Pc [.ref q_h] (vPre K [(q_h, .inr (4, [.ref q_h_heat, g_h_doors, g_h_fed, g_h_wants, g_h_burnt, g_h_hour, g_h_houses, g_h_km, g_h_cell, g_h_warm, g_h_content, g_h_going, g_h_wanted, g_h_goes, g_h_tape, g_h_waiting, g_h_z])), (q_h_heat, .inl (K.2.2.1, 16, .inl v_heat))] sz)) (Qc_X5_heatOfAll K q_h q_h_heat g_h_doors g_h_fed g_h_wants g_h_burnt g_h_hour g_h_houses g_h_km g_h_cell g_h_warm g_h_content g_h_going g_h_wanted g_h_goes g_h_tape g_h_waiting g_h_z v_heat post (va_A [(q_h, .inr (4, [.ref q_h_heat, g_h_doors, g_h_fed, g_h_wants, g_h_burnt, g_h_hour, g_h_houses, g_h_km, g_h_cell, g_h_warm, g_h_content, g_h_going, g_h_wanted, g_h_goes, g_h_tape, g_h_waiting, g_h_z])), (q_h_heat, .inl (K.2.2.1, 16, .inl v_heat))] sz)) 0 0 (va_A [(q_h, .inr (4, [.ref q_h_heat, g_h_doors, g_h_fed, g_h_wants, g_h_burnt, g_h_hour, g_h_houses, g_h_km, g_h_cell, g_h_warm, g_h_content, g_h_going, g_h_wanted, g_h_goes, g_h_tape, g_h_waiting, g_h_z])), (q_h_heat, .inl (K.2.2.1, 16, .inl v_heat))] sz) := by
  unfold wp_X5_heatOfAll at hw
  refine Met.ofW (cc := cX5_heatOfAll) (maxL := 3) (ret := (some .int)) (by decide) rfl ?_
  intro p e s m args below meth c s₁ B hml hv
  obtain ⟨rfl, hsz, hP, hK, hD0, hG, hR⟩ := hv
  have hx := B.exec
  have hb := B.bytes
  have hr := B.returns
  have hts : ∀ w ∈ vT, w.before _ s = true := fun w h => atoms_spec (ws := .code yX5_heatOfAll cX5_heatOfAll 3 (some .int) :: vT) B.pre w (List.mem_cons_of_mem _ h)
  have hown : s.vm.findClass RX5 = some m.cls := findClass_of_methodNamed B.named
  have hlocks := B.notSynchronized
  subst hsz
  have hD := hD0.self (sz := s.heap.size)
  show W p l e rm_X5_heatOfAll s m _ below meth c s.heap [] 0 0 _ _
  generalize hAe : va_A [(q_h, .inr (4, [.ref q_h_heat, g_h_doors, g_h_fed, g_h_wants, g_h_burnt, g_h_hour, g_h_houses, g_h_km, g_h_cell, g_h_warm, g_h_content, g_h_going, g_h_wanted, g_h_goes, g_h_tape, g_h_waiting, g_h_z])), (q_h_heat, .inl (K.2.2.1, 16, .inl v_heat))] s.heap.size = A at hD hG ⊢
  have hX : vX K A s := ⟨hK, hG, hR, fun q h => by rw [← hAe]; exact Or.inr h⟩
  have hS : va_S A s.heap s.heap [] := va_S.rf
  have F : vFx p s m ([.ref q_h] : List Value).toArray meth c cX5_heatOfAll RX5 3 (some .int) := ⟨hx, hb, hml, hown, hts, hr, hlocks⟩
  have hl := lv_entry ([.ref q_h]) (n := 3) (Nat.le_of_ble_eq_true rfl)
  rw [lg_entry_eq]
  generalize (lg_sl ([.ref q_h]) ++ List.replicate (3 - (lg_sl ([.ref q_h])).length) Slot.unset).toArray = ls at hl ⊢
  have hl : lv_has ls 3 [(0, .ref q_h)] := hl
  obtain ⟨H, hHe⟩ : ∃ H, H = s.heap := ⟨_, rfl⟩
  have hS : va_S A s.heap H [] := by rw [hHe]; exact hS
  have hP : va_P K.1 vwCl [(q_h, .inr (4, [.ref q_h_heat, g_h_doors, g_h_fed, g_h_wants, g_h_burnt, g_h_hour, g_h_houses, g_h_km, g_h_cell, g_h_warm, g_h_content, g_h_going, g_h_wanted, g_h_goes, g_h_tape, g_h_waiting, g_h_z])), (q_h_heat, .inl (K.2.2.1, 16, .inl v_heat))] H := by rw [hHe]; exact hP
  refine vWH hHe ?_
  refine lv_iconst (v := (0 : Int32)) hx hb dX5_heatOfAll_0 (by decide) ?_
  refine lv_istore_n (lv' := [(1, .int (0 : Int32)), (0, .ref q_h)]) hx hb dX5_heatOfAll_1 rfl hl (by decide) rfl (fun ls hl => ?_)
  refine lv_iconst (v := (0 : Int32)) hx hb dX5_heatOfAll_2 (by decide) ?_
  refine lv_istore_n (lv' := [(2, .int (0 : Int32)), (1, .int (0 : Int32)), (0, .ref q_h)]) hx hb dX5_heatOfAll_3 rfl hl (by decide) rfl (fun ls hl => ?_)
  obtain ⟨n, hw⟩ := hw
  exact t_X5_heatOfAll_b4 F hX n _ _ _ _ _ hw hP hD hS (lv_sub hl [2, 1, 0] rfl)
/-! OvenRings$Town.warmOfAll()I -/
def wp_X5_warmOfAll_b4 (v_houses : Int32) (v_warm : Nat → Int32)  (post : Int32 → Prop) : Nat → Int32 → Int32 → Prop
  | 0, _, _ => False
  | n + 1, x1, x2 => (v_houses ≤ x2 → (post x1)) ∧ (¬ v_houses ≤ x2 → (((8 : Int32) ≤ x2 → (post x1)) ∧ (¬ (8 : Int32) ≤ x2 → (vp_in x2 8 ∧ (wp_X5_warmOfAll_b4 v_houses v_warm post n (x1 + (v_warm x2.toNatClampNeg)) (x2 + (1 : Int32)))))))
theorem u_X5_warmOfAll_b4 {v_houses : Int32} {v_warm : Nat → Int32}  {post : Int32 → Prop} {n : Nat} {x1 : Int32} {x2 : Int32} (h : wp_X5_warmOfAll_b4 v_houses v_warm post (n + 1) x1 x2) : (v_houses ≤ x2 → (post x1)) ∧ (¬ v_houses ≤ x2 → (((8 : Int32) ≤ x2 → (post x1)) ∧ (¬ (8 : Int32) ≤ x2 → (vp_in x2 8 ∧ (wp_X5_warmOfAll_b4 v_houses v_warm post n (x1 + (v_warm x2.toNatClampNeg)) (x2 + (1 : Int32))))))) := h
def wp_X5_warmOfAll (v_houses : Int32) (v_warm : Nat → Int32) (post : Int32 → Prop) : Prop := ∃ n, wp_X5_warmOfAll_b4 v_houses v_warm post n (0 : Int32) (0 : Int32)
abbrev rm_X5_warmOfAll : Room := { frames := 0, cells := 0, slots := 0, locals := 0 }
abbrev Qc_X5_warmOfAll (K : vGl) (q_h q_h_warm : Nat)  (g_h_heat : Value) (g_h_doors : Value) (g_h_fed : Value) (g_h_wants : Value) (g_h_burnt : Value) (g_h_hour : Value) (g_h_km : Value) (g_h_cell : Value) (g_h_content : Value) (g_h_going : Value) (g_h_wanted : Value) (g_h_goes : Value) (g_h_tape : Value) (g_h_waiting : Value) (g_h_z : Value) (v_houses : Int32) (v_warm : Nat → Int32) (post : Int32 → Prop) (A : Nat → Prop) : Array Value → State → Outcome → State → Prop := va_Qi (fun (r : Int32) (u : Unit) => post r ) (fun u t => vB K A [(q_h, .inr (4, [g_h_heat, g_h_doors, g_h_fed, g_h_wants, g_h_burnt, g_h_hour, .int v_houses, g_h_km, g_h_cell, .ref q_h_warm, g_h_content, g_h_going, g_h_wanted, g_h_goes, g_h_tape, g_h_waiting, g_h_z])), (q_h_warm, .inl (K.2.2.1, 8, .inl v_warm))] t) A
set_option maxHeartbeats 4000000 in
set_option maxRecDepth 100000 in
theorem t_X5_warmOfAll_b4 {p : Program} {l : Launch} {e : Env} {s : State} {m : MethodId} {args : Array Value} {below : List Frame} {meth : Method} {c : Code} {A : Nat → Prop} {K : vGl} {q_h q_h_warm : Nat} {g_h_heat : Value} {g_h_doors : Value} {g_h_fed : Value} {g_h_wants : Value} {g_h_burnt : Value} {g_h_hour : Value} {g_h_km : Value} {g_h_cell : Value} {g_h_content : Value} {g_h_going : Value} {g_h_wanted : Value} {g_h_goes : Value} {g_h_tape : Value} {g_h_waiting : Value} {g_h_z : Value} {v_houses : Int32} {v_warm : Nat → Int32} {post : Int32 → Prop} (F : vFx p s m args meth c cX5_warmOfAll RX5 3 (some .int)) (hX : vX K A s) : ∀ (n : Nat) (x1 : Int32) (x2 : Int32) (H : Heap) (locs : List Loc) (ls : Array Slot), wp_X5_warmOfAll_b4 v_houses v_warm post n x1 x2 → va_P K.1 vwCl [(q_h, .inr (4, [g_h_heat, g_h_doors, g_h_fed, g_h_wants, g_h_burnt, g_h_hour, .int v_houses, g_h_km, g_h_cell, .ref q_h_warm, g_h_content, g_h_going, g_h_wanted, g_h_goes, g_h_tape, g_h_waiting, g_h_z])), (q_h_warm, .inl (K.2.2.1, 8, .inl v_warm))] H → va_D A [(q_h, .inr (4, [g_h_heat, g_h_doors, g_h_fed, g_h_wants, g_h_burnt, g_h_hour, .int v_houses, g_h_km, g_h_cell, .ref q_h_warm, g_h_content, g_h_going, g_h_wanted, g_h_goes, g_h_tape, g_h_waiting, g_h_z])), (q_h_warm, .inl (K.2.2.1, 8, .inl v_warm))] → va_S A s.heap H locs → lv_has ls 3 [(0, .ref q_h), (1, .int x1), (2, .int x2)] → W p l e rm_X5_warmOfAll s m args below meth c H locs 0 0 (MQ below (Qc_X5_warmOfAll K q_h q_h_warm g_h_heat g_h_doors g_h_fed g_h_wants g_h_burnt g_h_hour g_h_km g_h_cell g_h_content g_h_going g_h_wanted g_h_goes g_h_tape g_h_waiting g_h_z v_houses v_warm post A) args s 0 0 A) (F0 m 4 ls []) := by
  obtain ⟨hx, hb, hml, hown, hts, hr, hlocks⟩ := id F
  intro n
  induction n with
  | zero =>
    intro x1 x2 H locs ls hw
    exact hw.elim
  | succ n ih =>
    intro x1 x2 H locs ls hw hP hD hS hl
    have hw := u_X5_warmOfAll_b4 hw
    refine lv_iload_n hx hb dX5_warmOfAll_4 rfl (lv_at hl 2 rfl) ?_
    refine lv_aload_n hx hb dX5_warmOfAll_5 rfl (lv_at hl 0 rfl) ?_
    refine va_get (D := K.1) (ci := 4) (v := .int v_houses) (C := RX5) (T := TX5) (N := 17) hx hb hts iwX5 hown hX.1 hP 0 rfl rfl 6 (by decide) (hts _ k_144) (fun _ h9 => h9) rfl dX5_warmOfAll_6 ?_
    refine lv_icmp_ge (tgt := 33) hx hb dX5_warmOfAll_9 (by decide) (fun c_1 => ?_) (fun c_1 => ?_)
    · have hw := hw.1 c_1
      refine lv_iload_n hx hb dX5_warmOfAll_33 rfl (lv_at hl 1 rfl) ?_
      exact W.iret (v := x1) hx hb hr (fun t ht hW => ⟨⟨x1, (), rfl, hw, by rw [ht]; exact hP, va_K.moved hW.alike hX.1, hD⟩, hS.F ht⟩) hS.2.2 dX5_warmOfAll_34 hlocks
    · have hw := hw.2 c_1
      refine lv_iload_n hx hb dX5_warmOfAll_12 rfl (lv_at hl 2 rfl) ?_
      refine lv_bipush (v := (8 : Int32)) hx hb dX5_warmOfAll_13 (by decide) ?_
      refine lv_icmp_ge (tgt := 33) hx hb dX5_warmOfAll_15 (by decide) (fun c_2 => ?_) (fun c_2 => ?_)
      · have hw := hw.1 c_2
        refine lv_iload_n hx hb dX5_warmOfAll_33 rfl (lv_at hl 1 rfl) ?_
        exact W.iret (v := x1) hx hb hr (fun t ht hW => ⟨⟨x1, (), rfl, hw, by rw [ht]; exact hP, va_K.moved hW.alike hX.1, hD⟩, hS.F ht⟩) hS.2.2 dX5_warmOfAll_34 hlocks
      · have hw := hw.2 c_2
        refine lv_iload_n hx hb dX5_warmOfAll_18 rfl (lv_at hl 1 rfl) ?_
        refine lv_aload_n hx hb dX5_warmOfAll_19 rfl (lv_at hl 0 rfl) ?_
        refine va_get (D := K.1) (ci := 4) (v := .ref q_h_warm) (C := RX5) (T := TX5) (N := 17) hx hb hts iwX5 hown hX.1 hP 0 rfl rfl 9 (by decide) (hts _ k_150) (fun _ h9 => h9) rfl dX5_warmOfAll_20 ?_
        refine lv_iload_n hx hb dX5_warmOfAll_23 rfl (lv_at hl 2 rfl) ?_
        refine va_iald hx hb hX.1 hP 1 0 rfl rfl hw.1 dX5_warmOfAll_24 ?_
        have hw := hw.2
        refine lv_iadd hx hb dX5_warmOfAll_25 ?_
        refine lv_istore_n (lv' := [(1, .int (x1 + (v_warm x2.toNatClampNeg))), (0, .ref q_h), (2, .int x2)]) hx hb dX5_warmOfAll_26 rfl hl (by decide) rfl (fun ls hl => ?_)
        refine lv_iinc (v := (x2 + (1 : Int32))) (lv' := [(2, .int (x2 + (1 : Int32))), (1, .int (x1 + (v_warm x2.toNatClampNeg))), (0, .ref q_h)]) hx hb dX5_warmOfAll_27 hl (k := 2) rfl rfl (by decide) rfl (fun ls hl => ?_)
        refine lv_goto (tgt := 4) hx hb dX5_warmOfAll_30 (by decide) ?_
        exact ih _ _ _ _ _ hw hP hD hS (lv_sub hl [2, 1, 0] rfl)
set_option maxHeartbeats 4000000 in
set_option maxRecDepth 100000 in
theorem c_X5_warmOfAll (l : Launch) (K : vGl) (q_h q_h_warm : Nat)  (g_h_heat : Value) (g_h_doors : Value) (g_h_fed : Value) (g_h_wants : Value) (g_h_burnt : Value) (g_h_hour : Value) (g_h_km : Value) (g_h_cell : Value) (g_h_content : Value) (g_h_going : Value) (g_h_wanted : Value) (g_h_goes : Value) (g_h_tape : Value) (g_h_waiting : Value) (g_h_z : Value) (sz : Nat) (v_houses : Int32) (v_warm : Nat → Int32) (post : Int32 → Prop) (hw : wp_X5_warmOfAll v_houses v_warm post) : Met l yX5_warmOfAll (.code yX5_warmOfAll cX5_warmOfAll 3 (some .int) :: vT) rm_X5_warmOfAll (va_Pc [.ref q_h] (vPre K [(q_h, .inr (4, [g_h_heat, g_h_doors, g_h_fed, g_h_wants, g_h_burnt, g_h_hour, .int v_houses, g_h_km, g_h_cell, .ref q_h_warm, g_h_content, g_h_going, g_h_wanted, g_h_goes, g_h_tape, g_h_waiting, g_h_z])), (q_h_warm, .inl (K.2.2.1, 8, .inl v_warm))] sz)) (Qc_X5_warmOfAll K q_h q_h_warm g_h_heat g_h_doors g_h_fed g_h_wants g_h_burnt g_h_hour g_h_km g_h_cell g_h_content g_h_going g_h_wanted g_h_goes g_h_tape g_h_waiting g_h_z v_houses v_warm post (va_A [(q_h, .inr (4, [g_h_heat, g_h_doors, g_h_fed, g_h_wants, g_h_burnt, g_h_hour, .int v_houses, g_h_km, g_h_cell, .ref q_h_warm, g_h_content, g_h_going, g_h_wanted, g_h_goes, g_h_tape, g_h_waiting, g_h_z])), (q_h_warm, .inl (K.2.2.1, 8, .inl v_warm))] sz)) 0 0 (va_A [(q_h, .inr (4, [g_h_heat, g_h_doors, g_h_fed, g_h_wants, g_h_burnt, g_h_hour, .int v_houses, g_h_km, g_h_cell, .ref q_h_warm, g_h_content, g_h_going, g_h_wanted, g_h_goes, g_h_tape, g_h_waiting, g_h_z])), (q_h_warm, .inl (K.2.2.1, 8, .inl v_warm))] sz) := by
  unfold wp_X5_warmOfAll at hw
  refine Met.ofW (cc := cX5_warmOfAll) (maxL := 3) (ret := (some .int)) (by decide) rfl ?_
  intro p e s m args below meth c s₁ B hml hv
  obtain ⟨rfl, hsz, hP, hK, hD0, hG, hR⟩ := hv
  have hx := B.exec
  have hb := B.bytes
  have hr := B.returns
  have hts : ∀ w ∈ vT, w.before _ s = true := fun w h => atoms_spec (ws := .code yX5_warmOfAll cX5_warmOfAll 3 (some .int) :: vT) B.pre w (List.mem_cons_of_mem _ h)
  have hown : s.vm.findClass RX5 = some m.cls := findClass_of_methodNamed B.named
  have hlocks := B.notSynchronized
  subst hsz
  have hD := hD0.self (sz := s.heap.size)
  show W p l e rm_X5_warmOfAll s m _ below meth c s.heap [] 0 0 _ _
  generalize hAe : va_A [(q_h, .inr (4, [g_h_heat, g_h_doors, g_h_fed, g_h_wants, g_h_burnt, g_h_hour, .int v_houses, g_h_km, g_h_cell, .ref q_h_warm, g_h_content, g_h_going, g_h_wanted, g_h_goes, g_h_tape, g_h_waiting, g_h_z])), (q_h_warm, .inl (K.2.2.1, 8, .inl v_warm))] s.heap.size = A at hD hG ⊢
  have hX : vX K A s := ⟨hK, hG, hR, fun q h => by rw [← hAe]; exact Or.inr h⟩
  have hS : va_S A s.heap s.heap [] := va_S.rf
  have F : vFx p s m ([.ref q_h] : List Value).toArray meth c cX5_warmOfAll RX5 3 (some .int) := ⟨hx, hb, hml, hown, hts, hr, hlocks⟩
  have hl := lv_entry ([.ref q_h]) (n := 3) (Nat.le_of_ble_eq_true rfl)
  rw [lg_entry_eq]
  generalize (lg_sl ([.ref q_h]) ++ List.replicate (3 - (lg_sl ([.ref q_h])).length) Slot.unset).toArray = ls at hl ⊢
  have hl : lv_has ls 3 [(0, .ref q_h)] := hl
  obtain ⟨H, hHe⟩ : ∃ H, H = s.heap := ⟨_, rfl⟩
  have hS : va_S A s.heap H [] := by rw [hHe]; exact hS
  have hP : va_P K.1 vwCl [(q_h, .inr (4, [g_h_heat, g_h_doors, g_h_fed, g_h_wants, g_h_burnt, g_h_hour, .int v_houses, g_h_km, g_h_cell, .ref q_h_warm, g_h_content, g_h_going, g_h_wanted, g_h_goes, g_h_tape, g_h_waiting, g_h_z])), (q_h_warm, .inl (K.2.2.1, 8, .inl v_warm))] H := by rw [hHe]; exact hP
  refine vWH hHe ?_
  refine lv_iconst (v := (0 : Int32)) hx hb dX5_warmOfAll_0 (by decide) ?_
  refine lv_istore_n (lv' := [(1, .int (0 : Int32)), (0, .ref q_h)]) hx hb dX5_warmOfAll_1 rfl hl (by decide) rfl (fun ls hl => ?_)
  refine lv_iconst (v := (0 : Int32)) hx hb dX5_warmOfAll_2 (by decide) ?_
  refine lv_istore_n (lv' := [(2, .int (0 : Int32)), (1, .int (0 : Int32)), (0, .ref q_h)]) hx hb dX5_warmOfAll_3 rfl hl (by decide) rfl (fun ls hl => ?_)
  obtain ⟨n, hw⟩ := hw
  exact t_X5_warmOfAll_b4 F hX n _ _ _ _ _ hw hP hD hS (lv_sub hl [2, 1, 0] rfl)
/-! OvenRings$Town.firstOf(I)I -/
def wp_X5_firstOf_b2 (a1 : Int32) (v_heat : Nat → Int32)  (post : Int32 → Prop) : Nat → Int32 → Prop
  | 0, _ => False
  | n + 1, x2 => ((16 : Int32) ≤ x2 → (post (-1 : Int32))) ∧ (¬ (16 : Int32) ≤ x2 → (vp_in x2 16 ∧ (((v_heat x2.toNatClampNeg) < a1 → (wp_X5_firstOf_b2 a1 v_heat post n (x2 + (1 : Int32)))) ∧ (¬ (v_heat x2.toNatClampNeg) < a1 → (post x2)))))
theorem u_X5_firstOf_b2 {a1 : Int32} {v_heat : Nat → Int32}  {post : Int32 → Prop} {n : Nat} {x2 : Int32} (h : wp_X5_firstOf_b2 a1 v_heat post (n + 1) x2) : ((16 : Int32) ≤ x2 → (post (-1 : Int32))) ∧ (¬ (16 : Int32) ≤ x2 → (vp_in x2 16 ∧ (((v_heat x2.toNatClampNeg) < a1 → (wp_X5_firstOf_b2 a1 v_heat post n (x2 + (1 : Int32)))) ∧ (¬ (v_heat x2.toNatClampNeg) < a1 → (post x2))))) := h
def wp_X5_firstOf (a1 : Int32) (v_heat : Nat → Int32) (post : Int32 → Prop) : Prop := ∃ n, wp_X5_firstOf_b2 a1 v_heat post n (0 : Int32)
abbrev rm_X5_firstOf : Room := { frames := 0, cells := 0, slots := 0, locals := 0 }
abbrev Qc_X5_firstOf (K : vGl) (q_h q_h_heat : Nat)  (g_h_doors : Value) (g_h_fed : Value) (g_h_wants : Value) (g_h_burnt : Value) (g_h_hour : Value) (g_h_houses : Value) (g_h_km : Value) (g_h_cell : Value) (g_h_warm : Value) (g_h_content : Value) (g_h_going : Value) (g_h_wanted : Value) (g_h_goes : Value) (g_h_tape : Value) (g_h_waiting : Value) (g_h_z : Value) (v_heat : Nat → Int32) (post : Int32 → Prop) (A : Nat → Prop) : Array Value → State → Outcome → State → Prop := va_Qi (fun (r : Int32) (u : Unit) => post r ) (fun u t => vB K A [(q_h, .inr (4, [.ref q_h_heat, g_h_doors, g_h_fed, g_h_wants, g_h_burnt, g_h_hour, g_h_houses, g_h_km, g_h_cell, g_h_warm, g_h_content, g_h_going, g_h_wanted, g_h_goes, g_h_tape, g_h_waiting, g_h_z])), (q_h_heat, .inl (K.2.2.1, 16, .inl v_heat))] t) A
set_option maxHeartbeats 4000000 in
set_option maxRecDepth 100000 in
theorem t_X5_firstOf_b2 {p : Program} {l : Launch} {e : Env} {s : State} {m : MethodId} {args : Array Value} {below : List Frame} {meth : Method} {c : Code} {A : Nat → Prop} {K : vGl} {q_h q_h_heat : Nat} {g_h_doors : Value} {g_h_fed : Value} {g_h_wants : Value} {g_h_burnt : Value} {g_h_hour : Value} {g_h_houses : Value} {g_h_km : Value} {g_h_cell : Value} {g_h_warm : Value} {g_h_content : Value} {g_h_going : Value} {g_h_wanted : Value} {g_h_goes : Value} {g_h_tape : Value} {g_h_waiting : Value} {g_h_z : Value} {a1 : Int32} {v_heat : Nat → Int32} {post : Int32 → Prop} (F : vFx p s m args meth c cX5_firstOf RX5 3 (some .int)) (hX : vX K A s) : ∀ (n : Nat) (x2 : Int32) (H : Heap) (locs : List Loc) (ls : Array Slot), wp_X5_firstOf_b2 a1 v_heat post n x2 → va_P K.1 vwCl [(q_h, .inr (4, [.ref q_h_heat, g_h_doors, g_h_fed, g_h_wants, g_h_burnt, g_h_hour, g_h_houses, g_h_km, g_h_cell, g_h_warm, g_h_content, g_h_going, g_h_wanted, g_h_goes, g_h_tape, g_h_waiting, g_h_z])), (q_h_heat, .inl (K.2.2.1, 16, .inl v_heat))] H → va_D A [(q_h, .inr (4, [.ref q_h_heat, g_h_doors, g_h_fed, g_h_wants, g_h_burnt, g_h_hour, g_h_houses, g_h_km, g_h_cell, g_h_warm, g_h_content, g_h_going, g_h_wanted, g_h_goes, g_h_tape, g_h_waiting, g_h_z])), (q_h_heat, .inl (K.2.2.1, 16, .inl v_heat))] → va_S A s.heap H locs → lv_has ls 3 [(0, .ref q_h), (1, .int a1), (2, .int x2)] → W p l e rm_X5_firstOf s m args below meth c H locs 0 0 (MQ below (Qc_X5_firstOf K q_h q_h_heat g_h_doors g_h_fed g_h_wants g_h_burnt g_h_hour g_h_houses g_h_km g_h_cell g_h_warm g_h_content g_h_going g_h_wanted g_h_goes g_h_tape g_h_waiting g_h_z v_heat post A) args s 0 0 A) (F0 m 2 ls []) := by
  obtain ⟨hx, hb, hml, hown, hts, hr, hlocks⟩ := id F
  intro n
  induction n with
  | zero =>
    intro x2 H locs ls hw
    exact hw.elim
  | succ n ih =>
    intro x2 H locs ls hw hP hD hS hl
    have hw := u_X5_firstOf_b2 hw
    refine lv_iload_n hx hb dX5_firstOf_2 rfl (lv_at hl 2 rfl) ?_
    refine lv_bipush (v := (16 : Int32)) hx hb dX5_firstOf_3 (by decide) ?_
    refine lv_icmp_ge (tgt := 26) hx hb dX5_firstOf_5 (by decide) (fun c_1 => ?_) (fun c_1 => ?_)
    · have hw := hw.1 c_1
      refine lv_iconst (v := (-1 : Int32)) hx hb dX5_firstOf_26 (by decide) ?_
      exact W.iret (v := (-1 : Int32)) hx hb hr (fun t ht hW => ⟨⟨(-1 : Int32), (), rfl, hw, by rw [ht]; exact hP, va_K.moved hW.alike hX.1, hD⟩, hS.F ht⟩) hS.2.2 dX5_firstOf_27 hlocks
    · have hw := hw.2 c_1
      refine lv_aload_n hx hb dX5_firstOf_8 rfl (lv_at hl 0 rfl) ?_
      refine va_get (D := K.1) (ci := 4) (v := .ref q_h_heat) (C := RX5) (T := TX5) (N := 17) hx hb hts iwX5 hown hX.1 hP 0 rfl rfl 0 (by decide) (hts _ k_132) (fun _ h9 => h9) rfl dX5_firstOf_9 ?_
      refine lv_iload_n hx hb dX5_firstOf_12 rfl (lv_at hl 2 rfl) ?_
      refine va_iald hx hb hX.1 hP 1 0 rfl rfl hw.1 dX5_firstOf_13 ?_
      have hw := hw.2
      refine lv_iload_n hx hb dX5_firstOf_14 rfl (lv_at hl 1 rfl) ?_
      refine lv_icmp_lt (tgt := 20) hx hb dX5_firstOf_15 (by decide) (fun c_2 => ?_) (fun c_2 => ?_)
      · have hw := hw.1 c_2
        refine lv_iinc (v := (x2 + (1 : Int32))) (lv' := [(2, .int (x2 + (1 : Int32))), (0, .ref q_h), (1, .int a1)]) hx hb dX5_firstOf_20 hl (k := 2) rfl rfl (by decide) rfl (fun ls hl => ?_)
        refine lv_goto (tgt := 2) hx hb dX5_firstOf_23 (by decide) ?_
        exact ih _ _ _ _ hw hP hD hS (lv_sub hl [1, 2, 0] rfl)
      · have hw := hw.2 c_2
        refine lv_iload_n hx hb dX5_firstOf_18 rfl (lv_at hl 2 rfl) ?_
        exact W.iret (v := x2) hx hb hr (fun t ht hW => ⟨⟨x2, (), rfl, hw, by rw [ht]; exact hP, va_K.moved hW.alike hX.1, hD⟩, hS.F ht⟩) hS.2.2 dX5_firstOf_19 hlocks
set_option maxHeartbeats 4000000 in
set_option maxRecDepth 100000 in
theorem c_X5_firstOf (l : Launch) (K : vGl) (q_h q_h_heat : Nat)  (g_h_doors : Value) (g_h_fed : Value) (g_h_wants : Value) (g_h_burnt : Value) (g_h_hour : Value) (g_h_houses : Value) (g_h_km : Value) (g_h_cell : Value) (g_h_warm : Value) (g_h_content : Value) (g_h_going : Value) (g_h_wanted : Value) (g_h_goes : Value) (g_h_tape : Value) (g_h_waiting : Value) (g_h_z : Value) (sz : Nat) (a1 : Int32) (v_heat : Nat → Int32) (post : Int32 → Prop) (hw : wp_X5_firstOf a1 v_heat post) : Met l yX5_firstOf (.code yX5_firstOf cX5_firstOf 3 (some .int) :: vT) rm_X5_firstOf (va_Pc [.ref q_h, .int a1] (vPre K [(q_h, .inr (4, [.ref q_h_heat, g_h_doors, g_h_fed, g_h_wants, g_h_burnt, g_h_hour, g_h_houses, g_h_km, g_h_cell, g_h_warm, g_h_content, g_h_going, g_h_wanted, g_h_goes, g_h_tape, g_h_waiting, g_h_z])), (q_h_heat, .inl (K.2.2.1, 16, .inl v_heat))] sz)) (Qc_X5_firstOf K q_h q_h_heat g_h_doors g_h_fed g_h_wants g_h_burnt g_h_hour g_h_houses g_h_km g_h_cell g_h_warm g_h_content g_h_going g_h_wanted g_h_goes g_h_tape g_h_waiting g_h_z v_heat post (va_A [(q_h, .inr (4, [.ref q_h_heat, g_h_doors, g_h_fed, g_h_wants, g_h_burnt, g_h_hour, g_h_houses, g_h_km, g_h_cell, g_h_warm, g_h_content, g_h_going, g_h_wanted, g_h_goes, g_h_tape, g_h_waiting, g_h_z])), (q_h_heat, .inl (K.2.2.1, 16, .inl v_heat))] sz)) 0 0 (va_A [(q_h, .inr (4, [.ref q_h_heat, g_h_doors, g_h_fed, g_h_wants, g_h_burnt, g_h_hour, g_h_houses, g_h_km, g_h_cell, g_h_warm, g_h_content, g_h_going, g_h_wanted, g_h_goes, g_h_tape, g_h_waiting, g_h_z])), (q_h_heat, .inl (K.2.2.1, 16, .inl v_heat))] sz) := by
  unfold wp_X5_firstOf at hw
  refine Met.ofW (cc := cX5_firstOf) (maxL := 3) (ret := (some .int)) (by decide) rfl ?_
  intro p e s m args below meth c s₁ B hml hv
  obtain ⟨rfl, hsz, hP, hK, hD0, hG, hR⟩ := hv
  have hx := B.exec
  have hb := B.bytes
  have hr := B.returns
  have hts : ∀ w ∈ vT, w.before _ s = true := fun w h => atoms_spec (ws := .code yX5_firstOf cX5_firstOf 3 (some .int) :: vT) B.pre w (List.mem_cons_of_mem _ h)
  have hown : s.vm.findClass RX5 = some m.cls := findClass_of_methodNamed B.named
  have hlocks := B.notSynchronized
  subst hsz
  have hD := hD0.self (sz := s.heap.size)
  show W p l e rm_X5_firstOf s m _ below meth c s.heap [] 0 0 _ _
  generalize hAe : va_A [(q_h, .inr (4, [.ref q_h_heat, g_h_doors, g_h_fed, g_h_wants, g_h_burnt, g_h_hour, g_h_houses, g_h_km, g_h_cell, g_h_warm, g_h_content, g_h_going, g_h_wanted, g_h_goes, g_h_tape, g_h_waiting, g_h_z])), (q_h_heat, .inl (K.2.2.1, 16, .inl v_heat))] s.heap.size = A at hD hG ⊢
  have hX : vX K A s := ⟨hK, hG, hR, fun q h => by rw [← hAe]; exact Or.inr h⟩
  have hS : va_S A s.heap s.heap [] := va_S.rf
  have F : vFx p s m ([.ref q_h, .int a1] : List Value).toArray meth c cX5_firstOf RX5 3 (some .int) := ⟨hx, hb, hml, hown, hts, hr, hlocks⟩
  have hl := lv_entry ([.ref q_h, .int a1]) (n := 3) (Nat.le_of_ble_eq_true rfl)
  rw [lg_entry_eq]
  generalize (lg_sl ([.ref q_h, .int a1]) ++ List.replicate (3 - (lg_sl ([.ref q_h, .int a1])).length) Slot.unset).toArray = ls at hl ⊢
  have hl : lv_has ls 3 [(0, .ref q_h), (1, .int a1)] := hl
  obtain ⟨H, hHe⟩ : ∃ H, H = s.heap := ⟨_, rfl⟩
  have hS : va_S A s.heap H [] := by rw [hHe]; exact hS
  have hP : va_P K.1 vwCl [(q_h, .inr (4, [.ref q_h_heat, g_h_doors, g_h_fed, g_h_wants, g_h_burnt, g_h_hour, g_h_houses, g_h_km, g_h_cell, g_h_warm, g_h_content, g_h_going, g_h_wanted, g_h_goes, g_h_tape, g_h_waiting, g_h_z])), (q_h_heat, .inl (K.2.2.1, 16, .inl v_heat))] H := by rw [hHe]; exact hP
  refine vWH hHe ?_
  refine lv_iconst (v := (0 : Int32)) hx hb dX5_firstOf_0 (by decide) ?_
  refine lv_istore_n (lv' := [(2, .int (0 : Int32)), (0, .ref q_h), (1, .int a1)]) hx hb dX5_firstOf_1 rfl hl (by decide) rfl (fun ls hl => ?_)
  obtain ⟨n, hw⟩ := hw
  exact t_X5_firstOf_b2 F hX n _ _ _ _ hw hP hD hS (lv_sub hl [1, 2, 0] rfl)
/-! OvenRings$Town.coldest()I -/
def wp_X5_coldest_b4 (v_heat : Nat → Int32)  (post : Int32 → Prop) : Nat → Int32 → Int32 → Prop
  | 0, _, _ => False
  | n + 1, x1, x2 => ((16 : Int32) ≤ x2 → (post x1)) ∧ (¬ (16 : Int32) ≤ x2 → (vp_in x2 16 ∧ (vp_in x1 16 ∧ (((v_heat x1.toNatClampNeg) ≤ (v_heat x2.toNatClampNeg) → (wp_X5_coldest_b4 v_heat post n x1 (x2 + (1 : Int32)))) ∧ (¬ (v_heat x1.toNatClampNeg) ≤ (v_heat x2.toNatClampNeg) → (wp_X5_coldest_b4 v_heat post n x2 (x2 + (1 : Int32))))))))
theorem u_X5_coldest_b4 {v_heat : Nat → Int32}  {post : Int32 → Prop} {n : Nat} {x1 : Int32} {x2 : Int32} (h : wp_X5_coldest_b4 v_heat post (n + 1) x1 x2) : ((16 : Int32) ≤ x2 → (post x1)) ∧ (¬ (16 : Int32) ≤ x2 → (vp_in x2 16 ∧ (vp_in x1 16 ∧ (((v_heat x1.toNatClampNeg) ≤ (v_heat x2.toNatClampNeg) → (wp_X5_coldest_b4 v_heat post n x1 (x2 + (1 : Int32)))) ∧ (¬ (v_heat x1.toNatClampNeg) ≤ (v_heat x2.toNatClampNeg) → (wp_X5_coldest_b4 v_heat post n x2 (x2 + (1 : Int32)))))))) := h
def wp_X5_coldest (v_heat : Nat → Int32) (post : Int32 → Prop) : Prop := ∃ n, wp_X5_coldest_b4 v_heat post n (0 : Int32) (1 : Int32)
abbrev rm_X5_coldest : Room := { frames := 0, cells := 0, slots := 0, locals := 0 }
abbrev Qc_X5_coldest (K : vGl) (q_h q_h_heat : Nat)  (g_h_doors : Value) (g_h_fed : Value) (g_h_wants : Value) (g_h_burnt : Value) (g_h_hour : Value) (g_h_houses : Value) (g_h_km : Value) (g_h_cell : Value) (g_h_warm : Value) (g_h_content : Value) (g_h_going : Value) (g_h_wanted : Value) (g_h_goes : Value) (g_h_tape : Value) (g_h_waiting : Value) (g_h_z : Value) (v_heat : Nat → Int32) (post : Int32 → Prop) (A : Nat → Prop) : Array Value → State → Outcome → State → Prop := va_Qi (fun (r : Int32) (u : Unit) => post r ) (fun u t => vB K A [(q_h, .inr (4, [.ref q_h_heat, g_h_doors, g_h_fed, g_h_wants, g_h_burnt, g_h_hour, g_h_houses, g_h_km, g_h_cell, g_h_warm, g_h_content, g_h_going, g_h_wanted, g_h_goes, g_h_tape, g_h_waiting, g_h_z])), (q_h_heat, .inl (K.2.2.1, 16, .inl v_heat))] t) A
set_option maxHeartbeats 4000000 in
set_option maxRecDepth 100000 in
theorem t_X5_coldest_b4 {p : Program} {l : Launch} {e : Env} {s : State} {m : MethodId} {args : Array Value} {below : List Frame} {meth : Method} {c : Code} {A : Nat → Prop} {K : vGl} {q_h q_h_heat : Nat} {g_h_doors : Value} {g_h_fed : Value} {g_h_wants : Value} {g_h_burnt : Value} {g_h_hour : Value} {g_h_houses : Value} {g_h_km : Value} {g_h_cell : Value} {g_h_warm : Value} {g_h_content : Value} {g_h_going : Value} {g_h_wanted : Value} {g_h_goes : Value} {g_h_tape : Value} {g_h_waiting : Value} {g_h_z : Value} {v_heat : Nat → Int32} {post : Int32 → Prop} (F : vFx p s m args meth c cX5_coldest RX5 3 (some .int)) (hX : vX K A s) : ∀ (n : Nat) (x1 : Int32) (x2 : Int32) (H : Heap) (locs : List Loc) (ls : Array Slot), wp_X5_coldest_b4 v_heat post n x1 x2 → va_P K.1 vwCl [(q_h, .inr (4, [.ref q_h_heat, g_h_doors, g_h_fed, g_h_wants, g_h_burnt, g_h_hour, g_h_houses, g_h_km, g_h_cell, g_h_warm, g_h_content, g_h_going, g_h_wanted, g_h_goes, g_h_tape, g_h_waiting, g_h_z])), (q_h_heat, .inl (K.2.2.1, 16, .inl v_heat))] H → va_D A [(q_h, .inr (4, [.ref q_h_heat, g_h_doors, g_h_fed, g_h_wants, g_h_burnt, g_h_hour, g_h_houses, g_h_km, g_h_cell, g_h_warm, g_h_content, g_h_going, g_h_wanted, g_h_goes, g_h_tape, g_h_waiting, g_h_z])), (q_h_heat, .inl (K.2.2.1, 16, .inl v_heat))] → va_S A s.heap H locs → lv_has ls 3 [(0, .ref q_h), (1, .int x1), (2, .int x2)] → W p l e rm_X5_coldest s m args below meth c H locs 0 0 (MQ below (Qc_X5_coldest K q_h q_h_heat g_h_doors g_h_fed g_h_wants g_h_burnt g_h_hour g_h_houses g_h_km g_h_cell g_h_warm g_h_content g_h_going g_h_wanted g_h_goes g_h_tape g_h_waiting g_h_z v_heat post A) args s 0 0 A) (F0 m 4 ls []) := by
  obtain ⟨hx, hb, hml, hown, hts, hr, hlocks⟩ := id F
  intro n
  induction n with
  | zero =>
    intro x1 x2 H locs ls hw
    exact hw.elim
  | succ n ih =>
    intro x1 x2 H locs ls hw hP hD hS hl
    have hw := u_X5_coldest_b4 hw
    refine lv_iload_n hx hb dX5_coldest_4 rfl (lv_at hl 2 rfl) ?_
    refine lv_bipush (v := (16 : Int32)) hx hb dX5_coldest_5 (by decide) ?_
    refine lv_icmp_ge (tgt := 33) hx hb dX5_coldest_7 (by decide) (fun c_1 => ?_) (fun c_1 => ?_)
    · have hw := hw.1 c_1
      refine lv_iload_n hx hb dX5_coldest_33 rfl (lv_at hl 1 rfl) ?_
      exact W.iret (v := x1) hx hb hr (fun t ht hW => ⟨⟨x1, (), rfl, hw, by rw [ht]; exact hP, va_K.moved hW.alike hX.1, hD⟩, hS.F ht⟩) hS.2.2 dX5_coldest_34 hlocks
    · have hw := hw.2 c_1
      refine lv_aload_n hx hb dX5_coldest_10 rfl (lv_at hl 0 rfl) ?_
      refine va_get (D := K.1) (ci := 4) (v := .ref q_h_heat) (C := RX5) (T := TX5) (N := 17) hx hb hts iwX5 hown hX.1 hP 0 rfl rfl 0 (by decide) (hts _ k_132) (fun _ h9 => h9) rfl dX5_coldest_11 ?_
      refine lv_iload_n hx hb dX5_coldest_14 rfl (lv_at hl 2 rfl) ?_
      refine va_iald hx hb hX.1 hP 1 0 rfl rfl hw.1 dX5_coldest_15 ?_
      have hw := hw.2
      refine lv_aload_n hx hb dX5_coldest_16 rfl (lv_at hl 0 rfl) ?_
      refine va_get (D := K.1) (ci := 4) (v := .ref q_h_heat) (C := RX5) (T := TX5) (N := 17) hx hb hts iwX5 hown hX.1 hP 0 rfl rfl 0 (by decide) (hts _ k_132) (fun _ h9 => h9) rfl dX5_coldest_17 ?_
      refine lv_iload_n hx hb dX5_coldest_20 rfl (lv_at hl 1 rfl) ?_
      refine va_iald hx hb hX.1 hP 1 0 rfl rfl hw.1 dX5_coldest_21 ?_
      have hw := hw.2
      refine lv_icmp_ge (tgt := 27) hx hb dX5_coldest_22 (by decide) (fun c_2 => ?_) (fun c_2 => ?_)
      · have hw := hw.1 c_2
        refine lv_iinc (v := (x2 + (1 : Int32))) (lv' := [(2, .int (x2 + (1 : Int32))), (0, .ref q_h), (1, .int x1)]) hx hb dX5_coldest_27 hl (k := 2) rfl rfl (by decide) rfl (fun ls hl => ?_)
        refine lv_goto (tgt := 4) hx hb dX5_coldest_30 (by decide) ?_
        exact ih _ _ _ _ _ hw hP hD hS (lv_sub hl [1, 2, 0] rfl)
      · have hw := hw.2 c_2
        refine lv_iload_n hx hb dX5_coldest_25 rfl (lv_at hl 2 rfl) ?_
        refine lv_istore_n (lv' := [(1, .int x2), (0, .ref q_h), (2, .int x2)]) hx hb dX5_coldest_26 rfl hl (by decide) rfl (fun ls hl => ?_)
        refine lv_iinc (v := (x2 + (1 : Int32))) (lv' := [(2, .int (x2 + (1 : Int32))), (1, .int x2), (0, .ref q_h)]) hx hb dX5_coldest_27 hl (k := 2) rfl rfl (by decide) rfl (fun ls hl => ?_)
        refine lv_goto (tgt := 4) hx hb dX5_coldest_30 (by decide) ?_
        exact ih _ _ _ _ _ hw hP hD hS (lv_sub hl [2, 1, 0] rfl)
set_option maxHeartbeats 4000000 in
set_option maxRecDepth 100000 in
theorem c_X5_coldest (l : Launch) (K : vGl) (q_h q_h_heat : Nat)  (g_h_doors : Value) (g_h_fed : Value) (g_h_wants : Value) (g_h_burnt : Value) (g_h_hour : Value) (g_h_houses : Value) (g_h_km : Value) (g_h_cell : Value) (g_h_warm : Value) (g_h_content : Value) (g_h_going : Value) (g_h_wanted : Value) (g_h_goes : Value) (g_h_tape : Value) (g_h_waiting : Value) (g_h_z : Value) (sz : Nat) (v_heat : Nat → Int32) (post : Int32 → Prop) (hw : wp_X5_coldest v_heat post) : Met l yX5_coldest (.code yX5_coldest cX5_coldest 3 (some .int) :: vT) rm_X5_coldest (va_Pc [.ref q_h] (vPre K [(q_h, .inr (4, [.ref q_h_heat, g_h_doors, g_h_fed, g_h_wants, g_h_burnt, g_h_hour, g_h_houses, g_h_km, g_h_cell, g_h_warm, g_h_content, g_h_going, g_h_wanted, g_h_goes, g_h_tape, g_h_waiting, g_h_z])), (q_h_heat, .inl (K.2.2.1, 16, .inl v_heat))] sz)) (Qc_X5_coldest K q_h q_h_heat g_h_doors g_h_fed g_h_wants g_h_burnt g_h_hour g_h_houses g_h_km g_h_cell g_h_warm g_h_content g_h_going g_h_wanted g_h_goes g_h_tape g_h_waiting g_h_z v_heat post (va_A [(q_h, .inr (4, [.ref q_h_heat, g_h_doors, g_h_fed, g_h_wants, g_h_burnt, g_h_hour, g_h_houses, g_h_km, g_h_cell, g_h_warm, g_h_content, g_h_going, g_h_wanted, g_h_goes, g_h_tape, g_h_waiting, g_h_z])), (q_h_heat, .inl (K.2.2.1, 16, .inl v_heat))] sz)) 0 0 (va_A [(q_h, .inr (4, [.ref q_h_heat, g_h_doors, g_h_fed, g_h_wants, g_h_burnt, g_h_hour, g_h_houses, g_h_km, g_h_cell, g_h_warm, g_h_content, g_h_going, g_h_wanted, g_h_goes, g_h_tape, g_h_waiting, g_h_z])), (q_h_heat, .inl (K.2.2.1, 16, .inl v_heat))] sz) := by
  unfold wp_X5_coldest at hw
  refine Met.ofW (cc := cX5_coldest) (maxL := 3) (ret := (some .int)) (by decide) rfl ?_
  intro p e s m args below meth c s₁ B hml hv
  obtain ⟨rfl, hsz, hP, hK, hD0, hG, hR⟩ := hv
  have hx := B.exec
  have hb := B.bytes
  have hr := B.returns
  have hts : ∀ w ∈ vT, w.before _ s = true := fun w h => atoms_spec (ws := .code yX5_coldest cX5_coldest 3 (some .int) :: vT) B.pre w (List.mem_cons_of_mem _ h)
  have hown : s.vm.findClass RX5 = some m.cls := findClass_of_methodNamed B.named
  have hlocks := B.notSynchronized
  subst hsz
  have hD := hD0.self (sz := s.heap.size)
  show W p l e rm_X5_coldest s m _ below meth c s.heap [] 0 0 _ _
  generalize hAe : va_A [(q_h, .inr (4, [.ref q_h_heat, g_h_doors, g_h_fed, g_h_wants, g_h_burnt, g_h_hour, g_h_houses, g_h_km, g_h_cell, g_h_warm, g_h_content, g_h_going, g_h_wanted, g_h_goes, g_h_tape, g_h_waiting, g_h_z])), (q_h_heat, .inl (K.2.2.1, 16, .inl v_heat))] s.heap.size = A at hD hG ⊢
  have hX : vX K A s := ⟨hK, hG, hR, fun q h => by rw [← hAe]; exact Or.inr h⟩
  have hS : va_S A s.heap s.heap [] := va_S.rf
  have F : vFx p s m ([.ref q_h] : List Value).toArray meth c cX5_coldest RX5 3 (some .int) := ⟨hx, hb, hml, hown, hts, hr, hlocks⟩
  have hl := lv_entry ([.ref q_h]) (n := 3) (Nat.le_of_ble_eq_true rfl)
  rw [lg_entry_eq]
  generalize (lg_sl ([.ref q_h]) ++ List.replicate (3 - (lg_sl ([.ref q_h])).length) Slot.unset).toArray = ls at hl ⊢
  have hl : lv_has ls 3 [(0, .ref q_h)] := hl
  obtain ⟨H, hHe⟩ : ∃ H, H = s.heap := ⟨_, rfl⟩
  have hS : va_S A s.heap H [] := by rw [hHe]; exact hS
  have hP : va_P K.1 vwCl [(q_h, .inr (4, [.ref q_h_heat, g_h_doors, g_h_fed, g_h_wants, g_h_burnt, g_h_hour, g_h_houses, g_h_km, g_h_cell, g_h_warm, g_h_content, g_h_going, g_h_wanted, g_h_goes, g_h_tape, g_h_waiting, g_h_z])), (q_h_heat, .inl (K.2.2.1, 16, .inl v_heat))] H := by rw [hHe]; exact hP
  refine vWH hHe ?_
  refine lv_iconst (v := (0 : Int32)) hx hb dX5_coldest_0 (by decide) ?_
  refine lv_istore_n (lv' := [(1, .int (0 : Int32)), (0, .ref q_h)]) hx hb dX5_coldest_1 rfl hl (by decide) rfl (fun ls hl => ?_)
  refine lv_iconst (v := (1 : Int32)) hx hb dX5_coldest_2 (by decide) ?_
  refine lv_istore_n (lv' := [(2, .int (1 : Int32)), (1, .int (0 : Int32)), (0, .ref q_h)]) hx hb dX5_coldest_3 rfl hl (by decide) rfl (fun ls hl => ?_)
  obtain ⟨n, hw⟩ := hw
  exact t_X5_coldest_b4 F hX n _ _ _ _ _ hw hP hD hS (lv_sub hl [2, 1, 0] rfl)
/-! OvenRings$Town.hasHeats(LOvenRings$Row;)Z -/
def wp_X5_hasHeats_b2 (n_p1 : Nat) (v_p1_many : Int32) (v_heat : Nat → Int32) (v_p1_numbers : Nat → Int32)  (post : Int32 → Prop) : Nat → Int32 → Prop
  | 0, _ => False
  | n + 1, x2 => ((16 : Int32) ≤ x2 → (post (1 : Int32))) ∧ (¬ (16 : Int32) ≤ x2 → (wp_X3_at n_p1 x2 v_p1_many v_p1_numbers (fun r_2 => vp_in x2 16 ∧ ((r_2 = (v_heat x2.toNatClampNeg) → (wp_X5_hasHeats_b2 n_p1 v_p1_many v_heat v_p1_numbers post n (x2 + (1 : Int32)))) ∧ (¬ r_2 = (v_heat x2.toNatClampNeg) → (post (0 : Int32)))))))
theorem u_X5_hasHeats_b2 {n_p1 : Nat} {v_p1_many : Int32} {v_heat : Nat → Int32} {v_p1_numbers : Nat → Int32}  {post : Int32 → Prop} {n : Nat} {x2 : Int32} (h : wp_X5_hasHeats_b2 n_p1 v_p1_many v_heat v_p1_numbers post (n + 1) x2) : ((16 : Int32) ≤ x2 → (post (1 : Int32))) ∧ (¬ (16 : Int32) ≤ x2 → (wp_X3_at n_p1 x2 v_p1_many v_p1_numbers (fun r_2 => vp_in x2 16 ∧ ((r_2 = (v_heat x2.toNatClampNeg) → (wp_X5_hasHeats_b2 n_p1 v_p1_many v_heat v_p1_numbers post n (x2 + (1 : Int32)))) ∧ (¬ r_2 = (v_heat x2.toNatClampNeg) → (post (0 : Int32))))))) := h
def wp_X5_hasHeats (n_p1 : Nat) (v_p1_many : Int32) (v_heat : Nat → Int32) (v_p1_numbers : Nat → Int32) (post : Int32 → Prop) : Prop := ∃ n, wp_X5_hasHeats_b2 n_p1 v_p1_many v_heat v_p1_numbers post n (0 : Int32)
abbrev rm_X5_hasHeats : Room := { frames := 2, cells := 0, slots := 0, locals := 42 }
abbrev Qc_X5_hasHeats (K : vGl) (q_h q_p1 q_h_heat q_p1_numbers : Nat) (n_p1 : Nat) (g_h_doors : Value) (g_h_fed : Value) (g_h_wants : Value) (g_h_burnt : Value) (g_h_hour : Value) (g_h_houses : Value) (g_h_km : Value) (g_h_cell : Value) (g_h_warm : Value) (g_h_content : Value) (g_h_going : Value) (g_h_wanted : Value) (g_h_goes : Value) (g_h_tape : Value) (g_h_waiting : Value) (g_h_z : Value) (v_p1_many : Int32) (v_heat : Nat → Int32) (v_p1_numbers : Nat → Int32) (post : Int32 → Prop) (A : Nat → Prop) : Array Value → State → Outcome → State → Prop := va_Qi (fun (r : Int32) (u : Unit) => (r = 0 ∨ r = 1) ∧ post r ) (fun u t => vB K A [(q_h, .inr (4, [.ref q_h_heat, g_h_doors, g_h_fed, g_h_wants, g_h_burnt, g_h_hour, g_h_houses, g_h_km, g_h_cell, g_h_warm, g_h_content, g_h_going, g_h_wanted, g_h_goes, g_h_tape, g_h_waiting, g_h_z])), (q_p1, .inr (2, [.ref q_p1_numbers, .int v_p1_many])), (q_h_heat, .inl (K.2.2.1, 16, .inl v_heat)), (q_p1_numbers, .inl (K.2.2.1, n_p1, .inl v_p1_numbers))] t) A
set_option maxHeartbeats 4000000 in
set_option maxRecDepth 100000 in
theorem t_X5_hasHeats_b2 {p : Program} {l : Launch} {e : Env} {s : State} {m : MethodId} {args : Array Value} {below : List Frame} {meth : Method} {c : Code} {A : Nat → Prop} {K : vGl} {q_h q_p1 q_h_heat q_p1_numbers : Nat} {n_p1 : Nat} {g_h_doors : Value} {g_h_fed : Value} {g_h_wants : Value} {g_h_burnt : Value} {g_h_hour : Value} {g_h_houses : Value} {g_h_km : Value} {g_h_cell : Value} {g_h_warm : Value} {g_h_content : Value} {g_h_going : Value} {g_h_wanted : Value} {g_h_goes : Value} {g_h_tape : Value} {g_h_waiting : Value} {g_h_z : Value} {v_p1_many : Int32} {v_heat : Nat → Int32} {v_p1_numbers : Nat → Int32} {post : Int32 → Prop} (F : vFx p s m args meth c cX5_hasHeats RX5 3 (some .boolean)) (hX : vX K A s) : ∀ (n : Nat) (x2 : Int32) (H : Heap) (locs : List Loc) (ls : Array Slot), wp_X5_hasHeats_b2 n_p1 v_p1_many v_heat v_p1_numbers post n x2 → va_P K.1 vwCl [(q_h, .inr (4, [.ref q_h_heat, g_h_doors, g_h_fed, g_h_wants, g_h_burnt, g_h_hour, g_h_houses, g_h_km, g_h_cell, g_h_warm, g_h_content, g_h_going, g_h_wanted, g_h_goes, g_h_tape, g_h_waiting, g_h_z])), (q_p1, .inr (2, [.ref q_p1_numbers, .int v_p1_many])), (q_h_heat, .inl (K.2.2.1, 16, .inl v_heat)), (q_p1_numbers, .inl (K.2.2.1, n_p1, .inl v_p1_numbers))] H → va_D A [(q_h, .inr (4, [.ref q_h_heat, g_h_doors, g_h_fed, g_h_wants, g_h_burnt, g_h_hour, g_h_houses, g_h_km, g_h_cell, g_h_warm, g_h_content, g_h_going, g_h_wanted, g_h_goes, g_h_tape, g_h_waiting, g_h_z])), (q_p1, .inr (2, [.ref q_p1_numbers, .int v_p1_many])), (q_h_heat, .inl (K.2.2.1, 16, .inl v_heat)), (q_p1_numbers, .inl (K.2.2.1, n_p1, .inl v_p1_numbers))] → va_S A s.heap H locs → lv_has ls 3 [(0, .ref q_h), (1, .ref q_p1), (2, .int x2)] → W p l e rm_X5_hasHeats s m args below meth c H locs 0 0 (MQ below (Qc_X5_hasHeats K q_h q_p1 q_h_heat q_p1_numbers n_p1 g_h_doors g_h_fed g_h_wants g_h_burnt g_h_hour g_h_houses g_h_km g_h_cell g_h_warm g_h_content g_h_going g_h_wanted g_h_goes g_h_tape g_h_waiting g_h_z v_p1_many v_heat v_p1_numbers post A) args s 0 0 A) (F0 m 2 ls []) := by
  obtain ⟨hx, hb, hml, hown, hts, hr, hlocks⟩ := id F
  intro n
  induction n with
  | zero =>
    intro x2 H locs ls hw
    exact hw.elim
  | succ n ih =>
    intro x2 H locs ls hw hP hD hS hl
    have hw := u_X5_hasHeats_b2 hw
    refine lv_iload_n hx hb dX5_hasHeats_2 rfl (lv_at hl 2 rfl) ?_
    refine lv_bipush (v := (16 : Int32)) hx hb dX5_hasHeats_3 (by decide) ?_
    refine lv_icmp_ge (tgt := 30) hx hb dX5_hasHeats_5 (by decide) (fun c_1 => ?_) (fun c_1 => ?_)
    · have hw := hw.1 c_1
      refine lv_iconst (v := (1 : Int32)) hx hb dX5_hasHeats_30 (by decide) ?_
      exact W.zret (v := (1 : Int32)) hx hb hr vZ1 (fun t ht hW => ⟨⟨(1 : Int32), (), rfl, ⟨Or.inr rfl, hw⟩, by rw [ht]; exact hP, va_K.moved hW.alike hX.1, hD⟩, hS.F ht⟩) hS.2.2 dX5_hasHeats_31 hlocks
    · have hw := hw.2 c_1
      refine lv_aload_n hx hb dX5_hasHeats_8 rfl (lv_at hl 1 rfl) ?_
      refine lv_iload_n hx hb dX5_hasHeats_9 rfl (lv_at hl 2 rfl) ?_
      refine vCalli (K := K) (wr := [(q_h, .inr (4, [.ref q_h_heat, g_h_doors, g_h_fed, g_h_wants, g_h_burnt, g_h_hour, g_h_houses, g_h_km, g_h_cell, g_h_warm, g_h_content, g_h_going, g_h_wanted, g_h_goes, g_h_tape, g_h_waiting, g_h_z])), (q_h_heat, .inl (K.2.2.1, 16, .inl v_heat))]) (w1 := (fun _ => [(q_p1, .inr (2, [.ref q_p1_numbers, .int v_p1_many])), (q_p1_numbers, .inl (K.2.2.1, n_p1, .inl v_p1_numbers))])) (va_runV (As := [.int x2]) (rest := []) ⟨hx, hb, hml, hown, hts⟩ (c_X3_at l K q_p1 q_p1_numbers n_p1 H.size x2 v_p1_many v_p1_numbers _ hw) (cwV 1 hts (vGoodV k_639 k_640 k_641 k_60 k_642) rfl rfl rfl (by decide +kernel) ⟨Nat.le_of_ble_eq_true rfl, Nat.le_of_ble_eq_true rfl⟩) ⟨vPre_blind, va_recv hX.1 hP (ci := 2) (q0 := 1) rfl rfl, fun U hU hW => ⟨rfl, vPre_of hX hP hD hS [1, 3] rfl (by decide) U hU hW⟩⟩ rfl rfl hl.1 rfl (lv_room (Nat.le_of_ble_eq_true rfl)) dX5_hasHeats_10 ⟨Nat.zero_le _, Nat.zero_le _⟩) hX hP hD hS [1, 3] [0, 2] rfl rfl (by decide) (by decide) (fun r_2 u H locs hw hP hD hS => ?_)
      have hP : va_P K.1 vwCl [(q_h, .inr (4, [.ref q_h_heat, g_h_doors, g_h_fed, g_h_wants, g_h_burnt, g_h_hour, g_h_houses, g_h_km, g_h_cell, g_h_warm, g_h_content, g_h_going, g_h_wanted, g_h_goes, g_h_tape, g_h_waiting, g_h_z])), (q_p1, .inr (2, [.ref q_p1_numbers, .int v_p1_many])), (q_h_heat, .inl (K.2.2.1, 16, .inl v_heat)), (q_p1_numbers, .inl (K.2.2.1, n_p1, .inl v_p1_numbers))] H := hP.sub [0, 2, 1, 3] rfl
      have hD : va_D A [(q_h, .inr (4, [.ref q_h_heat, g_h_doors, g_h_fed, g_h_wants, g_h_burnt, g_h_hour, g_h_houses, g_h_km, g_h_cell, g_h_warm, g_h_content, g_h_going, g_h_wanted, g_h_goes, g_h_tape, g_h_waiting, g_h_z])), (q_p1, .inr (2, [.ref q_p1_numbers, .int v_p1_many])), (q_h_heat, .inl (K.2.2.1, 16, .inl v_heat)), (q_p1_numbers, .inl (K.2.2.1, n_p1, .inl v_p1_numbers))] := hD.sub [0, 2, 1, 3] (by decide) rfl
      refine lv_aload_n hx hb dX5_hasHeats_13 rfl (lv_at hl 0 rfl) ?_
      refine va_get (D := K.1) (ci := 4) (v := .ref q_h_heat) (C := RX5) (T := TX5) (N := 17) hx hb hts iwX5 hown hX.1 hP 0 rfl rfl 0 (by decide) (hts _ k_132) (fun _ h9 => h9) rfl dX5_hasHeats_14 ?_
      refine lv_iload_n hx hb dX5_hasHeats_17 rfl (lv_at hl 2 rfl) ?_
      refine va_iald hx hb hX.1 hP 2 0 rfl rfl hw.1 dX5_hasHeats_18 ?_
      have hw := hw.2
      refine lv_icmp_eq (tgt := 24) hx hb dX5_hasHeats_19 (by decide) (fun c_3 => ?_) (fun c_3 => ?_)
      · have hw := hw.1 c_3
        refine lv_iinc (v := (x2 + (1 : Int32))) (lv' := [(2, .int (x2 + (1 : Int32))), (0, .ref q_h), (1, .ref q_p1)]) hx hb dX5_hasHeats_24 hl (k := 2) rfl rfl (by decide) rfl (fun ls hl => ?_)
        refine lv_goto (tgt := 2) hx hb dX5_hasHeats_27 (by decide) ?_
        exact ih _ _ _ _ hw hP hD hS (lv_sub hl [1, 2, 0] rfl)
      · have hw := hw.2 c_3
        refine lv_iconst (v := (0 : Int32)) hx hb dX5_hasHeats_22 (by decide) ?_
        exact W.zret (v := (0 : Int32)) hx hb hr vZ0 (fun t ht hW => ⟨⟨(0 : Int32), (), rfl, ⟨Or.inl rfl, hw⟩, by rw [ht]; exact hP, va_K.moved hW.alike hX.1, hD⟩, hS.F ht⟩) hS.2.2 dX5_hasHeats_23 hlocks
set_option maxHeartbeats 4000000 in
set_option maxRecDepth 100000 in
theorem c_X5_hasHeats (l : Launch) (K : vGl) (q_h q_p1 q_h_heat q_p1_numbers : Nat) (n_p1 : Nat) (g_h_doors : Value) (g_h_fed : Value) (g_h_wants : Value) (g_h_burnt : Value) (g_h_hour : Value) (g_h_houses : Value) (g_h_km : Value) (g_h_cell : Value) (g_h_warm : Value) (g_h_content : Value) (g_h_going : Value) (g_h_wanted : Value) (g_h_goes : Value) (g_h_tape : Value) (g_h_waiting : Value) (g_h_z : Value) (sz : Nat) (v_p1_many : Int32) (v_heat : Nat → Int32) (v_p1_numbers : Nat → Int32) (post : Int32 → Prop) (hw : wp_X5_hasHeats n_p1 v_p1_many v_heat v_p1_numbers post) : Met l yX5_hasHeats (.code yX5_hasHeats cX5_hasHeats 3 (some .boolean) :: vT) rm_X5_hasHeats (va_Pc [.ref q_h, .ref q_p1] (vPre K [(q_h, .inr (4, [.ref q_h_heat, g_h_doors, g_h_fed, g_h_wants, g_h_burnt, g_h_hour, g_h_houses, g_h_km, g_h_cell, g_h_warm, g_h_content, g_h_going, g_h_wanted, g_h_goes, g_h_tape, g_h_waiting, g_h_z])), (q_p1, .inr (2, [.ref q_p1_numbers, .int v_p1_many])), (q_h_heat, .inl (K.2.2.1, 16, .inl v_heat)), (q_p1_numbers, .inl (K.2.2.1, n_p1, .inl v_p1_numbers))] sz)) (Qc_X5_hasHeats K q_h q_p1 q_h_heat q_p1_numbers n_p1 g_h_doors g_h_fed g_h_wants g_h_burnt g_h_hour g_h_houses g_h_km g_h_cell g_h_warm g_h_content g_h_going g_h_wanted g_h_goes g_h_tape g_h_waiting g_h_z v_p1_many v_heat v_p1_numbers post (va_A [(q_h, .inr (4, [.ref q_h_heat, g_h_doors, g_h_fed, g_h_wants, g_h_burnt, g_h_hour, g_h_houses, g_h_km, g_h_cell, g_h_warm, g_h_content, g_h_going, g_h_wanted, g_h_goes, g_h_tape, g_h_waiting, g_h_z])), (q_p1, .inr (2, [.ref q_p1_numbers, .int v_p1_many])), (q_h_heat, .inl (K.2.2.1, 16, .inl v_heat)), (q_p1_numbers, .inl (K.2.2.1, n_p1, .inl v_p1_numbers))] sz)) 0 0 (va_A [(q_h, .inr (4, [.ref q_h_heat, g_h_doors, g_h_fed, g_h_wants, g_h_burnt, g_h_hour, g_h_houses, g_h_km, g_h_cell, g_h_warm, g_h_content, g_h_going, g_h_wanted, g_h_goes, g_h_tape, g_h_waiting, g_h_z])), (q_p1, .inr (2, [.ref q_p1_numbers, .int v_p1_many])), (q_h_heat, .inl (K.2.2.1, 16, .inl v_heat)), (q_p1_numbers, .inl (K.2.2.1, n_p1, .inl v_p1_numbers))] sz) := by
  unfold wp_X5_hasHeats at hw
  refine Met.ofW (cc := cX5_hasHeats) (maxL := 3) (ret := (some .boolean)) (by decide) rfl ?_
  intro p e s m args below meth c s₁ B hml hv
  obtain ⟨rfl, hsz, hP, hK, hD0, hG, hR⟩ := hv
  have hx := B.exec
  have hb := B.bytes
  have hr := B.returns
  have hts : ∀ w ∈ vT, w.before _ s = true := fun w h => atoms_spec (ws := .code yX5_hasHeats cX5_hasHeats 3 (some .boolean) :: vT) B.pre w (List.mem_cons_of_mem _ h)
  have hown : s.vm.findClass RX5 = some m.cls := findClass_of_methodNamed B.named
  have hlocks := B.notSynchronized
  subst hsz
  have hD := hD0.self (sz := s.heap.size)
  show W p l e rm_X5_hasHeats s m _ below meth c s.heap [] 0 0 _ _
  generalize hAe : va_A [(q_h, .inr (4, [.ref q_h_heat, g_h_doors, g_h_fed, g_h_wants, g_h_burnt, g_h_hour, g_h_houses, g_h_km, g_h_cell, g_h_warm, g_h_content, g_h_going, g_h_wanted, g_h_goes, g_h_tape, g_h_waiting, g_h_z])), (q_p1, .inr (2, [.ref q_p1_numbers, .int v_p1_many])), (q_h_heat, .inl (K.2.2.1, 16, .inl v_heat)), (q_p1_numbers, .inl (K.2.2.1, n_p1, .inl v_p1_numbers))] s.heap.size = A at hD hG ⊢
  have hX : vX K A s := ⟨hK, hG, hR, fun q h => by rw [← hAe]; exact Or.inr h⟩
  have hS : va_S A s.heap s.heap [] := va_S.rf
  have F : vFx p s m ([.ref q_h, .ref q_p1] : List Value).toArray meth c cX5_hasHeats RX5 3 (some .boolean) := ⟨hx, hb, hml, hown, hts, hr, hlocks⟩
  have hl := lv_entry ([.ref q_h, .ref q_p1]) (n := 3) (Nat.le_of_ble_eq_true rfl)
  rw [lg_entry_eq]
  generalize (lg_sl ([.ref q_h, .ref q_p1]) ++ List.replicate (3 - (lg_sl ([.ref q_h, .ref q_p1])).length) Slot.unset).toArray = ls at hl ⊢
  have hl : lv_has ls 3 [(0, .ref q_h), (1, .ref q_p1)] := hl
  obtain ⟨H, hHe⟩ : ∃ H, H = s.heap := ⟨_, rfl⟩
  have hS : va_S A s.heap H [] := by rw [hHe]; exact hS
  have hP : va_P K.1 vwCl [(q_h, .inr (4, [.ref q_h_heat, g_h_doors, g_h_fed, g_h_wants, g_h_burnt, g_h_hour, g_h_houses, g_h_km, g_h_cell, g_h_warm, g_h_content, g_h_going, g_h_wanted, g_h_goes, g_h_tape, g_h_waiting, g_h_z])), (q_p1, .inr (2, [.ref q_p1_numbers, .int v_p1_many])), (q_h_heat, .inl (K.2.2.1, 16, .inl v_heat)), (q_p1_numbers, .inl (K.2.2.1, n_p1, .inl v_p1_numbers))] H := by rw [hHe]; exact hP
  refine vWH hHe ?_
  refine lv_iconst (v := (0 : Int32)) hx hb dX5_hasHeats_0 (by decide) ?_
  refine lv_istore_n (lv' := [(2, .int (0 : Int32)), (0, .ref q_h), (1, .ref q_p1)]) hx hb dX5_hasHeats_1 rfl hl (by decide) rfl (fun ls hl => ?_)
  obtain ⟨n, hw⟩ := hw
  exact t_X5_hasHeats_b2 F hX n _ _ _ _ hw hP hD hS (lv_sub hl [1, 2, 0] rfl)
/-! OvenRings$Town.housesIn(I)I -/
def wp_X5_housesIn_b4 (a1 : Int32) (v_houses : Int32) (v_cell : Nat → Int32)  (post : Int32 → Prop) : Nat → Int32 → Int32 → Prop
  | 0, _, _ => False
  | n + 1, x2, x3 => (v_houses ≤ x3 → (post x2)) ∧ (¬ v_houses ≤ x3 → (((8 : Int32) ≤ x3 → (post x2)) ∧ (¬ (8 : Int32) ≤ x3 → (vp_in x3 8 ∧ (((v_cell x3.toNatClampNeg) = a1 → (wp_X5_housesIn_b4 a1 v_houses v_cell post n (x2 ||| ((1 : Int32) <<< (x3 &&& 31))) (x3 + (1 : Int32)))) ∧ (¬ (v_cell x3.toNatClampNeg) = a1 → (wp_X5_housesIn_b4 a1 v_houses v_cell post n x2 (x3 + (1 : Int32)))))))))
theorem u_X5_housesIn_b4 {a1 : Int32} {v_houses : Int32} {v_cell : Nat → Int32}  {post : Int32 → Prop} {n : Nat} {x2 : Int32} {x3 : Int32} (h : wp_X5_housesIn_b4 a1 v_houses v_cell post (n + 1) x2 x3) : (v_houses ≤ x3 → (post x2)) ∧ (¬ v_houses ≤ x3 → (((8 : Int32) ≤ x3 → (post x2)) ∧ (¬ (8 : Int32) ≤ x3 → (vp_in x3 8 ∧ (((v_cell x3.toNatClampNeg) = a1 → (wp_X5_housesIn_b4 a1 v_houses v_cell post n (x2 ||| ((1 : Int32) <<< (x3 &&& 31))) (x3 + (1 : Int32)))) ∧ (¬ (v_cell x3.toNatClampNeg) = a1 → (wp_X5_housesIn_b4 a1 v_houses v_cell post n x2 (x3 + (1 : Int32))))))))) := h
def wp_X5_housesIn (a1 : Int32) (v_houses : Int32) (v_cell : Nat → Int32) (post : Int32 → Prop) : Prop := ∃ n, wp_X5_housesIn_b4 a1 v_houses v_cell post n (0 : Int32) (0 : Int32)
abbrev rm_X5_housesIn : Room := { frames := 0, cells := 0, slots := 0, locals := 0 }
abbrev Qc_X5_housesIn (K : vGl) (q_h q_h_cell : Nat)  (g_h_heat : Value) (g_h_doors : Value) (g_h_fed : Value) (g_h_wants : Value) (g_h_burnt : Value) (g_h_hour : Value) (g_h_km : Value) (g_h_warm : Value) (g_h_content : Value) (g_h_going : Value) (g_h_wanted : Value) (g_h_goes : Value) (g_h_tape : Value) (g_h_waiting : Value) (g_h_z : Value) (v_houses : Int32) (v_cell : Nat → Int32) (post : Int32 → Prop) (A : Nat → Prop) : Array Value → State → Outcome → State → Prop := va_Qi (fun (r : Int32) (u : Unit) => post r ) (fun u t => vB K A [(q_h, .inr (4, [g_h_heat, g_h_doors, g_h_fed, g_h_wants, g_h_burnt, g_h_hour, .int v_houses, g_h_km, .ref q_h_cell, g_h_warm, g_h_content, g_h_going, g_h_wanted, g_h_goes, g_h_tape, g_h_waiting, g_h_z])), (q_h_cell, .inl (K.2.2.1, 8, .inl v_cell))] t) A
set_option maxHeartbeats 4000000 in
set_option maxRecDepth 100000 in
theorem t_X5_housesIn_b4 {p : Program} {l : Launch} {e : Env} {s : State} {m : MethodId} {args : Array Value} {below : List Frame} {meth : Method} {c : Code} {A : Nat → Prop} {K : vGl} {q_h q_h_cell : Nat} {g_h_heat : Value} {g_h_doors : Value} {g_h_fed : Value} {g_h_wants : Value} {g_h_burnt : Value} {g_h_hour : Value} {g_h_km : Value} {g_h_warm : Value} {g_h_content : Value} {g_h_going : Value} {g_h_wanted : Value} {g_h_goes : Value} {g_h_tape : Value} {g_h_waiting : Value} {g_h_z : Value} {a1 : Int32} {v_houses : Int32} {v_cell : Nat → Int32} {post : Int32 → Prop} (F : vFx p s m args meth c cX5_housesIn RX5 4 (some .int)) (hX : vX K A s) : ∀ (n : Nat) (x2 : Int32) (x3 : Int32) (H : Heap) (locs : List Loc) (ls : Array Slot), wp_X5_housesIn_b4 a1 v_houses v_cell post n x2 x3 → va_P K.1 vwCl [(q_h, .inr (4, [g_h_heat, g_h_doors, g_h_fed, g_h_wants, g_h_burnt, g_h_hour, .int v_houses, g_h_km, .ref q_h_cell, g_h_warm, g_h_content, g_h_going, g_h_wanted, g_h_goes, g_h_tape, g_h_waiting, g_h_z])), (q_h_cell, .inl (K.2.2.1, 8, .inl v_cell))] H → va_D A [(q_h, .inr (4, [g_h_heat, g_h_doors, g_h_fed, g_h_wants, g_h_burnt, g_h_hour, .int v_houses, g_h_km, .ref q_h_cell, g_h_warm, g_h_content, g_h_going, g_h_wanted, g_h_goes, g_h_tape, g_h_waiting, g_h_z])), (q_h_cell, .inl (K.2.2.1, 8, .inl v_cell))] → va_S A s.heap H locs → lv_has ls 4 [(0, .ref q_h), (1, .int a1), (2, .int x2), (3, .int x3)] → W p l e rm_X5_housesIn s m args below meth c H locs 0 0 (MQ below (Qc_X5_housesIn K q_h q_h_cell g_h_heat g_h_doors g_h_fed g_h_wants g_h_burnt g_h_hour g_h_km g_h_warm g_h_content g_h_going g_h_wanted g_h_goes g_h_tape g_h_waiting g_h_z v_houses v_cell post A) args s 0 0 A) (F0 m 4 ls []) := by
  obtain ⟨hx, hb, hml, hown, hts, hr, hlocks⟩ := id F
  intro n
  induction n with
  | zero =>
    intro x2 x3 H locs ls hw
    exact hw.elim
  | succ n ih =>
    intro x2 x3 H locs ls hw hP hD hS hl
    have hw := u_X5_housesIn_b4 hw
    refine lv_iload_n hx hb dX5_housesIn_4 rfl (lv_at hl 3 rfl) ?_
    refine lv_aload_n hx hb dX5_housesIn_5 rfl (lv_at hl 0 rfl) ?_
    refine va_get (D := K.1) (ci := 4) (v := .int v_houses) (C := RX5) (T := TX5) (N := 17) hx hb hts iwX5 hown hX.1 hP 0 rfl rfl 6 (by decide) (hts _ k_144) (fun _ h9 => h9) rfl dX5_housesIn_6 ?_
    refine lv_icmp_ge (tgt := 40) hx hb dX5_housesIn_9 (by decide) (fun c_1 => ?_) (fun c_1 => ?_)
    · have hw := hw.1 c_1
      refine lv_iload_n hx hb dX5_housesIn_40 rfl (lv_at hl 2 rfl) ?_
      exact W.iret (v := x2) hx hb hr (fun t ht hW => ⟨⟨x2, (), rfl, hw, by rw [ht]; exact hP, va_K.moved hW.alike hX.1, hD⟩, hS.F ht⟩) hS.2.2 dX5_housesIn_41 hlocks
    · have hw := hw.2 c_1
      refine lv_iload_n hx hb dX5_housesIn_12 rfl (lv_at hl 3 rfl) ?_
      refine lv_bipush (v := (8 : Int32)) hx hb dX5_housesIn_13 (by decide) ?_
      refine lv_icmp_ge (tgt := 40) hx hb dX5_housesIn_15 (by decide) (fun c_2 => ?_) (fun c_2 => ?_)
      · have hw := hw.1 c_2
        refine lv_iload_n hx hb dX5_housesIn_40 rfl (lv_at hl 2 rfl) ?_
        exact W.iret (v := x2) hx hb hr (fun t ht hW => ⟨⟨x2, (), rfl, hw, by rw [ht]; exact hP, va_K.moved hW.alike hX.1, hD⟩, hS.F ht⟩) hS.2.2 dX5_housesIn_41 hlocks
      · have hw := hw.2 c_2
        refine lv_aload_n hx hb dX5_housesIn_18 rfl (lv_at hl 0 rfl) ?_
        refine va_get (D := K.1) (ci := 4) (v := .ref q_h_cell) (C := RX5) (T := TX5) (N := 17) hx hb hts iwX5 hown hX.1 hP 0 rfl rfl 8 (by decide) (hts _ k_148) (fun _ h9 => h9) rfl dX5_housesIn_19 ?_
        refine lv_iload_n hx hb dX5_housesIn_22 rfl (lv_at hl 3 rfl) ?_
        refine va_iald hx hb hX.1 hP 1 0 rfl rfl hw.1 dX5_housesIn_23 ?_
        have hw := hw.2
        refine lv_iload_n hx hb dX5_housesIn_24 rfl (lv_at hl 1 rfl) ?_
        refine lv_icmp_ne (tgt := 34) hx hb dX5_housesIn_25 (by decide) (fun c_3 => ?_) (fun c_3 => ?_)
        · have hw := hw.2 c_3
          refine lv_iinc (v := (x3 + (1 : Int32))) (lv' := [(3, .int (x3 + (1 : Int32))), (0, .ref q_h), (1, .int a1), (2, .int x2)]) hx hb dX5_housesIn_34 hl (k := 3) rfl rfl (by decide) rfl (fun ls hl => ?_)
          refine lv_goto (tgt := 4) hx hb dX5_housesIn_37 (by decide) ?_
          exact ih _ _ _ _ _ hw hP hD hS (lv_sub hl [1, 2, 3, 0] rfl)
        · have hw := hw.1 c_3
          refine lv_iload_n hx hb dX5_housesIn_28 rfl (lv_at hl 2 rfl) ?_
          refine lv_iconst (v := (1 : Int32)) hx hb dX5_housesIn_29 (by decide) ?_
          refine lv_iload_n hx hb dX5_housesIn_30 rfl (lv_at hl 3 rfl) ?_
          refine lv_ishl hx hb dX5_housesIn_31 ?_
          refine lv_ior hx hb dX5_housesIn_32 ?_
          refine lv_istore_n (lv' := [(2, .int (x2 ||| ((1 : Int32) <<< (x3 &&& 31)))), (0, .ref q_h), (1, .int a1), (3, .int x3)]) hx hb dX5_housesIn_33 rfl hl (by decide) rfl (fun ls hl => ?_)
          refine lv_iinc (v := (x3 + (1 : Int32))) (lv' := [(3, .int (x3 + (1 : Int32))), (2, .int (x2 ||| ((1 : Int32) <<< (x3 &&& 31)))), (0, .ref q_h), (1, .int a1)]) hx hb dX5_housesIn_34 hl (k := 3) rfl rfl (by decide) rfl (fun ls hl => ?_)
          refine lv_goto (tgt := 4) hx hb dX5_housesIn_37 (by decide) ?_
          exact ih _ _ _ _ _ hw hP hD hS (lv_sub hl [2, 3, 1, 0] rfl)
set_option maxHeartbeats 4000000 in
set_option maxRecDepth 100000 in
theorem c_X5_housesIn (l : Launch) (K : vGl) (q_h q_h_cell : Nat)  (g_h_heat : Value) (g_h_doors : Value) (g_h_fed : Value) (g_h_wants : Value) (g_h_burnt : Value) (g_h_hour : Value) (g_h_km : Value) (g_h_warm : Value) (g_h_content : Value) (g_h_going : Value) (g_h_wanted : Value) (g_h_goes : Value) (g_h_tape : Value) (g_h_waiting : Value) (g_h_z : Value) (sz : Nat) (a1 : Int32) (v_houses : Int32) (v_cell : Nat → Int32) (post : Int32 → Prop) (hw : wp_X5_housesIn a1 v_houses v_cell post) : Met l yX5_housesIn (.code yX5_housesIn cX5_housesIn 4 (some .int) :: vT) rm_X5_housesIn (va_Pc [.ref q_h, .int a1] (vPre K [(q_h, .inr (4, [g_h_heat, g_h_doors, g_h_fed, g_h_wants, g_h_burnt, g_h_hour, .int v_houses, g_h_km, .ref q_h_cell, g_h_warm, g_h_content, g_h_going, g_h_wanted, g_h_goes, g_h_tape, g_h_waiting, g_h_z])), (q_h_cell, .inl (K.2.2.1, 8, .inl v_cell))] sz)) (Qc_X5_housesIn K q_h q_h_cell g_h_heat g_h_doors g_h_fed g_h_wants g_h_burnt g_h_hour g_h_km g_h_warm g_h_content g_h_going g_h_wanted g_h_goes g_h_tape g_h_waiting g_h_z v_houses v_cell post (va_A [(q_h, .inr (4, [g_h_heat, g_h_doors, g_h_fed, g_h_wants, g_h_burnt, g_h_hour, .int v_houses, g_h_km, .ref q_h_cell, g_h_warm, g_h_content, g_h_going, g_h_wanted, g_h_goes, g_h_tape, g_h_waiting, g_h_z])), (q_h_cell, .inl (K.2.2.1, 8, .inl v_cell))] sz)) 0 0 (va_A [(q_h, .inr (4, [g_h_heat, g_h_doors, g_h_fed, g_h_wants, g_h_burnt, g_h_hour, .int v_houses, g_h_km, .ref q_h_cell, g_h_warm, g_h_content, g_h_going, g_h_wanted, g_h_goes, g_h_tape, g_h_waiting, g_h_z])), (q_h_cell, .inl (K.2.2.1, 8, .inl v_cell))] sz) := by
  unfold wp_X5_housesIn at hw
  refine Met.ofW (cc := cX5_housesIn) (maxL := 4) (ret := (some .int)) (by decide) rfl ?_
  intro p e s m args below meth c s₁ B hml hv
  obtain ⟨rfl, hsz, hP, hK, hD0, hG, hR⟩ := hv
  have hx := B.exec
  have hb := B.bytes
  have hr := B.returns
  have hts : ∀ w ∈ vT, w.before _ s = true := fun w h => atoms_spec (ws := .code yX5_housesIn cX5_housesIn 4 (some .int) :: vT) B.pre w (List.mem_cons_of_mem _ h)
  have hown : s.vm.findClass RX5 = some m.cls := findClass_of_methodNamed B.named
  have hlocks := B.notSynchronized
  subst hsz
  have hD := hD0.self (sz := s.heap.size)
  show W p l e rm_X5_housesIn s m _ below meth c s.heap [] 0 0 _ _
  generalize hAe : va_A [(q_h, .inr (4, [g_h_heat, g_h_doors, g_h_fed, g_h_wants, g_h_burnt, g_h_hour, .int v_houses, g_h_km, .ref q_h_cell, g_h_warm, g_h_content, g_h_going, g_h_wanted, g_h_goes, g_h_tape, g_h_waiting, g_h_z])), (q_h_cell, .inl (K.2.2.1, 8, .inl v_cell))] s.heap.size = A at hD hG ⊢
  have hX : vX K A s := ⟨hK, hG, hR, fun q h => by rw [← hAe]; exact Or.inr h⟩
  have hS : va_S A s.heap s.heap [] := va_S.rf
  have F : vFx p s m ([.ref q_h, .int a1] : List Value).toArray meth c cX5_housesIn RX5 4 (some .int) := ⟨hx, hb, hml, hown, hts, hr, hlocks⟩
  have hl := lv_entry ([.ref q_h, .int a1]) (n := 4) (Nat.le_of_ble_eq_true rfl)
  rw [lg_entry_eq]
  generalize (lg_sl ([.ref q_h, .int a1]) ++ List.replicate (4 - (lg_sl ([.ref q_h, .int a1])).length) Slot.unset).toArray = ls at hl ⊢
  have hl : lv_has ls 4 [(0, .ref q_h), (1, .int a1)] := hl
  obtain ⟨H, hHe⟩ : ∃ H, H = s.heap := ⟨_, rfl⟩
  have hS : va_S A s.heap H [] := by rw [hHe]; exact hS
  have hP : va_P K.1 vwCl [(q_h, .inr (4, [g_h_heat, g_h_doors, g_h_fed, g_h_wants, g_h_burnt, g_h_hour, .int v_houses, g_h_km, .ref q_h_cell, g_h_warm, g_h_content, g_h_going, g_h_wanted, g_h_goes, g_h_tape, g_h_waiting, g_h_z])), (q_h_cell, .inl (K.2.2.1, 8, .inl v_cell))] H := by rw [hHe]; exact hP
  refine vWH hHe ?_
  refine lv_iconst (v := (0 : Int32)) hx hb dX5_housesIn_0 (by decide) ?_
  refine lv_istore_n (lv' := [(2, .int (0 : Int32)), (0, .ref q_h), (1, .int a1)]) hx hb dX5_housesIn_1 rfl hl (by decide) rfl (fun ls hl => ?_)
  refine lv_iconst (v := (0 : Int32)) hx hb dX5_housesIn_2 (by decide) ?_
  refine lv_istore_n (lv' := [(3, .int (0 : Int32)), (2, .int (0 : Int32)), (0, .ref q_h), (1, .int a1)]) hx hb dX5_housesIn_3 rfl hl (by decide) rfl (fun ls hl => ?_)
  obtain ⟨n, hw⟩ := hw
  exact t_X5_housesIn_b4 F hX n _ _ _ _ _ hw hP hD hS (lv_sub hl [2, 3, 1, 0] rfl)
/-! OvenRings$Voice.bodyOf(II)I -/
def wp_X6_bodyOf_b7 (a2 : Int32)  (post : Int32 → Prop) : Nat → Int32 → Int32 → Int32 → Prop
  | 0, _, _, _ => False
  | n + 1, x2, x3, x4 => ((28 : Int32) ≤ x4 → (post x3)) ∧ (¬ (28 : Int32) ≤ x4 → ((x3 = 0 → ((x2 < 0 → (post x3)) ∧ (¬ x2 < 0 → ((((x2 * (4 : Int32)) + a2) < 0 → (wp_X0_above x2 (fun r_5 => wp_X6_bodyOf_b7 a2 post n r_5 x3 (x4 + (1 : Int32))))) ∧ (¬ ((x2 * (4 : Int32)) + a2) < 0 → (((28 : Int32) ≤ ((x2 * (4 : Int32)) + a2) → (wp_X0_above x2 (fun r_7 => wp_X6_bodyOf_b7 a2 post n r_7 x3 (x4 + (1 : Int32))))) ∧ (¬ (28 : Int32) ≤ ((x2 * (4 : Int32)) + a2) → (vp_in ((x2 * (4 : Int32)) + a2) 28 ∧ (wp_X0_above x2 (fun r_8 => wp_X6_bodyOf_b7 a2 post n r_8 (vBodies ((x2 * (4 : Int32)) + a2).toNatClampNeg) (x4 + (1 : Int32)))))))))))) ∧ (¬ x3 = 0 → (post x3))))
theorem u_X6_bodyOf_b7 {a2 : Int32}  {post : Int32 → Prop} {n : Nat} {x2 : Int32} {x3 : Int32} {x4 : Int32} (h : wp_X6_bodyOf_b7 a2 post (n + 1) x2 x3 x4) : ((28 : Int32) ≤ x4 → (post x3)) ∧ (¬ (28 : Int32) ≤ x4 → ((x3 = 0 → ((x2 < 0 → (post x3)) ∧ (¬ x2 < 0 → ((((x2 * (4 : Int32)) + a2) < 0 → (wp_X0_above x2 (fun r_5 => wp_X6_bodyOf_b7 a2 post n r_5 x3 (x4 + (1 : Int32))))) ∧ (¬ ((x2 * (4 : Int32)) + a2) < 0 → (((28 : Int32) ≤ ((x2 * (4 : Int32)) + a2) → (wp_X0_above x2 (fun r_7 => wp_X6_bodyOf_b7 a2 post n r_7 x3 (x4 + (1 : Int32))))) ∧ (¬ (28 : Int32) ≤ ((x2 * (4 : Int32)) + a2) → (vp_in ((x2 * (4 : Int32)) + a2) 28 ∧ (wp_X0_above x2 (fun r_8 => wp_X6_bodyOf_b7 a2 post n r_8 (vBodies ((x2 * (4 : Int32)) + a2).toNatClampNeg) (x4 + (1 : Int32)))))))))))) ∧ (¬ x3 = 0 → (post x3)))) := h
def wp_X6_bodyOf (a1 : Int32) (a2 : Int32) (post : Int32 → Prop) : Prop := ∃ n, wp_X6_bodyOf_b7 a2 post n a1 (0 : Int32) (0 : Int32)
abbrev rm_X6_bodyOf : Room := { frames := 2, cells := 0, slots := 0, locals := 40 }
abbrev Qc_X6_bodyOf (K : vGl)     (post : Int32 → Prop) (A : Nat → Prop) : Array Value → State → Outcome → State → Prop := va_Qi (fun (r : Int32) (u : Unit) => post r ) (fun u t => vB K A [] t) A
set_option maxHeartbeats 4000000 in
set_option maxRecDepth 100000 in
theorem t_X6_bodyOf_b7 {p : Program} {l : Launch} {e : Env} {s : State} {m : MethodId} {args : Array Value} {below : List Frame} {meth : Method} {c : Code} {A : Nat → Prop} {K : vGl} {a2 : Int32} {post : Int32 → Prop} (F : vFx p s m args meth c cX6_bodyOf RX6 6 (some .int)) (hX : vX K A s) : ∀ (n : Nat) (x2 : Int32) (x3 : Int32) (x4 : Int32) (H : Heap) (locs : List Loc) (ls : Array Slot), wp_X6_bodyOf_b7 a2 post n x2 x3 x4 → va_P K.1 vwCl [] H → va_D A [] → va_S A s.heap H locs → lv_has ls 6 [(1, .int a2), (2, .int x2), (3, .int x3), (4, .int x4)] → W p l e rm_X6_bodyOf s m args below meth c H locs 0 0 (MQ below (Qc_X6_bodyOf K  post A) args s 0 0 A) (F0 m 7 ls []) := by
  obtain ⟨hx, hb, hml, hown, hts, hr, hlocks⟩ := id F
  intro n
  induction n with
  | zero =>
    intro x2 x3 x4 H locs ls hw
    exact hw.elim
  | succ n ih =>
    intro x2 x3 x4 H locs ls hw hP hD hS hl
    have hw := u_X6_bodyOf_b7 hw
    refine lv_iload hx hb dX6_bodyOf_7 (lv_at hl 3 rfl) ?_
    refine va_gets hx hb hX.2.1.2.2.1 hS hown (hts _ k_711) (fun _ h9 => h9) dX6_bodyOf_9 ?_
    refine va_tlen (v := (28 : Int32)) hx hb hX.2.1.2.2.2.1 hS rfl dX6_bodyOf_12 ?_
    refine lv_icmp_ge (tgt := 63) hx hb dX6_bodyOf_13 (by decide) (fun c_1 => ?_) (fun c_1 => ?_)
    · have hw := hw.1 c_1
      refine lv_iload_n hx hb dX6_bodyOf_63 rfl (lv_at hl 2 rfl) ?_
      exact W.iret (v := x3) hx hb hr (fun t ht hW => ⟨⟨x3, (), rfl, hw, by rw [ht]; exact hP, va_K.moved hW.alike hX.1, hD⟩, hS.F ht⟩) hS.2.2 dX6_bodyOf_64 hlocks
    · have hw := hw.2 c_1
      refine lv_iload_n hx hb dX6_bodyOf_16 rfl (lv_at hl 2 rfl) ?_
      refine lv_if_ne (tgt := 63) hx hb dX6_bodyOf_17 (by decide) (fun c_2 => ?_) (fun c_2 => ?_)
      · have hw := hw.2 c_2
        refine lv_iload_n hx hb dX6_bodyOf_63 rfl (lv_at hl 2 rfl) ?_
        exact W.iret (v := x3) hx hb hr (fun t ht hW => ⟨⟨x3, (), rfl, hw, by rw [ht]; exact hP, va_K.moved hW.alike hX.1, hD⟩, hS.F ht⟩) hS.2.2 dX6_bodyOf_64 hlocks
      · have hw := hw.1 c_2
        refine lv_iload_n hx hb dX6_bodyOf_20 rfl (lv_at hl 1 rfl) ?_
        refine lv_if_lt (tgt := 63) hx hb dX6_bodyOf_21 (by decide) (fun c_3 => ?_) (fun c_3 => ?_)
        · have hw := hw.1 c_3
          refine lv_iload_n hx hb dX6_bodyOf_63 rfl (lv_at hl 2 rfl) ?_
          exact W.iret (v := x3) hx hb hr (fun t ht hW => ⟨⟨x3, (), rfl, hw, by rw [ht]; exact hP, va_K.moved hW.alike hX.1, hD⟩, hS.F ht⟩) hS.2.2 dX6_bodyOf_64 hlocks
        · have hw := hw.2 c_3
          refine lv_iload_n hx hb dX6_bodyOf_24 rfl (lv_at hl 1 rfl) ?_
          refine lv_iconst (v := (4 : Int32)) hx hb dX6_bodyOf_25 (by decide) ?_
          refine lv_imul hx hb dX6_bodyOf_26 ?_
          refine lv_iload_n hx hb dX6_bodyOf_27 rfl (lv_at hl 0 rfl) ?_
          refine lv_iadd hx hb dX6_bodyOf_28 ?_
          refine lv_istore (lv' := [(5, .int ((x2 * (4 : Int32)) + a2)), (1, .int a2), (2, .int x2), (3, .int x3), (4, .int x4)]) hx hb dX6_bodyOf_29 hl (by decide) rfl (fun ls hl => ?_)
          refine lv_iload hx hb dX6_bodyOf_31 (lv_at hl 0 rfl) ?_
          refine lv_if_lt (tgt := 52) hx hb dX6_bodyOf_33 (by decide) (fun c_4 => ?_) (fun c_4 => ?_)
          · have hw := hw.1 c_4
            refine lv_iload_n hx hb dX6_bodyOf_52 rfl (lv_at hl 2 rfl) ?_
            refine vCalli (K := K) (wr := []) (w1 := (fun _ => [])) (va_runS (As := [.int x2]) (rest := []) ⟨hx, hb, hml, hown, hts⟩ (c_X0_above l K  H.size x2 _ hw) (va_cwS 1 hts (vGoodS k_713 k_409 k_66 k_410) rfl rfl rfl (by decide +kernel) ⟨Nat.le_of_ble_eq_true rfl, Nat.le_of_ble_eq_true rfl⟩) ⟨vPre_blind, fun U hU hW => ⟨rfl, vPre_of hX hP hD hS [] rfl (by decide) U hU hW⟩⟩ rfl rfl hl.1 rfl (lv_room (Nat.le_of_ble_eq_true rfl)) dX6_bodyOf_53 ⟨Nat.zero_le _, Nat.zero_le _⟩) hX hP hD hS [] [] rfl rfl (by decide) (by decide) (fun r_5 u H locs hw hP hD hS => ?_)
            refine lv_istore_n (lv' := [(2, .int r_5), (5, .int ((x2 * (4 : Int32)) + a2)), (1, .int a2), (3, .int x3), (4, .int x4)]) hx hb dX6_bodyOf_56 rfl hl (by decide) rfl (fun ls hl => ?_)
            refine lv_iinc (v := (x4 + (1 : Int32))) (lv' := [(4, .int (x4 + (1 : Int32))), (2, .int r_5), (5, .int ((x2 * (4 : Int32)) + a2)), (1, .int a2), (3, .int x3)]) hx hb dX6_bodyOf_57 hl (k := 4) rfl rfl (by decide) rfl (fun ls hl => ?_)
            refine lv_goto (tgt := 7) hx hb dX6_bodyOf_60 (by decide) ?_
            exact ih _ _ _ _ _ _ hw hP hD hS (lv_sub hl [3, 1, 4, 0] rfl)
          · have hw := hw.2 c_4
            refine lv_iload hx hb dX6_bodyOf_36 (lv_at hl 0 rfl) ?_
            refine va_gets hx hb hX.2.1.2.2.1 hS hown (hts _ k_711) (fun _ h9 => h9) dX6_bodyOf_38 ?_
            refine va_tlen (v := (28 : Int32)) hx hb hX.2.1.2.2.2.1 hS rfl dX6_bodyOf_41 ?_
            refine lv_icmp_ge (tgt := 52) hx hb dX6_bodyOf_42 (by decide) (fun c_6 => ?_) (fun c_6 => ?_)
            · have hw := hw.1 c_6
              refine lv_iload_n hx hb dX6_bodyOf_52 rfl (lv_at hl 2 rfl) ?_
              refine vCalli (K := K) (wr := []) (w1 := (fun _ => [])) (va_runS (As := [.int x2]) (rest := []) ⟨hx, hb, hml, hown, hts⟩ (c_X0_above l K  H.size x2 _ hw) (va_cwS 1 hts (vGoodS k_713 k_409 k_66 k_410) rfl rfl rfl (by decide +kernel) ⟨Nat.le_of_ble_eq_true rfl, Nat.le_of_ble_eq_true rfl⟩) ⟨vPre_blind, fun U hU hW => ⟨rfl, vPre_of hX hP hD hS [] rfl (by decide) U hU hW⟩⟩ rfl rfl hl.1 rfl (lv_room (Nat.le_of_ble_eq_true rfl)) dX6_bodyOf_53 ⟨Nat.zero_le _, Nat.zero_le _⟩) hX hP hD hS [] [] rfl rfl (by decide) (by decide) (fun r_7 u H locs hw hP hD hS => ?_)
              refine lv_istore_n (lv' := [(2, .int r_7), (5, .int ((x2 * (4 : Int32)) + a2)), (1, .int a2), (3, .int x3), (4, .int x4)]) hx hb dX6_bodyOf_56 rfl hl (by decide) rfl (fun ls hl => ?_)
              refine lv_iinc (v := (x4 + (1 : Int32))) (lv' := [(4, .int (x4 + (1 : Int32))), (2, .int r_7), (5, .int ((x2 * (4 : Int32)) + a2)), (1, .int a2), (3, .int x3)]) hx hb dX6_bodyOf_57 hl (k := 4) rfl rfl (by decide) rfl (fun ls hl => ?_)
              refine lv_goto (tgt := 7) hx hb dX6_bodyOf_60 (by decide) ?_
              exact ih _ _ _ _ _ _ hw hP hD hS (lv_sub hl [3, 1, 4, 0] rfl)
            · have hw := hw.2 c_6
              refine va_gets hx hb hX.2.1.2.2.1 hS hown (hts _ k_711) (fun _ h9 => h9) dX6_bodyOf_45 ?_
              refine lv_iload hx hb dX6_bodyOf_48 (lv_at hl 0 rfl) ?_
              refine va_ti hx hb hX.2.1.2.2.2.1 hS hw.1 rfl dX6_bodyOf_50 ?_
              have hw := hw.2
              refine lv_istore_n (lv' := [(3, .int (vBodies ((x2 * (4 : Int32)) + a2).toNatClampNeg)), (5, .int ((x2 * (4 : Int32)) + a2)), (1, .int a2), (2, .int x2), (4, .int x4)]) hx hb dX6_bodyOf_51 rfl hl (by decide) rfl (fun ls hl => ?_)
              refine lv_iload_n hx hb dX6_bodyOf_52 rfl (lv_at hl 3 rfl) ?_
              refine vCalli (K := K) (wr := []) (w1 := (fun _ => [])) (va_runS (As := [.int x2]) (rest := []) ⟨hx, hb, hml, hown, hts⟩ (c_X0_above l K  H.size x2 _ hw) (va_cwS 1 hts (vGoodS k_713 k_409 k_66 k_410) rfl rfl rfl (by decide +kernel) ⟨Nat.le_of_ble_eq_true rfl, Nat.le_of_ble_eq_true rfl⟩) ⟨vPre_blind, fun U hU hW => ⟨rfl, vPre_of hX hP hD hS [] rfl (by decide) U hU hW⟩⟩ rfl rfl hl.1 rfl (lv_room (Nat.le_of_ble_eq_true rfl)) dX6_bodyOf_53 ⟨Nat.zero_le _, Nat.zero_le _⟩) hX hP hD hS [] [] rfl rfl (by decide) (by decide) (fun r_8 u H locs hw hP hD hS => ?_)
              refine lv_istore_n (lv' := [(2, .int r_8), (3, .int (vBodies ((x2 * (4 : Int32)) + a2).toNatClampNeg)), (5, .int ((x2 * (4 : Int32)) + a2)), (1, .int a2), (4, .int x4)]) hx hb dX6_bodyOf_56 rfl hl (by decide) rfl (fun ls hl => ?_)
              refine lv_iinc (v := (x4 + (1 : Int32))) (lv' := [(4, .int (x4 + (1 : Int32))), (2, .int r_8), (3, .int (vBodies ((x2 * (4 : Int32)) + a2).toNatClampNeg)), (5, .int ((x2 * (4 : Int32)) + a2)), (1, .int a2)]) hx hb dX6_bodyOf_57 hl (k := 4) rfl rfl (by decide) rfl (fun ls hl => ?_)
              refine lv_goto (tgt := 7) hx hb dX6_bodyOf_60 (by decide) ?_
              exact ih _ _ _ _ _ _ hw hP hD hS (lv_sub hl [4, 1, 2, 0] rfl)
set_option maxHeartbeats 4000000 in
set_option maxRecDepth 100000 in
theorem c_X6_bodyOf (l : Launch) (K : vGl)    (sz : Nat) (a1 : Int32) (a2 : Int32) (post : Int32 → Prop) (hw : wp_X6_bodyOf a1 a2 post) : Met l yX6_bodyOf (.code yX6_bodyOf cX6_bodyOf 6 (some .int) :: vT) rm_X6_bodyOf (va_Pc [.int a1, .int a2] (vPre K [] sz)) (Qc_X6_bodyOf K  post (va_A [] sz)) 0 0 (va_A [] sz) := by
  unfold wp_X6_bodyOf at hw
  refine Met.ofW (cc := cX6_bodyOf) (maxL := 6) (ret := (some .int)) (by decide) rfl ?_
  intro p e s m args below meth c s₁ B hml hv
  obtain ⟨rfl, hsz, hP, hK, hD0, hG, hR⟩ := hv
  have hx := B.exec
  have hb := B.bytes
  have hr := B.returns
  have hts : ∀ w ∈ vT, w.before _ s = true := fun w h => atoms_spec (ws := .code yX6_bodyOf cX6_bodyOf 6 (some .int) :: vT) B.pre w (List.mem_cons_of_mem _ h)
  have hown : s.vm.findClass RX6 = some m.cls := findClass_of_methodNamed B.named
  have hlocks := B.notSynchronized
  subst hsz
  have hD := hD0.self (sz := s.heap.size)
  show W p l e rm_X6_bodyOf s m _ below meth c s.heap [] 0 0 _ _
  generalize hAe : va_A [] s.heap.size = A at hD hG ⊢
  have hX : vX K A s := ⟨hK, hG, hR, fun q h => by rw [← hAe]; exact Or.inr h⟩
  have hS : va_S A s.heap s.heap [] := va_S.rf
  have F : vFx p s m ([.int a1, .int a2] : List Value).toArray meth c cX6_bodyOf RX6 6 (some .int) := ⟨hx, hb, hml, hown, hts, hr, hlocks⟩
  have hl := lv_entry ([.int a1, .int a2]) (n := 6) (Nat.le_of_ble_eq_true rfl)
  rw [lg_entry_eq]
  generalize (lg_sl ([.int a1, .int a2]) ++ List.replicate (6 - (lg_sl ([.int a1, .int a2])).length) Slot.unset).toArray = ls at hl ⊢
  have hl : lv_has ls 6 [(0, .int a1), (1, .int a2)] := hl
  obtain ⟨H, hHe⟩ : ∃ H, H = s.heap := ⟨_, rfl⟩
  have hS : va_S A s.heap H [] := by rw [hHe]; exact hS
  have hP : va_P K.1 vwCl [] H := by rw [hHe]; exact hP
  refine vWH hHe ?_
  refine lv_iload_n hx hb dX6_bodyOf_0 rfl (lv_at hl 0 rfl) ?_
  refine lv_istore_n (lv' := [(2, .int a1), (0, .int a1), (1, .int a2)]) hx hb dX6_bodyOf_1 rfl hl (by decide) rfl (fun ls hl => ?_)
  refine lv_iconst (v := (0 : Int32)) hx hb dX6_bodyOf_2 (by decide) ?_
  refine lv_istore_n (lv' := [(3, .int (0 : Int32)), (2, .int a1), (0, .int a1), (1, .int a2)]) hx hb dX6_bodyOf_3 rfl hl (by decide) rfl (fun ls hl => ?_)
  refine lv_iconst (v := (0 : Int32)) hx hb dX6_bodyOf_4 (by decide) ?_
  refine lv_istore (lv' := [(4, .int (0 : Int32)), (3, .int (0 : Int32)), (2, .int a1), (0, .int a1), (1, .int a2)]) hx hb dX6_bodyOf_5 hl (by decide) rfl (fun ls hl => ?_)
  obtain ⟨n, hw⟩ := hw
  exact t_X6_bodyOf_b7 F hX n _ _ _ _ _ _ hw hP hD hS (lv_sub hl [4, 2, 1, 0] rfl)
/-! OvenRings.within(III)Z -/
def wp_X7_within (a1 : Int32) (a2 : Int32) (a3 : Int32) (post : Int32 → Prop) : Prop := (a1 < a2 → (post (0 : Int32))) ∧ (¬ a1 < a2 → ((a3 < a1 → (post (0 : Int32))) ∧ (¬ a3 < a1 → (post (1 : Int32)))))
abbrev rm_X7_within : Room := { frames := 0, cells := 0, slots := 0, locals := 0 }
abbrev Qc_X7_within (K : vGl)     (post : Int32 → Prop) (A : Nat → Prop) : Array Value → State → Outcome → State → Prop := va_Qi (fun (r : Int32) (u : Unit) => (r = 0 ∨ r = 1) ∧ post r ) (fun u t => vB K A [] t) A
set_option maxHeartbeats 4000000 in
set_option maxRecDepth 100000 in
theorem c_X7_within (l : Launch) (K : vGl)    (sz : Nat) (a1 : Int32) (a2 : Int32) (a3 : Int32) (post : Int32 → Prop) (hw : wp_X7_within a1 a2 a3 post) : Met l yX7_within (.code yX7_within cX7_within 3 (some .boolean) :: vT) rm_X7_within (va_Pc [.int a1, .int a2, .int a3] (vPre K [] sz)) (Qc_X7_within K  post (va_A [] sz)) 0 0 (va_A [] sz) := by
  unfold wp_X7_within at hw
  refine Met.ofW (cc := cX7_within) (maxL := 3) (ret := (some .boolean)) (by decide) rfl ?_
  intro p e s m args below meth c s₁ B hml hv
  obtain ⟨rfl, hsz, hP, hK, hD0, hG, hR⟩ := hv
  have hx := B.exec
  have hb := B.bytes
  have hr := B.returns
  have hts : ∀ w ∈ vT, w.before _ s = true := fun w h => atoms_spec (ws := .code yX7_within cX7_within 3 (some .boolean) :: vT) B.pre w (List.mem_cons_of_mem _ h)
  have hown : s.vm.findClass RX7 = some m.cls := findClass_of_methodNamed B.named
  have hlocks := B.notSynchronized
  subst hsz
  have hD := hD0.self (sz := s.heap.size)
  show W p l e rm_X7_within s m _ below meth c s.heap [] 0 0 _ _
  generalize hAe : va_A [] s.heap.size = A at hD hG ⊢
  have hX : vX K A s := ⟨hK, hG, hR, fun q h => by rw [← hAe]; exact Or.inr h⟩
  have hS : va_S A s.heap s.heap [] := va_S.rf
  have F : vFx p s m ([.int a1, .int a2, .int a3] : List Value).toArray meth c cX7_within RX7 3 (some .boolean) := ⟨hx, hb, hml, hown, hts, hr, hlocks⟩
  have hl := lv_entry ([.int a1, .int a2, .int a3]) (n := 3) (Nat.le_of_ble_eq_true rfl)
  rw [lg_entry_eq]
  generalize (lg_sl ([.int a1, .int a2, .int a3]) ++ List.replicate (3 - (lg_sl ([.int a1, .int a2, .int a3])).length) Slot.unset).toArray = ls at hl ⊢
  have hl : lv_has ls 3 [(0, .int a1), (1, .int a2), (2, .int a3)] := hl
  obtain ⟨H, hHe⟩ : ∃ H, H = s.heap := ⟨_, rfl⟩
  have hS : va_S A s.heap H [] := by rw [hHe]; exact hS
  have hP : va_P K.1 vwCl [] H := by rw [hHe]; exact hP
  refine vWH hHe ?_
  refine lv_iload_n hx hb dX7_within_0 rfl (lv_at hl 0 rfl) ?_
  refine lv_iload_n hx hb dX7_within_1 rfl (lv_at hl 1 rfl) ?_
  refine lv_icmp_lt (tgt := 14) hx hb dX7_within_2 (by decide) (fun c_1 => ?_) (fun c_1 => ?_)
  · have hw := hw.1 c_1
    refine lv_iconst (v := (0 : Int32)) hx hb dX7_within_14 (by decide) ?_
    exact W.zret (v := (0 : Int32)) hx hb hr vZ0 (fun t ht hW => ⟨⟨(0 : Int32), (), rfl, ⟨Or.inl rfl, hw⟩, by rw [ht]; exact hP, va_K.moved hW.alike hX.1, hD⟩, hS.F ht⟩) hS.2.2 dX7_within_15 hlocks
  · have hw := hw.2 c_1
    refine lv_iload_n hx hb dX7_within_5 rfl (lv_at hl 0 rfl) ?_
    refine lv_iload_n hx hb dX7_within_6 rfl (lv_at hl 2 rfl) ?_
    refine lv_icmp_gt (tgt := 14) hx hb dX7_within_7 (by decide) (fun c_2 => ?_) (fun c_2 => ?_)
    · have hw := hw.1 c_2
      refine lv_iconst (v := (0 : Int32)) hx hb dX7_within_14 (by decide) ?_
      exact W.zret (v := (0 : Int32)) hx hb hr vZ0 (fun t ht hW => ⟨⟨(0 : Int32), (), rfl, ⟨Or.inl rfl, hw⟩, by rw [ht]; exact hP, va_K.moved hW.alike hX.1, hD⟩, hS.F ht⟩) hS.2.2 dX7_within_15 hlocks
    · have hw := hw.2 c_2
      refine lv_iconst (v := (1 : Int32)) hx hb dX7_within_10 (by decide) ?_
      refine lv_goto (tgt := 15) hx hb dX7_within_11 (by decide) ?_
      exact W.zret (v := (1 : Int32)) hx hb hr vZ1 (fun t ht hW => ⟨⟨(1 : Int32), (), rfl, ⟨Or.inr rfl, hw⟩, by rw [ht]; exact hP, va_K.moved hW.alike hX.1, hD⟩, hS.F ht⟩) hS.2.2 dX7_within_15 hlocks
/-! OvenRings.isCell(I)Z -/
def wp_X7_isCell (a1 : Int32) (post : Int32 → Prop) : Prop := wp_X7_within a1 (0 : Int32) (15 : Int32) (fun r_1 => post r_1)
abbrev rm_X7_isCell : Room := { frames := 1, cells := 0, slots := 0, locals := 22 }
abbrev Qc_X7_isCell (K : vGl)     (post : Int32 → Prop) (A : Nat → Prop) : Array Value → State → Outcome → State → Prop := va_Qi (fun (r : Int32) (u : Unit) => (r = 0 ∨ r = 1) ∧ post r ) (fun u t => vB K A [] t) A
set_option maxHeartbeats 4000000 in
set_option maxRecDepth 100000 in
theorem c_X7_isCell (l : Launch) (K : vGl)    (sz : Nat) (a1 : Int32) (post : Int32 → Prop) (hw : wp_X7_isCell a1 post) : Met l yX7_isCell (.code yX7_isCell cX7_isCell 1 (some .boolean) :: vT) rm_X7_isCell (va_Pc [.int a1] (vPre K [] sz)) (Qc_X7_isCell K  post (va_A [] sz)) 0 0 (va_A [] sz) := by
  unfold wp_X7_isCell at hw
  refine Met.ofW (cc := cX7_isCell) (maxL := 1) (ret := (some .boolean)) (by decide) rfl ?_
  intro p e s m args below meth c s₁ B hml hv
  obtain ⟨rfl, hsz, hP, hK, hD0, hG, hR⟩ := hv
  have hx := B.exec
  have hb := B.bytes
  have hr := B.returns
  have hts : ∀ w ∈ vT, w.before _ s = true := fun w h => atoms_spec (ws := .code yX7_isCell cX7_isCell 1 (some .boolean) :: vT) B.pre w (List.mem_cons_of_mem _ h)
  have hown : s.vm.findClass RX7 = some m.cls := findClass_of_methodNamed B.named
  have hlocks := B.notSynchronized
  subst hsz
  have hD := hD0.self (sz := s.heap.size)
  show W p l e rm_X7_isCell s m _ below meth c s.heap [] 0 0 _ _
  generalize hAe : va_A [] s.heap.size = A at hD hG ⊢
  have hX : vX K A s := ⟨hK, hG, hR, fun q h => by rw [← hAe]; exact Or.inr h⟩
  have hS : va_S A s.heap s.heap [] := va_S.rf
  have F : vFx p s m ([.int a1] : List Value).toArray meth c cX7_isCell RX7 1 (some .boolean) := ⟨hx, hb, hml, hown, hts, hr, hlocks⟩
  have hl := lv_entry ([.int a1]) (n := 1) (Nat.le_of_ble_eq_true rfl)
  rw [lg_entry_eq]
  generalize (lg_sl ([.int a1]) ++ List.replicate (1 - (lg_sl ([.int a1])).length) Slot.unset).toArray = ls at hl ⊢
  have hl : lv_has ls 1 [(0, .int a1)] := hl
  obtain ⟨H, hHe⟩ : ∃ H, H = s.heap := ⟨_, rfl⟩
  have hS : va_S A s.heap H [] := by rw [hHe]; exact hS
  have hP : va_P K.1 vwCl [] H := by rw [hHe]; exact hP
  refine vWH hHe ?_
  refine lv_iload_n hx hb dX7_isCell_0 rfl (lv_at hl 0 rfl) ?_
  refine lv_iconst (v := (0 : Int32)) hx hb dX7_isCell_1 (by decide) ?_
  refine lv_bipush (v := (15 : Int32)) hx hb dX7_isCell_2 (by decide) ?_
  refine vCalli (K := K) (wr := []) (w1 := (fun _ => [])) (va_runS (As := [.int a1, .int (0 : Int32), .int (15 : Int32)]) (rest := []) ⟨hx, hb, hml, hown, hts⟩ (c_X7_within l K  H.size a1 (0 : Int32) (15 : Int32) _ hw) (va_cwS 3 hts (vGoodS k_300 k_301 k_57 k_302) rfl rfl rfl (by decide +kernel) ⟨Nat.le_of_ble_eq_true rfl, Nat.le_of_ble_eq_true rfl⟩) ⟨vPre_blind, fun U hU hW => ⟨rfl, vPre_of hX hP hD hS [] rfl (by decide) U hU hW⟩⟩ rfl rfl hl.1 rfl (lv_room (Nat.le_of_ble_eq_true rfl)) dX7_isCell_4 ⟨Nat.zero_le _, Nat.zero_le _⟩) hX hP hD hS [] [] rfl rfl (by decide) (by decide) (fun r_1 u H locs hw hP hD hS => ?_)
  have hz_r_1 := hw.1
  have hw := hw.2
  exact W.zret (v := r_1) hx hb hr (vZb hz_r_1) (fun t ht hW => ⟨⟨r_1, (), rfl, ⟨hz_r_1, hw⟩, by rw [ht]; exact hP, va_K.moved hW.alike hX.1, hD⟩, hS.F ht⟩) hS.2.2 dX7_isCell_7 hlocks
/-! OvenRings.error(I)I -/
def wp_X7_error (a1 : Int32) (v_errors : Nat → Int32) (post : Int32 → (Nat → Int32) → Prop) : Prop := (a1 < 0 → (post ((-1000000000 : Int32) - a1) v_errors)) ∧ (¬ a1 < 0 → (((6 : Int32) ≤ a1 → (post ((-1000000000 : Int32) - a1) v_errors)) ∧ (¬ (6 : Int32) ≤ a1 → (vp_in a1 6 ∧ (vp_in a1 6 ∧ (post ((-1000000000 : Int32) - a1) (upd v_errors a1.toNatClampNeg ((v_errors a1.toNatClampNeg) + (1 : Int32)))))))))
abbrev rm_X7_error : Room := { frames := 0, cells := 0, slots := 0, locals := 0 }
abbrev Qc_X7_error (K : vGl) (q_h q_h_errors : Nat)  (g_h_now : Value) (g_h_kept : Value) (g_h_thought : Value) (g_h_reader : Value) (g_h_speaker : Value) (g_h_sheets : Value) (g_h_warmUnchanged : Value) (g_h_images : Value)  (post : Int32 → (Nat → Int32) → Prop) (A : Nat → Prop) : Array Value → State → Outcome → State → Prop := va_Qi (fun (r : Int32) (u : (Nat → Int32)) => post r u) (fun u t => vB K A [(q_h, .inr (6, [g_h_now, g_h_kept, g_h_thought, g_h_reader, g_h_speaker, g_h_sheets, g_h_warmUnchanged, .ref q_h_errors, g_h_images])), (q_h_errors, .inl (K.2.2.1, 6, .inl u))] t) A
set_option maxHeartbeats 4000000 in
set_option maxRecDepth 100000 in
theorem c_X7_error (l : Launch) (K : vGl) (q_h q_h_errors : Nat)  (g_h_now : Value) (g_h_kept : Value) (g_h_thought : Value) (g_h_reader : Value) (g_h_speaker : Value) (g_h_sheets : Value) (g_h_warmUnchanged : Value) (g_h_images : Value) (sz : Nat) (a1 : Int32) (v_errors : Nat → Int32) (post : Int32 → (Nat → Int32) → Prop) (hw : wp_X7_error a1 v_errors post) : Met l yX7_error (.code yX7_error cX7_error 2 (some .int) :: vT) rm_X7_error (va_Pc [.ref q_h, .int a1] (vPre K [(q_h, .inr (6, [g_h_now, g_h_kept, g_h_thought, g_h_reader, g_h_speaker, g_h_sheets, g_h_warmUnchanged, .ref q_h_errors, g_h_images])), (q_h_errors, .inl (K.2.2.1, 6, .inl v_errors))] sz)) (Qc_X7_error K q_h q_h_errors g_h_now g_h_kept g_h_thought g_h_reader g_h_speaker g_h_sheets g_h_warmUnchanged g_h_images post (va_A [(q_h, .inr (6, [g_h_now, g_h_kept, g_h_thought, g_h_reader, g_h_speaker, g_h_sheets, g_h_warmUnchanged, .ref q_h_errors, g_h_images])), (q_h_errors, .inl (K.2.2.1, 6, .inl v_errors))] sz)) 0 0 (va_A [(q_h, .inr (6, [g_h_now, g_h_kept, g_h_thought, g_h_reader, g_h_speaker, g_h_sheets, g_h_warmUnchanged, .ref q_h_errors, g_h_images])), (q_h_errors, .inl (K.2.2.1, 6, .inl v_errors))] sz) := by
  unfold wp_X7_error at hw
  refine Met.ofW (cc := cX7_error) (maxL := 2) (ret := (some .int)) (by decide) rfl ?_
  intro p e s m args below meth c s₁ B hml hv
  obtain ⟨rfl, hsz, hP, hK, hD0, hG, hR⟩ := hv
  have hx := B.exec
  have hb := B.bytes
  have hr := B.returns
  have hts : ∀ w ∈ vT, w.before _ s = true := fun w h => atoms_spec (ws := .code yX7_error cX7_error 2 (some .int) :: vT) B.pre w (List.mem_cons_of_mem _ h)
  have hown : s.vm.findClass RX7 = some m.cls := findClass_of_methodNamed B.named
  have hlocks := B.notSynchronized
  subst hsz
  have hD := hD0.self (sz := s.heap.size)
  show W p l e rm_X7_error s m _ below meth c s.heap [] 0 0 _ _
  generalize hAe : va_A [(q_h, .inr (6, [g_h_now, g_h_kept, g_h_thought, g_h_reader, g_h_speaker, g_h_sheets, g_h_warmUnchanged, .ref q_h_errors, g_h_images])), (q_h_errors, .inl (K.2.2.1, 6, .inl v_errors))] s.heap.size = A at hD hG ⊢
  have hX : vX K A s := ⟨hK, hG, hR, fun q h => by rw [← hAe]; exact Or.inr h⟩
  have hS : va_S A s.heap s.heap [] := va_S.rf
  have F : vFx p s m ([.ref q_h, .int a1] : List Value).toArray meth c cX7_error RX7 2 (some .int) := ⟨hx, hb, hml, hown, hts, hr, hlocks⟩
  have hl := lv_entry ([.ref q_h, .int a1]) (n := 2) (Nat.le_of_ble_eq_true rfl)
  rw [lg_entry_eq]
  generalize (lg_sl ([.ref q_h, .int a1]) ++ List.replicate (2 - (lg_sl ([.ref q_h, .int a1])).length) Slot.unset).toArray = ls at hl ⊢
  have hl : lv_has ls 2 [(0, .ref q_h), (1, .int a1)] := hl
  obtain ⟨H, hHe⟩ : ∃ H, H = s.heap := ⟨_, rfl⟩
  have hS : va_S A s.heap H [] := by rw [hHe]; exact hS
  have hP : va_P K.1 vwCl [(q_h, .inr (6, [g_h_now, g_h_kept, g_h_thought, g_h_reader, g_h_speaker, g_h_sheets, g_h_warmUnchanged, .ref q_h_errors, g_h_images])), (q_h_errors, .inl (K.2.2.1, 6, .inl v_errors))] H := by rw [hHe]; exact hP
  refine vWH hHe ?_
  refine lv_iload_n hx hb dX7_error_0 rfl (lv_at hl 1 rfl) ?_
  refine lv_if_lt (tgt := 23) hx hb dX7_error_1 (by decide) (fun c_1 => ?_) (fun c_1 => ?_)
  · have hw := hw.1 c_1
    refine lv_ldcw (v := (-1000000000 : Int32)) hx hb hown (hts _ k_307) dX7_error_23 ?_
    refine lv_iload_n hx hb dX7_error_26 rfl (lv_at hl 1 rfl) ?_
    refine lv_isub hx hb dX7_error_27 ?_
    exact W.iret (v := ((-1000000000 : Int32) - a1)) hx hb hr (fun t ht hW => ⟨⟨((-1000000000 : Int32) - a1), v_errors, rfl, hw, by rw [ht]; exact hP, va_K.moved hW.alike hX.1, hD⟩, hS.F ht⟩) hS.2.2 dX7_error_28 hlocks
  · have hw := hw.2 c_1
    refine lv_iload_n hx hb dX7_error_4 rfl (lv_at hl 1 rfl) ?_
    refine lv_aload_n hx hb dX7_error_5 rfl (lv_at hl 0 rfl) ?_
    refine va_get (D := K.1) (ci := 6) (v := .ref q_h_errors) (C := RX7) (T := TX7) (N := 9) hx hb hts iwX7 hown hX.1 hP 0 rfl rfl 7 (by decide) (hts _ k_272) (fun _ h9 => h9) rfl dX7_error_6 ?_
    refine va_alen (v := (6 : Int32)) hx hb hX.1 hP 1 0 rfl rfl rfl dX7_error_9 ?_
    refine lv_icmp_ge (tgt := 23) hx hb dX7_error_10 (by decide) (fun c_2 => ?_) (fun c_2 => ?_)
    · have hw := hw.1 c_2
      refine lv_ldcw (v := (-1000000000 : Int32)) hx hb hown (hts _ k_307) dX7_error_23 ?_
      refine lv_iload_n hx hb dX7_error_26 rfl (lv_at hl 1 rfl) ?_
      refine lv_isub hx hb dX7_error_27 ?_
      exact W.iret (v := ((-1000000000 : Int32) - a1)) hx hb hr (fun t ht hW => ⟨⟨((-1000000000 : Int32) - a1), v_errors, rfl, hw, by rw [ht]; exact hP, va_K.moved hW.alike hX.1, hD⟩, hS.F ht⟩) hS.2.2 dX7_error_28 hlocks
    · have hw := hw.2 c_2
      refine lv_aload_n hx hb dX7_error_13 rfl (lv_at hl 0 rfl) ?_
      refine va_get (D := K.1) (ci := 6) (v := .ref q_h_errors) (C := RX7) (T := TX7) (N := 9) hx hb hts iwX7 hown hX.1 hP 0 rfl rfl 7 (by decide) (hts _ k_272) (fun _ h9 => h9) rfl dX7_error_14 ?_
      refine lv_iload_n hx hb dX7_error_17 rfl (lv_at hl 1 rfl) ?_
      refine lv_dup2_11 hx hb dX7_error_18 rfl rfl ?_
      refine va_iald hx hb hX.1 hP 1 0 rfl rfl hw.1 dX7_error_19 ?_
      have hw := hw.2
      refine lv_iconst (v := (1 : Int32)) hx hb dX7_error_20 (by decide) ?_
      refine lv_iadd hx hb dX7_error_21 ?_
      refine va_iast hx hb hX.1 hP hD hS 1 0 rfl rfl hw.1 dX7_error_22 (fun H locs hP hD hS => ?_)
      have hP : va_P K.1 vwCl [(q_h, .inr (6, [g_h_now, g_h_kept, g_h_thought, g_h_reader, g_h_speaker, g_h_sheets, g_h_warmUnchanged, .ref q_h_errors, g_h_images])), (q_h_errors, .inl (K.2.2.1, 6, .inl (upd v_errors a1.toNatClampNeg ((v_errors a1.toNatClampNeg) + (1 : Int32)))))] H := hP
      have hD : va_D A [(q_h, .inr (6, [g_h_now, g_h_kept, g_h_thought, g_h_reader, g_h_speaker, g_h_sheets, g_h_warmUnchanged, .ref q_h_errors, g_h_images])), (q_h_errors, .inl (K.2.2.1, 6, .inl (upd v_errors a1.toNatClampNeg ((v_errors a1.toNatClampNeg) + (1 : Int32)))))] := hD
      have hw := hw.2
      refine lv_ldcw (v := (-1000000000 : Int32)) hx hb hown (hts _ k_307) dX7_error_23 ?_
      refine lv_iload_n hx hb dX7_error_26 rfl (lv_at hl 1 rfl) ?_
      refine lv_isub hx hb dX7_error_27 ?_
      exact W.iret (v := ((-1000000000 : Int32) - a1)) hx hb hr (fun t ht hW => ⟨⟨((-1000000000 : Int32) - a1), (upd v_errors a1.toNatClampNeg ((v_errors a1.toNatClampNeg) + (1 : Int32))), rfl, hw, by rw [ht]; exact hP, va_K.moved hW.alike hX.1, hD⟩, hS.F ht⟩) hS.2.2 dX7_error_28 hlocks
/-! OvenRings.heat(II)I -/
def wp_X7_heat (a1 : Int32) (a2 : Int32) (v_errors : Nat → Int32) (v_now_heat : Nat → Int32) (post : Int32 → (Nat → Int32) → (Nat → Int32) → Prop) : Prop := wp_X7_isCell a1 (fun r_1 => (r_1 = 0 → (wp_X7_error (1 : Int32) v_errors (fun r_4 v_errors_3 => post r_4 v_errors_3 v_now_heat))) ∧ (¬ r_1 = 0 → (wp_X7_within a2 (0 : Int32) (999 : Int32) (fun r_5 => (r_5 = 0 → (wp_X7_error (1 : Int32) v_errors (fun r_8 v_errors_7 => post r_8 v_errors_7 v_now_heat))) ∧ (¬ r_5 = 0 → (vp_in a1 16 ∧ (vp_in a1 16 ∧ (post (v_now_heat a1.toNatClampNeg) v_errors (upd v_now_heat a1.toNatClampNeg a2)))))))))
abbrev rm_X7_heat : Room := { frames := 2, cells := 0, slots := 0, locals := 42 }
abbrev Qc_X7_heat (K : vGl) (q_h q_h_now q_h_errors q_h_now_heat : Nat)  (g_h_kept : Value) (g_h_thought : Value) (g_h_reader : Value) (g_h_speaker : Value) (g_h_sheets : Value) (g_h_warmUnchanged : Value) (g_h_images : Value) (g_h_now_doors : Value) (g_h_now_fed : Value) (g_h_now_wants : Value) (g_h_now_burnt : Value) (g_h_now_hour : Value) (g_h_now_houses : Value) (g_h_now_km : Value) (g_h_now_cell : Value) (g_h_now_warm : Value) (g_h_now_content : Value) (g_h_now_going : Value) (g_h_now_wanted : Value) (g_h_now_goes : Value) (g_h_now_tape : Value) (g_h_now_waiting : Value) (g_h_now_z : Value)  (post : Int32 → (Nat → Int32) → (Nat → Int32) → Prop) (A : Nat → Prop) : Array Value → State → Outcome → State → Prop := va_Qi (fun (r : Int32) (u : (Nat → Int32) × (Nat → Int32)) => post r u.1 u.2) (fun u t => vB K A [(q_h, .inr (6, [.ref q_h_now, g_h_kept, g_h_thought, g_h_reader, g_h_speaker, g_h_sheets, g_h_warmUnchanged, .ref q_h_errors, g_h_images])), (q_h_now, .inr (4, [.ref q_h_now_heat, g_h_now_doors, g_h_now_fed, g_h_now_wants, g_h_now_burnt, g_h_now_hour, g_h_now_houses, g_h_now_km, g_h_now_cell, g_h_now_warm, g_h_now_content, g_h_now_going, g_h_now_wanted, g_h_now_goes, g_h_now_tape, g_h_now_waiting, g_h_now_z])), (q_h_errors, .inl (K.2.2.1, 6, .inl u.1)), (q_h_now_heat, .inl (K.2.2.1, 16, .inl u.2))] t) A
set_option maxHeartbeats 4000000 in
set_option maxRecDepth 100000 in
theorem c_X7_heat (l : Launch) (K : vGl) (q_h q_h_now q_h_errors q_h_now_heat : Nat)  (g_h_kept : Value) (g_h_thought : Value) (g_h_reader : Value) (g_h_speaker : Value) (g_h_sheets : Value) (g_h_warmUnchanged : Value) (g_h_images : Value) (g_h_now_doors : Value) (g_h_now_fed : Value) (g_h_now_wants : Value) (g_h_now_burnt : Value) (g_h_now_hour : Value) (g_h_now_houses : Value) (g_h_now_km : Value) (g_h_now_cell : Value) (g_h_now_warm : Value) (g_h_now_content : Value) (g_h_now_going : Value) (g_h_now_wanted : Value) (g_h_now_goes : Value) (g_h_now_tape : Value) (g_h_now_waiting : Value) (g_h_now_z : Value) (sz : Nat) (a1 : Int32) (a2 : Int32) (v_errors : Nat → Int32) (v_now_heat : Nat → Int32) (post : Int32 → (Nat → Int32) → (Nat → Int32) → Prop) (hw : wp_X7_heat a1 a2 v_errors v_now_heat post) : Met l yX7_heat (.code yX7_heat cX7_heat 4 (some .int) :: vT) rm_X7_heat (va_Pc [.ref q_h, .int a1, .int a2] (vPre K [(q_h, .inr (6, [.ref q_h_now, g_h_kept, g_h_thought, g_h_reader, g_h_speaker, g_h_sheets, g_h_warmUnchanged, .ref q_h_errors, g_h_images])), (q_h_now, .inr (4, [.ref q_h_now_heat, g_h_now_doors, g_h_now_fed, g_h_now_wants, g_h_now_burnt, g_h_now_hour, g_h_now_houses, g_h_now_km, g_h_now_cell, g_h_now_warm, g_h_now_content, g_h_now_going, g_h_now_wanted, g_h_now_goes, g_h_now_tape, g_h_now_waiting, g_h_now_z])), (q_h_errors, .inl (K.2.2.1, 6, .inl v_errors)), (q_h_now_heat, .inl (K.2.2.1, 16, .inl v_now_heat))] sz)) (Qc_X7_heat K q_h q_h_now q_h_errors q_h_now_heat g_h_kept g_h_thought g_h_reader g_h_speaker g_h_sheets g_h_warmUnchanged g_h_images g_h_now_doors g_h_now_fed g_h_now_wants g_h_now_burnt g_h_now_hour g_h_now_houses g_h_now_km g_h_now_cell g_h_now_warm g_h_now_content g_h_now_going g_h_now_wanted g_h_now_goes g_h_now_tape g_h_now_waiting g_h_now_z post (va_A [(q_h, .inr (6, [.ref q_h_now, g_h_kept, g_h_thought, g_h_reader, g_h_speaker, g_h_sheets, g_h_warmUnchanged, .ref q_h_errors, g_h_images])), (q_h_now, .inr (4, [.ref q_h_now_heat, g_h_now_doors, g_h_now_fed, g_h_now_wants, g_h_now_burnt, g_h_now_hour, g_h_now_houses, g_h_now_km, g_h_now_cell, g_h_now_warm, g_h_now_content, g_h_now_going, g_h_now_wanted, g_h_now_goes, g_h_now_tape, g_h_now_waiting, g_h_now_z])), (q_h_errors, .inl (K.2.2.1, 6, .inl v_errors)), (q_h_now_heat, .inl (K.2.2.1, 16, .inl v_now_heat))] sz)) 0 0 (va_A [(q_h, .inr (6, [.ref q_h_now, g_h_kept, g_h_thought, g_h_reader, g_h_speaker, g_h_sheets, g_h_warmUnchanged, .ref q_h_errors, g_h_images])), (q_h_now, .inr (4, [.ref q_h_now_heat, g_h_now_doors, g_h_now_fed, g_h_now_wants, g_h_now_burnt, g_h_now_hour, g_h_now_houses, g_h_now_km, g_h_now_cell, g_h_now_warm, g_h_now_content, g_h_now_going, g_h_now_wanted, g_h_now_goes, g_h_now_tape, g_h_now_waiting, g_h_now_z])), (q_h_errors, .inl (K.2.2.1, 6, .inl v_errors)), (q_h_now_heat, .inl (K.2.2.1, 16, .inl v_now_heat))] sz) := by
  unfold wp_X7_heat at hw
  refine Met.ofW (cc := cX7_heat) (maxL := 4) (ret := (some .int)) (by decide) rfl ?_
  intro p e s m args below meth c s₁ B hml hv
  obtain ⟨rfl, hsz, hP, hK, hD0, hG, hR⟩ := hv
  have hx := B.exec
  have hb := B.bytes
  have hr := B.returns
  have hts : ∀ w ∈ vT, w.before _ s = true := fun w h => atoms_spec (ws := .code yX7_heat cX7_heat 4 (some .int) :: vT) B.pre w (List.mem_cons_of_mem _ h)
  have hown : s.vm.findClass RX7 = some m.cls := findClass_of_methodNamed B.named
  have hlocks := B.notSynchronized
  subst hsz
  have hD := hD0.self (sz := s.heap.size)
  show W p l e rm_X7_heat s m _ below meth c s.heap [] 0 0 _ _
  generalize hAe : va_A [(q_h, .inr (6, [.ref q_h_now, g_h_kept, g_h_thought, g_h_reader, g_h_speaker, g_h_sheets, g_h_warmUnchanged, .ref q_h_errors, g_h_images])), (q_h_now, .inr (4, [.ref q_h_now_heat, g_h_now_doors, g_h_now_fed, g_h_now_wants, g_h_now_burnt, g_h_now_hour, g_h_now_houses, g_h_now_km, g_h_now_cell, g_h_now_warm, g_h_now_content, g_h_now_going, g_h_now_wanted, g_h_now_goes, g_h_now_tape, g_h_now_waiting, g_h_now_z])), (q_h_errors, .inl (K.2.2.1, 6, .inl v_errors)), (q_h_now_heat, .inl (K.2.2.1, 16, .inl v_now_heat))] s.heap.size = A at hD hG ⊢
  have hX : vX K A s := ⟨hK, hG, hR, fun q h => by rw [← hAe]; exact Or.inr h⟩
  have hS : va_S A s.heap s.heap [] := va_S.rf
  have F : vFx p s m ([.ref q_h, .int a1, .int a2] : List Value).toArray meth c cX7_heat RX7 4 (some .int) := ⟨hx, hb, hml, hown, hts, hr, hlocks⟩
  have hl := lv_entry ([.ref q_h, .int a1, .int a2]) (n := 4) (Nat.le_of_ble_eq_true rfl)
  rw [lg_entry_eq]
  generalize (lg_sl ([.ref q_h, .int a1, .int a2]) ++ List.replicate (4 - (lg_sl ([.ref q_h, .int a1, .int a2])).length) Slot.unset).toArray = ls at hl ⊢
  have hl : lv_has ls 4 [(0, .ref q_h), (1, .int a1), (2, .int a2)] := hl
  obtain ⟨H, hHe⟩ : ∃ H, H = s.heap := ⟨_, rfl⟩
  have hS : va_S A s.heap H [] := by rw [hHe]; exact hS
  have hP : va_P K.1 vwCl [(q_h, .inr (6, [.ref q_h_now, g_h_kept, g_h_thought, g_h_reader, g_h_speaker, g_h_sheets, g_h_warmUnchanged, .ref q_h_errors, g_h_images])), (q_h_now, .inr (4, [.ref q_h_now_heat, g_h_now_doors, g_h_now_fed, g_h_now_wants, g_h_now_burnt, g_h_now_hour, g_h_now_houses, g_h_now_km, g_h_now_cell, g_h_now_warm, g_h_now_content, g_h_now_going, g_h_now_wanted, g_h_now_goes, g_h_now_tape, g_h_now_waiting, g_h_now_z])), (q_h_errors, .inl (K.2.2.1, 6, .inl v_errors)), (q_h_now_heat, .inl (K.2.2.1, 16, .inl v_now_heat))] H := by rw [hHe]; exact hP
  refine vWH hHe ?_
  refine lv_iload_n hx hb dX7_heat_0 rfl (lv_at hl 1 rfl) ?_
  refine vCalli (K := K) (wr := [(q_h, .inr (6, [.ref q_h_now, g_h_kept, g_h_thought, g_h_reader, g_h_speaker, g_h_sheets, g_h_warmUnchanged, .ref q_h_errors, g_h_images])), (q_h_now, .inr (4, [.ref q_h_now_heat, g_h_now_doors, g_h_now_fed, g_h_now_wants, g_h_now_burnt, g_h_now_hour, g_h_now_houses, g_h_now_km, g_h_now_cell, g_h_now_warm, g_h_now_content, g_h_now_going, g_h_now_wanted, g_h_now_goes, g_h_now_tape, g_h_now_waiting, g_h_now_z])), (q_h_errors, .inl (K.2.2.1, 6, .inl v_errors)), (q_h_now_heat, .inl (K.2.2.1, 16, .inl v_now_heat))]) (w1 := (fun _ => [])) (va_runS (As := [.int a1]) (rest := []) ⟨hx, hb, hml, hown, hts⟩ (c_X7_isCell l K  H.size a1 _ hw) (va_cwS 1 hts (vGoodS k_297 k_298 k_57 k_299) rfl rfl rfl (by decide +kernel) ⟨Nat.le_of_ble_eq_true rfl, Nat.le_of_ble_eq_true rfl⟩) ⟨vPre_blind, fun U hU hW => ⟨rfl, vPre_of hX hP hD hS [] rfl (by decide) U hU hW⟩⟩ rfl rfl hl.1 rfl (lv_room (Nat.le_of_ble_eq_true rfl)) dX7_heat_1 ⟨Nat.zero_le _, Nat.zero_le _⟩) hX hP hD hS [] [0, 1, 2, 3] rfl rfl (by decide) (by decide) (fun r_1 u H locs hw hP hD hS => ?_)
  have hP : va_P K.1 vwCl [(q_h, .inr (6, [.ref q_h_now, g_h_kept, g_h_thought, g_h_reader, g_h_speaker, g_h_sheets, g_h_warmUnchanged, .ref q_h_errors, g_h_images])), (q_h_now, .inr (4, [.ref q_h_now_heat, g_h_now_doors, g_h_now_fed, g_h_now_wants, g_h_now_burnt, g_h_now_hour, g_h_now_houses, g_h_now_km, g_h_now_cell, g_h_now_warm, g_h_now_content, g_h_now_going, g_h_now_wanted, g_h_now_goes, g_h_now_tape, g_h_now_waiting, g_h_now_z])), (q_h_errors, .inl (K.2.2.1, 6, .inl v_errors)), (q_h_now_heat, .inl (K.2.2.1, 16, .inl v_now_heat))] H := hP.sub [0, 1, 2, 3] rfl
  have hD : va_D A [(q_h, .inr (6, [.ref q_h_now, g_h_kept, g_h_thought, g_h_reader, g_h_speaker, g_h_sheets, g_h_warmUnchanged, .ref q_h_errors, g_h_images])), (q_h_now, .inr (4, [.ref q_h_now_heat, g_h_now_doors, g_h_now_fed, g_h_now_wants, g_h_now_burnt, g_h_now_hour, g_h_now_houses, g_h_now_km, g_h_now_cell, g_h_now_warm, g_h_now_content, g_h_now_going, g_h_now_wanted, g_h_now_goes, g_h_now_tape, g_h_now_waiting, g_h_now_z])), (q_h_errors, .inl (K.2.2.1, 6, .inl v_errors)), (q_h_now_heat, .inl (K.2.2.1, 16, .inl v_now_heat))] := hD.sub [0, 1, 2, 3] (by decide) rfl
  have hz_r_1 := hw.1
  have hw := hw.2
  refine lv_if_eq (tgt := 18) hx hb dX7_heat_4 (by decide) (fun c_2 => ?_) (fun c_2 => ?_)
  · have hw := hw.1 c_2
    refine lv_aload_n hx hb dX7_heat_18 rfl (lv_at hl 0 rfl) ?_
    refine lv_iconst (v := (1 : Int32)) hx hb dX7_heat_19 (by decide) ?_
    refine vCalli (K := K) (wr := [(q_h_now, .inr (4, [.ref q_h_now_heat, g_h_now_doors, g_h_now_fed, g_h_now_wants, g_h_now_burnt, g_h_now_hour, g_h_now_houses, g_h_now_km, g_h_now_cell, g_h_now_warm, g_h_now_content, g_h_now_going, g_h_now_wanted, g_h_now_goes, g_h_now_tape, g_h_now_waiting, g_h_now_z])), (q_h_now_heat, .inl (K.2.2.1, 16, .inl v_now_heat))]) (w1 := (fun (u : (Nat → Int32)) => [(q_h, .inr (6, [(.ref q_h_now), g_h_kept, g_h_thought, g_h_reader, g_h_speaker, g_h_sheets, g_h_warmUnchanged, .ref q_h_errors, g_h_images])), (q_h_errors, .inl (K.2.2.1, 6, .inl u))])) (va_runV (As := [.int (1 : Int32)]) (rest := []) ⟨hx, hb, hml, hown, hts⟩ (c_X7_error l K q_h q_h_errors (.ref q_h_now) g_h_kept g_h_thought g_h_reader g_h_speaker g_h_sheets g_h_warmUnchanged g_h_images H.size (1 : Int32) v_errors _ hw) (cwV 1 hts (vGoodV k_303 k_305 k_0 k_57 k_306) rfl rfl rfl (by decide +kernel) ⟨Nat.le_of_ble_eq_true rfl, Nat.le_of_ble_eq_true rfl⟩) ⟨vPre_blind, va_recv hX.1 hP (ci := 6) (q0 := 0) rfl rfl, fun U hU hW => ⟨rfl, vPre_of hX hP hD hS [0, 2] rfl (by decide) U hU hW⟩⟩ rfl rfl hl.1 rfl (lv_room (Nat.le_of_ble_eq_true rfl)) dX7_heat_20 ⟨Nat.zero_le _, Nat.zero_le _⟩) hX hP hD hS [0, 2] [1, 3] rfl rfl (by decide) (by decide) (fun r_4 v_errors_3 H locs hw hP hD hS => ?_)
    have hP : va_P K.1 vwCl [(q_h, .inr (6, [.ref q_h_now, g_h_kept, g_h_thought, g_h_reader, g_h_speaker, g_h_sheets, g_h_warmUnchanged, .ref q_h_errors, g_h_images])), (q_h_now, .inr (4, [.ref q_h_now_heat, g_h_now_doors, g_h_now_fed, g_h_now_wants, g_h_now_burnt, g_h_now_hour, g_h_now_houses, g_h_now_km, g_h_now_cell, g_h_now_warm, g_h_now_content, g_h_now_going, g_h_now_wanted, g_h_now_goes, g_h_now_tape, g_h_now_waiting, g_h_now_z])), (q_h_errors, .inl (K.2.2.1, 6, .inl v_errors_3)), (q_h_now_heat, .inl (K.2.2.1, 16, .inl v_now_heat))] H := hP.sub [2, 0, 3, 1] rfl
    have hD : va_D A [(q_h, .inr (6, [.ref q_h_now, g_h_kept, g_h_thought, g_h_reader, g_h_speaker, g_h_sheets, g_h_warmUnchanged, .ref q_h_errors, g_h_images])), (q_h_now, .inr (4, [.ref q_h_now_heat, g_h_now_doors, g_h_now_fed, g_h_now_wants, g_h_now_burnt, g_h_now_hour, g_h_now_houses, g_h_now_km, g_h_now_cell, g_h_now_warm, g_h_now_content, g_h_now_going, g_h_now_wanted, g_h_now_goes, g_h_now_tape, g_h_now_waiting, g_h_now_z])), (q_h_errors, .inl (K.2.2.1, 6, .inl v_errors_3)), (q_h_now_heat, .inl (K.2.2.1, 16, .inl v_now_heat))] := hD.sub [2, 0, 3, 1] (by decide) rfl
    exact W.iret (v := r_4) hx hb hr (fun t ht hW => ⟨⟨r_4, (v_errors_3, v_now_heat), rfl, hw, by rw [ht]; exact hP, va_K.moved hW.alike hX.1, hD⟩, hS.F ht⟩) hS.2.2 dX7_heat_23 hlocks
  · have hw := hw.2 c_2
    refine lv_iload_n hx hb dX7_heat_7 rfl (lv_at hl 2 rfl) ?_
    refine lv_iconst (v := (0 : Int32)) hx hb dX7_heat_8 (by decide) ?_
    refine lv_sipush (v := (999 : Int32)) hx hb dX7_heat_9 (by decide) ?_
    refine vCalli (K := K) (wr := [(q_h, .inr (6, [.ref q_h_now, g_h_kept, g_h_thought, g_h_reader, g_h_speaker, g_h_sheets, g_h_warmUnchanged, .ref q_h_errors, g_h_images])), (q_h_now, .inr (4, [.ref q_h_now_heat, g_h_now_doors, g_h_now_fed, g_h_now_wants, g_h_now_burnt, g_h_now_hour, g_h_now_houses, g_h_now_km, g_h_now_cell, g_h_now_warm, g_h_now_content, g_h_now_going, g_h_now_wanted, g_h_now_goes, g_h_now_tape, g_h_now_waiting, g_h_now_z])), (q_h_errors, .inl (K.2.2.1, 6, .inl v_errors)), (q_h_now_heat, .inl (K.2.2.1, 16, .inl v_now_heat))]) (w1 := (fun _ => [])) (va_runS (As := [.int a2, .int (0 : Int32), .int (999 : Int32)]) (rest := []) ⟨hx, hb, hml, hown, hts⟩ (c_X7_within l K  H.size a2 (0 : Int32) (999 : Int32) _ hw) (va_cwS 3 hts (vGoodS k_300 k_301 k_57 k_302) rfl rfl rfl (by decide +kernel) ⟨Nat.le_of_ble_eq_true rfl, Nat.le_of_ble_eq_true rfl⟩) ⟨vPre_blind, fun U hU hW => ⟨rfl, vPre_of hX hP hD hS [] rfl (by decide) U hU hW⟩⟩ rfl rfl hl.1 rfl (lv_room (Nat.le_of_ble_eq_true rfl)) dX7_heat_12 ⟨Nat.zero_le _, Nat.zero_le _⟩) hX hP hD hS [] [0, 1, 2, 3] rfl rfl (by decide) (by decide) (fun r_5 u H locs hw hP hD hS => ?_)
    have hP : va_P K.1 vwCl [(q_h, .inr (6, [.ref q_h_now, g_h_kept, g_h_thought, g_h_reader, g_h_speaker, g_h_sheets, g_h_warmUnchanged, .ref q_h_errors, g_h_images])), (q_h_now, .inr (4, [.ref q_h_now_heat, g_h_now_doors, g_h_now_fed, g_h_now_wants, g_h_now_burnt, g_h_now_hour, g_h_now_houses, g_h_now_km, g_h_now_cell, g_h_now_warm, g_h_now_content, g_h_now_going, g_h_now_wanted, g_h_now_goes, g_h_now_tape, g_h_now_waiting, g_h_now_z])), (q_h_errors, .inl (K.2.2.1, 6, .inl v_errors)), (q_h_now_heat, .inl (K.2.2.1, 16, .inl v_now_heat))] H := hP.sub [0, 1, 2, 3] rfl
    have hD : va_D A [(q_h, .inr (6, [.ref q_h_now, g_h_kept, g_h_thought, g_h_reader, g_h_speaker, g_h_sheets, g_h_warmUnchanged, .ref q_h_errors, g_h_images])), (q_h_now, .inr (4, [.ref q_h_now_heat, g_h_now_doors, g_h_now_fed, g_h_now_wants, g_h_now_burnt, g_h_now_hour, g_h_now_houses, g_h_now_km, g_h_now_cell, g_h_now_warm, g_h_now_content, g_h_now_going, g_h_now_wanted, g_h_now_goes, g_h_now_tape, g_h_now_waiting, g_h_now_z])), (q_h_errors, .inl (K.2.2.1, 6, .inl v_errors)), (q_h_now_heat, .inl (K.2.2.1, 16, .inl v_now_heat))] := hD.sub [0, 1, 2, 3] (by decide) rfl
    have hz_r_5 := hw.1
    have hw := hw.2
    refine lv_if_ne (tgt := 24) hx hb dX7_heat_15 (by decide) (fun c_6 => ?_) (fun c_6 => ?_)
    · have hw := hw.2 c_6
      refine lv_aload_n hx hb dX7_heat_24 rfl (lv_at hl 0 rfl) ?_
      refine va_get (D := K.1) (ci := 6) (v := .ref q_h_now) (C := RX7) (T := TX7) (N := 9) hx hb hts iwX7 hown hX.1 hP 0 rfl rfl 0 (by decide) (hts _ k_265) (fun _ h9 => h9) rfl dX7_heat_25 ?_
      refine va_get (D := K.1) (ci := 4) (v := .ref q_h_now_heat) (C := RX5) (T := TX5) (N := 17) hx hb hts iwX5 hown hX.1 hP 1 rfl rfl 0 (by decide) (hts _ k_133) (fun _ h9 => h9) rfl dX7_heat_28 ?_
      refine lv_iload_n hx hb dX7_heat_31 rfl (lv_at hl 1 rfl) ?_
      refine va_iald hx hb hX.1 hP 3 0 rfl rfl hw.1 dX7_heat_32 ?_
      have hw := hw.2
      refine lv_istore_n (lv' := [(3, .int (v_now_heat a1.toNatClampNeg)), (0, .ref q_h), (1, .int a1), (2, .int a2)]) hx hb dX7_heat_33 rfl hl (by decide) rfl (fun ls hl => ?_)
      refine lv_aload_n hx hb dX7_heat_34 rfl (lv_at hl 1 rfl) ?_
      refine va_get (D := K.1) (ci := 6) (v := .ref q_h_now) (C := RX7) (T := TX7) (N := 9) hx hb hts iwX7 hown hX.1 hP 0 rfl rfl 0 (by decide) (hts _ k_265) (fun _ h9 => h9) rfl dX7_heat_35 ?_
      refine va_get (D := K.1) (ci := 4) (v := .ref q_h_now_heat) (C := RX5) (T := TX5) (N := 17) hx hb hts iwX5 hown hX.1 hP 1 rfl rfl 0 (by decide) (hts _ k_133) (fun _ h9 => h9) rfl dX7_heat_38 ?_
      refine lv_iload_n hx hb dX7_heat_41 rfl (lv_at hl 2 rfl) ?_
      refine lv_iload_n hx hb dX7_heat_42 rfl (lv_at hl 3 rfl) ?_
      refine va_iast hx hb hX.1 hP hD hS 3 0 rfl rfl hw.1 dX7_heat_43 (fun H locs hP hD hS => ?_)
      have hP : va_P K.1 vwCl [(q_h, .inr (6, [.ref q_h_now, g_h_kept, g_h_thought, g_h_reader, g_h_speaker, g_h_sheets, g_h_warmUnchanged, .ref q_h_errors, g_h_images])), (q_h_now, .inr (4, [.ref q_h_now_heat, g_h_now_doors, g_h_now_fed, g_h_now_wants, g_h_now_burnt, g_h_now_hour, g_h_now_houses, g_h_now_km, g_h_now_cell, g_h_now_warm, g_h_now_content, g_h_now_going, g_h_now_wanted, g_h_now_goes, g_h_now_tape, g_h_now_waiting, g_h_now_z])), (q_h_errors, .inl (K.2.2.1, 6, .inl v_errors)), (q_h_now_heat, .inl (K.2.2.1, 16, .inl (upd v_now_heat a1.toNatClampNeg a2)))] H := hP
      have hD : va_D A [(q_h, .inr (6, [.ref q_h_now, g_h_kept, g_h_thought, g_h_reader, g_h_speaker, g_h_sheets, g_h_warmUnchanged, .ref q_h_errors, g_h_images])), (q_h_now, .inr (4, [.ref q_h_now_heat, g_h_now_doors, g_h_now_fed, g_h_now_wants, g_h_now_burnt, g_h_now_hour, g_h_now_houses, g_h_now_km, g_h_now_cell, g_h_now_warm, g_h_now_content, g_h_now_going, g_h_now_wanted, g_h_now_goes, g_h_now_tape, g_h_now_waiting, g_h_now_z])), (q_h_errors, .inl (K.2.2.1, 6, .inl v_errors)), (q_h_now_heat, .inl (K.2.2.1, 16, .inl (upd v_now_heat a1.toNatClampNeg a2)))] := hD
      have hw := hw.2
      refine lv_iload_n hx hb dX7_heat_44 rfl (lv_at hl 0 rfl) ?_
      exact W.iret (v := (v_now_heat a1.toNatClampNeg)) hx hb hr (fun t ht hW => ⟨⟨(v_now_heat a1.toNatClampNeg), (v_errors, (upd v_now_heat a1.toNatClampNeg a2)), rfl, hw, by rw [ht]; exact hP, va_K.moved hW.alike hX.1, hD⟩, hS.F ht⟩) hS.2.2 dX7_heat_45 hlocks
    · have hw := hw.1 c_6
      refine lv_aload_n hx hb dX7_heat_18 rfl (lv_at hl 0 rfl) ?_
      refine lv_iconst (v := (1 : Int32)) hx hb dX7_heat_19 (by decide) ?_
      refine vCalli (K := K) (wr := [(q_h_now, .inr (4, [.ref q_h_now_heat, g_h_now_doors, g_h_now_fed, g_h_now_wants, g_h_now_burnt, g_h_now_hour, g_h_now_houses, g_h_now_km, g_h_now_cell, g_h_now_warm, g_h_now_content, g_h_now_going, g_h_now_wanted, g_h_now_goes, g_h_now_tape, g_h_now_waiting, g_h_now_z])), (q_h_now_heat, .inl (K.2.2.1, 16, .inl v_now_heat))]) (w1 := (fun (u : (Nat → Int32)) => [(q_h, .inr (6, [(.ref q_h_now), g_h_kept, g_h_thought, g_h_reader, g_h_speaker, g_h_sheets, g_h_warmUnchanged, .ref q_h_errors, g_h_images])), (q_h_errors, .inl (K.2.2.1, 6, .inl u))])) (va_runV (As := [.int (1 : Int32)]) (rest := []) ⟨hx, hb, hml, hown, hts⟩ (c_X7_error l K q_h q_h_errors (.ref q_h_now) g_h_kept g_h_thought g_h_reader g_h_speaker g_h_sheets g_h_warmUnchanged g_h_images H.size (1 : Int32) v_errors _ hw) (cwV 1 hts (vGoodV k_303 k_305 k_0 k_57 k_306) rfl rfl rfl (by decide +kernel) ⟨Nat.le_of_ble_eq_true rfl, Nat.le_of_ble_eq_true rfl⟩) ⟨vPre_blind, va_recv hX.1 hP (ci := 6) (q0 := 0) rfl rfl, fun U hU hW => ⟨rfl, vPre_of hX hP hD hS [0, 2] rfl (by decide) U hU hW⟩⟩ rfl rfl hl.1 rfl (lv_room (Nat.le_of_ble_eq_true rfl)) dX7_heat_20 ⟨Nat.zero_le _, Nat.zero_le _⟩) hX hP hD hS [0, 2] [1, 3] rfl rfl (by decide) (by decide) (fun r_8 v_errors_7 H locs hw hP hD hS => ?_)
      have hP : va_P K.1 vwCl [(q_h, .inr (6, [.ref q_h_now, g_h_kept, g_h_thought, g_h_reader, g_h_speaker, g_h_sheets, g_h_warmUnchanged, .ref q_h_errors, g_h_images])), (q_h_now, .inr (4, [.ref q_h_now_heat, g_h_now_doors, g_h_now_fed, g_h_now_wants, g_h_now_burnt, g_h_now_hour, g_h_now_houses, g_h_now_km, g_h_now_cell, g_h_now_warm, g_h_now_content, g_h_now_going, g_h_now_wanted, g_h_now_goes, g_h_now_tape, g_h_now_waiting, g_h_now_z])), (q_h_errors, .inl (K.2.2.1, 6, .inl v_errors_7)), (q_h_now_heat, .inl (K.2.2.1, 16, .inl v_now_heat))] H := hP.sub [2, 0, 3, 1] rfl
      have hD : va_D A [(q_h, .inr (6, [.ref q_h_now, g_h_kept, g_h_thought, g_h_reader, g_h_speaker, g_h_sheets, g_h_warmUnchanged, .ref q_h_errors, g_h_images])), (q_h_now, .inr (4, [.ref q_h_now_heat, g_h_now_doors, g_h_now_fed, g_h_now_wants, g_h_now_burnt, g_h_now_hour, g_h_now_houses, g_h_now_km, g_h_now_cell, g_h_now_warm, g_h_now_content, g_h_now_going, g_h_now_wanted, g_h_now_goes, g_h_now_tape, g_h_now_waiting, g_h_now_z])), (q_h_errors, .inl (K.2.2.1, 6, .inl v_errors_7)), (q_h_now_heat, .inl (K.2.2.1, 16, .inl v_now_heat))] := hD.sub [2, 0, 3, 1] (by decide) rfl
      exact W.iret (v := r_8) hx hb hr (fun t ht hW => ⟨⟨r_8, (v_errors_7, v_now_heat), rfl, hw, by rw [ht]; exact hP, va_K.moved hW.alike hX.1, hD⟩, hS.F ht⟩) hS.2.2 dX7_heat_23 hlocks
/-! OvenRings.ofCell(II)I -/
def wp_X7_ofCell (a1 : Int32) (a2 : Int32) (v_now_houses : Int32) (v_errors : Nat → Int32) (v_now_heat : Nat → Int32) (v_now_cell : Nat → Int32) (post : Int32 → (Nat → Int32) → Prop) : Prop := wp_X7_isCell a1 (fun r_1 => (r_1 = 0 → (wp_X7_error (1 : Int32) v_errors (fun r_10 v_errors_9 => post r_10 v_errors_9))) ∧ (¬ r_1 = 0 → ((a2 = (0 : Int32) → (vp_in a1 16 ∧ (post (v_now_heat a1.toNatClampNeg) v_errors))) ∧ (a2 = (1 : Int32) → (post (a1 / (4 : Int32)) v_errors)) ∧ (a2 = (2 : Int32) → (wp_X5_housesIn a1 v_now_houses v_now_cell (fun r_5 => post r_5 v_errors))) ∧ (¬ a2 = (0 : Int32) → ¬ a2 = (1 : Int32) → ¬ a2 = (2 : Int32) → (wp_X7_error (1 : Int32) v_errors (fun r_8 v_errors_7 => post r_8 v_errors_7))))))
abbrev rm_X7_ofCell : Room := { frames := 2, cells := 0, slots := 0, locals := 42 }
abbrev Qc_X7_ofCell (K : vGl) (q_h q_h_now q_h_errors q_h_now_heat q_h_now_cell : Nat)  (g_h_kept : Value) (g_h_thought : Value) (g_h_reader : Value) (g_h_speaker : Value) (g_h_sheets : Value) (g_h_warmUnchanged : Value) (g_h_images : Value) (g_h_now_doors : Value) (g_h_now_fed : Value) (g_h_now_wants : Value) (g_h_now_burnt : Value) (g_h_now_hour : Value) (g_h_now_km : Value) (g_h_now_warm : Value) (g_h_now_content : Value) (g_h_now_going : Value) (g_h_now_wanted : Value) (g_h_now_goes : Value) (g_h_now_tape : Value) (g_h_now_waiting : Value) (g_h_now_z : Value) (v_now_houses : Int32) (v_now_heat : Nat → Int32) (v_now_cell : Nat → Int32) (post : Int32 → (Nat → Int32) → Prop) (A : Nat → Prop) : Array Value → State → Outcome → State → Prop := va_Qi (fun (r : Int32) (u : (Nat → Int32)) => post r u) (fun u t => vB K A [(q_h, .inr (6, [.ref q_h_now, g_h_kept, g_h_thought, g_h_reader, g_h_speaker, g_h_sheets, g_h_warmUnchanged, .ref q_h_errors, g_h_images])), (q_h_now, .inr (4, [.ref q_h_now_heat, g_h_now_doors, g_h_now_fed, g_h_now_wants, g_h_now_burnt, g_h_now_hour, .int v_now_houses, g_h_now_km, .ref q_h_now_cell, g_h_now_warm, g_h_now_content, g_h_now_going, g_h_now_wanted, g_h_now_goes, g_h_now_tape, g_h_now_waiting, g_h_now_z])), (q_h_errors, .inl (K.2.2.1, 6, .inl u)), (q_h_now_heat, .inl (K.2.2.1, 16, .inl v_now_heat)), (q_h_now_cell, .inl (K.2.2.1, 8, .inl v_now_cell))] t) A
set_option maxHeartbeats 4000000 in
set_option maxRecDepth 100000 in
theorem c_X7_ofCell (l : Launch) (K : vGl) (q_h q_h_now q_h_errors q_h_now_heat q_h_now_cell : Nat)  (g_h_kept : Value) (g_h_thought : Value) (g_h_reader : Value) (g_h_speaker : Value) (g_h_sheets : Value) (g_h_warmUnchanged : Value) (g_h_images : Value) (g_h_now_doors : Value) (g_h_now_fed : Value) (g_h_now_wants : Value) (g_h_now_burnt : Value) (g_h_now_hour : Value) (g_h_now_km : Value) (g_h_now_warm : Value) (g_h_now_content : Value) (g_h_now_going : Value) (g_h_now_wanted : Value) (g_h_now_goes : Value) (g_h_now_tape : Value) (g_h_now_waiting : Value) (g_h_now_z : Value) (sz : Nat) (a1 : Int32) (a2 : Int32) (v_now_houses : Int32) (v_errors : Nat → Int32) (v_now_heat : Nat → Int32) (v_now_cell : Nat → Int32) (post : Int32 → (Nat → Int32) → Prop) (hw : wp_X7_ofCell a1 a2 v_now_houses v_errors v_now_heat v_now_cell post) : Met l yX7_ofCell (.code yX7_ofCell cX7_ofCell 3 (some .int) :: vT) rm_X7_ofCell (va_Pc [.ref q_h, .int a1, .int a2] (vPre K [(q_h, .inr (6, [.ref q_h_now, g_h_kept, g_h_thought, g_h_reader, g_h_speaker, g_h_sheets, g_h_warmUnchanged, .ref q_h_errors, g_h_images])), (q_h_now, .inr (4, [.ref q_h_now_heat, g_h_now_doors, g_h_now_fed, g_h_now_wants, g_h_now_burnt, g_h_now_hour, .int v_now_houses, g_h_now_km, .ref q_h_now_cell, g_h_now_warm, g_h_now_content, g_h_now_going, g_h_now_wanted, g_h_now_goes, g_h_now_tape, g_h_now_waiting, g_h_now_z])), (q_h_errors, .inl (K.2.2.1, 6, .inl v_errors)), (q_h_now_heat, .inl (K.2.2.1, 16, .inl v_now_heat)), (q_h_now_cell, .inl (K.2.2.1, 8, .inl v_now_cell))] sz)) (Qc_X7_ofCell K q_h q_h_now q_h_errors q_h_now_heat q_h_now_cell g_h_kept g_h_thought g_h_reader g_h_speaker g_h_sheets g_h_warmUnchanged g_h_images g_h_now_doors g_h_now_fed g_h_now_wants g_h_now_burnt g_h_now_hour g_h_now_km g_h_now_warm g_h_now_content g_h_now_going g_h_now_wanted g_h_now_goes g_h_now_tape g_h_now_waiting g_h_now_z v_now_houses v_now_heat v_now_cell post (va_A [(q_h, .inr (6, [.ref q_h_now, g_h_kept, g_h_thought, g_h_reader, g_h_speaker, g_h_sheets, g_h_warmUnchanged, .ref q_h_errors, g_h_images])), (q_h_now, .inr (4, [.ref q_h_now_heat, g_h_now_doors, g_h_now_fed, g_h_now_wants, g_h_now_burnt, g_h_now_hour, .int v_now_houses, g_h_now_km, .ref q_h_now_cell, g_h_now_warm, g_h_now_content, g_h_now_going, g_h_now_wanted, g_h_now_goes, g_h_now_tape, g_h_now_waiting, g_h_now_z])), (q_h_errors, .inl (K.2.2.1, 6, .inl v_errors)), (q_h_now_heat, .inl (K.2.2.1, 16, .inl v_now_heat)), (q_h_now_cell, .inl (K.2.2.1, 8, .inl v_now_cell))] sz)) 0 0 (va_A [(q_h, .inr (6, [.ref q_h_now, g_h_kept, g_h_thought, g_h_reader, g_h_speaker, g_h_sheets, g_h_warmUnchanged, .ref q_h_errors, g_h_images])), (q_h_now, .inr (4, [.ref q_h_now_heat, g_h_now_doors, g_h_now_fed, g_h_now_wants, g_h_now_burnt, g_h_now_hour, .int v_now_houses, g_h_now_km, .ref q_h_now_cell, g_h_now_warm, g_h_now_content, g_h_now_going, g_h_now_wanted, g_h_now_goes, g_h_now_tape, g_h_now_waiting, g_h_now_z])), (q_h_errors, .inl (K.2.2.1, 6, .inl v_errors)), (q_h_now_heat, .inl (K.2.2.1, 16, .inl v_now_heat)), (q_h_now_cell, .inl (K.2.2.1, 8, .inl v_now_cell))] sz) := by
  unfold wp_X7_ofCell at hw
  refine Met.ofW (cc := cX7_ofCell) (maxL := 3) (ret := (some .int)) (by decide) rfl ?_
  intro p e s m args below meth c s₁ B hml hv
  obtain ⟨rfl, hsz, hP, hK, hD0, hG, hR⟩ := hv
  have hx := B.exec
  have hb := B.bytes
  have hr := B.returns
  have hts : ∀ w ∈ vT, w.before _ s = true := fun w h => atoms_spec (ws := .code yX7_ofCell cX7_ofCell 3 (some .int) :: vT) B.pre w (List.mem_cons_of_mem _ h)
  have hown : s.vm.findClass RX7 = some m.cls := findClass_of_methodNamed B.named
  have hlocks := B.notSynchronized
  subst hsz
  have hD := hD0.self (sz := s.heap.size)
  show W p l e rm_X7_ofCell s m _ below meth c s.heap [] 0 0 _ _
  generalize hAe : va_A [(q_h, .inr (6, [.ref q_h_now, g_h_kept, g_h_thought, g_h_reader, g_h_speaker, g_h_sheets, g_h_warmUnchanged, .ref q_h_errors, g_h_images])), (q_h_now, .inr (4, [.ref q_h_now_heat, g_h_now_doors, g_h_now_fed, g_h_now_wants, g_h_now_burnt, g_h_now_hour, .int v_now_houses, g_h_now_km, .ref q_h_now_cell, g_h_now_warm, g_h_now_content, g_h_now_going, g_h_now_wanted, g_h_now_goes, g_h_now_tape, g_h_now_waiting, g_h_now_z])), (q_h_errors, .inl (K.2.2.1, 6, .inl v_errors)), (q_h_now_heat, .inl (K.2.2.1, 16, .inl v_now_heat)), (q_h_now_cell, .inl (K.2.2.1, 8, .inl v_now_cell))] s.heap.size = A at hD hG ⊢
  have hX : vX K A s := ⟨hK, hG, hR, fun q h => by rw [← hAe]; exact Or.inr h⟩
  have hS : va_S A s.heap s.heap [] := va_S.rf
  have F : vFx p s m ([.ref q_h, .int a1, .int a2] : List Value).toArray meth c cX7_ofCell RX7 3 (some .int) := ⟨hx, hb, hml, hown, hts, hr, hlocks⟩
  have hl := lv_entry ([.ref q_h, .int a1, .int a2]) (n := 3) (Nat.le_of_ble_eq_true rfl)
  rw [lg_entry_eq]
  generalize (lg_sl ([.ref q_h, .int a1, .int a2]) ++ List.replicate (3 - (lg_sl ([.ref q_h, .int a1, .int a2])).length) Slot.unset).toArray = ls at hl ⊢
  have hl : lv_has ls 3 [(0, .ref q_h), (1, .int a1), (2, .int a2)] := hl
  obtain ⟨H, hHe⟩ : ∃ H, H = s.heap := ⟨_, rfl⟩
  have hS : va_S A s.heap H [] := by rw [hHe]; exact hS
  have hP : va_P K.1 vwCl [(q_h, .inr (6, [.ref q_h_now, g_h_kept, g_h_thought, g_h_reader, g_h_speaker, g_h_sheets, g_h_warmUnchanged, .ref q_h_errors, g_h_images])), (q_h_now, .inr (4, [.ref q_h_now_heat, g_h_now_doors, g_h_now_fed, g_h_now_wants, g_h_now_burnt, g_h_now_hour, .int v_now_houses, g_h_now_km, .ref q_h_now_cell, g_h_now_warm, g_h_now_content, g_h_now_going, g_h_now_wanted, g_h_now_goes, g_h_now_tape, g_h_now_waiting, g_h_now_z])), (q_h_errors, .inl (K.2.2.1, 6, .inl v_errors)), (q_h_now_heat, .inl (K.2.2.1, 16, .inl v_now_heat)), (q_h_now_cell, .inl (K.2.2.1, 8, .inl v_now_cell))] H := by rw [hHe]; exact hP
  refine vWH hHe ?_
  refine lv_iload_n hx hb dX7_ofCell_0 rfl (lv_at hl 1 rfl) ?_
  refine vCalli (K := K) (wr := [(q_h, .inr (6, [.ref q_h_now, g_h_kept, g_h_thought, g_h_reader, g_h_speaker, g_h_sheets, g_h_warmUnchanged, .ref q_h_errors, g_h_images])), (q_h_now, .inr (4, [.ref q_h_now_heat, g_h_now_doors, g_h_now_fed, g_h_now_wants, g_h_now_burnt, g_h_now_hour, .int v_now_houses, g_h_now_km, .ref q_h_now_cell, g_h_now_warm, g_h_now_content, g_h_now_going, g_h_now_wanted, g_h_now_goes, g_h_now_tape, g_h_now_waiting, g_h_now_z])), (q_h_errors, .inl (K.2.2.1, 6, .inl v_errors)), (q_h_now_heat, .inl (K.2.2.1, 16, .inl v_now_heat)), (q_h_now_cell, .inl (K.2.2.1, 8, .inl v_now_cell))]) (w1 := (fun _ => [])) (va_runS (As := [.int a1]) (rest := []) ⟨hx, hb, hml, hown, hts⟩ (c_X7_isCell l K  H.size a1 _ hw) (va_cwS 1 hts (vGoodS k_297 k_298 k_57 k_299) rfl rfl rfl (by decide +kernel) ⟨Nat.le_of_ble_eq_true rfl, Nat.le_of_ble_eq_true rfl⟩) ⟨vPre_blind, fun U hU hW => ⟨rfl, vPre_of hX hP hD hS [] rfl (by decide) U hU hW⟩⟩ rfl rfl hl.1 rfl (lv_room (Nat.le_of_ble_eq_true rfl)) dX7_ofCell_1 ⟨Nat.zero_le _, Nat.zero_le _⟩) hX hP hD hS [] [0, 1, 2, 3, 4] rfl rfl (by decide) (by decide) (fun r_1 u H locs hw hP hD hS => ?_)
  have hP : va_P K.1 vwCl [(q_h, .inr (6, [.ref q_h_now, g_h_kept, g_h_thought, g_h_reader, g_h_speaker, g_h_sheets, g_h_warmUnchanged, .ref q_h_errors, g_h_images])), (q_h_now, .inr (4, [.ref q_h_now_heat, g_h_now_doors, g_h_now_fed, g_h_now_wants, g_h_now_burnt, g_h_now_hour, .int v_now_houses, g_h_now_km, .ref q_h_now_cell, g_h_now_warm, g_h_now_content, g_h_now_going, g_h_now_wanted, g_h_now_goes, g_h_now_tape, g_h_now_waiting, g_h_now_z])), (q_h_errors, .inl (K.2.2.1, 6, .inl v_errors)), (q_h_now_heat, .inl (K.2.2.1, 16, .inl v_now_heat)), (q_h_now_cell, .inl (K.2.2.1, 8, .inl v_now_cell))] H := hP.sub [0, 1, 2, 3, 4] rfl
  have hD : va_D A [(q_h, .inr (6, [.ref q_h_now, g_h_kept, g_h_thought, g_h_reader, g_h_speaker, g_h_sheets, g_h_warmUnchanged, .ref q_h_errors, g_h_images])), (q_h_now, .inr (4, [.ref q_h_now_heat, g_h_now_doors, g_h_now_fed, g_h_now_wants, g_h_now_burnt, g_h_now_hour, .int v_now_houses, g_h_now_km, .ref q_h_now_cell, g_h_now_warm, g_h_now_content, g_h_now_going, g_h_now_wanted, g_h_now_goes, g_h_now_tape, g_h_now_waiting, g_h_now_z])), (q_h_errors, .inl (K.2.2.1, 6, .inl v_errors)), (q_h_now_heat, .inl (K.2.2.1, 16, .inl v_now_heat)), (q_h_now_cell, .inl (K.2.2.1, 8, .inl v_now_cell))] := hD.sub [0, 1, 2, 3, 4] (by decide) rfl
  have hz_r_1 := hw.1
  have hw := hw.2
  refine lv_if_ne (tgt := 13) hx hb dX7_ofCell_4 (by decide) (fun c_2 => ?_) (fun c_2 => ?_)
  · have hw := hw.2 c_2
    refine lv_iload_n hx hb dX7_ofCell_13 rfl (lv_at hl 2 rfl) ?_
    rcases hw with ⟨hw0, hw1, hw2, hw3⟩
    rcases Classical.em (a2 = (0 : Int32)) with c_3 | c_3
    · refine lv_tableIn (tgt := 40) hx hb dX7_ofCell_14 (by rw [c_3]; decide) (by rw [c_3]; decide) (by rw [c_3]; rfl) (by decide) ?_
      have hw := hw0 c_3
      refine lv_aload_n hx hb dX7_ofCell_40 rfl (lv_at hl 0 rfl) ?_
      refine va_get (D := K.1) (ci := 6) (v := .ref q_h_now) (C := RX7) (T := TX7) (N := 9) hx hb hts iwX7 hown hX.1 hP 0 rfl rfl 0 (by decide) (hts _ k_265) (fun _ h9 => h9) rfl dX7_ofCell_41 ?_
      refine va_get (D := K.1) (ci := 4) (v := .ref q_h_now_heat) (C := RX5) (T := TX5) (N := 17) hx hb hts iwX5 hown hX.1 hP 1 rfl rfl 0 (by decide) (hts _ k_133) (fun _ h9 => h9) rfl dX7_ofCell_44 ?_
      refine lv_iload_n hx hb dX7_ofCell_47 rfl (lv_at hl 1 rfl) ?_
      refine va_iald hx hb hX.1 hP 3 0 rfl rfl hw.1 dX7_ofCell_48 ?_
      have hw := hw.2
      exact W.iret (v := (v_now_heat a1.toNatClampNeg)) hx hb hr (fun t ht hW => ⟨⟨(v_now_heat a1.toNatClampNeg), v_errors, rfl, hw, by rw [ht]; exact hP, va_K.moved hW.alike hX.1, hD⟩, hS.F ht⟩) hS.2.2 dX7_ofCell_49 hlocks
    rcases Classical.em (a2 = (1 : Int32)) with c_4 | c_4
    · refine lv_tableIn (tgt := 50) hx hb dX7_ofCell_14 (by rw [c_4]; decide) (by rw [c_4]; decide) (by rw [c_4]; rfl) (by decide) ?_
      have hw := hw1 c_4
      refine lv_iload_n hx hb dX7_ofCell_50 rfl (lv_at hl 1 rfl) ?_
      refine lv_iconst (v := (4 : Int32)) hx hb dX7_ofCell_51 (by decide) ?_
      refine lv_idiv hx hb dX7_ofCell_52 (by decide) ?_
      exact W.iret (v := (a1 / (4 : Int32))) hx hb hr (fun t ht hW => ⟨⟨(a1 / (4 : Int32)), v_errors, rfl, hw, by rw [ht]; exact hP, va_K.moved hW.alike hX.1, hD⟩, hS.F ht⟩) hS.2.2 dX7_ofCell_53 hlocks
    rcases Classical.em (a2 = (2 : Int32)) with c_6 | c_6
    · refine lv_tableIn (tgt := 54) hx hb dX7_ofCell_14 (by rw [c_6]; decide) (by rw [c_6]; decide) (by rw [c_6]; rfl) (by decide) ?_
      have hw := hw2 c_6
      refine lv_aload_n hx hb dX7_ofCell_54 rfl (lv_at hl 0 rfl) ?_
      refine va_get (D := K.1) (ci := 6) (v := .ref q_h_now) (C := RX7) (T := TX7) (N := 9) hx hb hts iwX7 hown hX.1 hP 0 rfl rfl 0 (by decide) (hts _ k_265) (fun _ h9 => h9) rfl dX7_ofCell_55 ?_
      refine lv_iload_n hx hb dX7_ofCell_58 rfl (lv_at hl 1 rfl) ?_
      refine vCalli (K := K) (wr := [(q_h, .inr (6, [.ref q_h_now, g_h_kept, g_h_thought, g_h_reader, g_h_speaker, g_h_sheets, g_h_warmUnchanged, .ref q_h_errors, g_h_images])), (q_h_errors, .inl (K.2.2.1, 6, .inl v_errors)), (q_h_now_heat, .inl (K.2.2.1, 16, .inl v_now_heat))]) (w1 := (fun _ => [(q_h_now, .inr (4, [(.ref q_h_now_heat), g_h_now_doors, g_h_now_fed, g_h_now_wants, g_h_now_burnt, g_h_now_hour, .int v_now_houses, g_h_now_km, .ref q_h_now_cell, g_h_now_warm, g_h_now_content, g_h_now_going, g_h_now_wanted, g_h_now_goes, g_h_now_tape, g_h_now_waiting, g_h_now_z])), (q_h_now_cell, .inl (K.2.2.1, 8, .inl v_now_cell))])) (va_runV (As := [.int a1]) (rest := []) ⟨hx, hb, hml, hown, hts⟩ (c_X5_housesIn l K q_h_now q_h_now_cell (.ref q_h_now_heat) g_h_now_doors g_h_now_fed g_h_now_wants g_h_now_burnt g_h_now_hour g_h_now_km g_h_now_warm g_h_now_content g_h_now_going g_h_now_wanted g_h_now_goes g_h_now_tape g_h_now_waiting g_h_now_z H.size a1 v_now_houses v_now_cell _ hw) (cwV 1 hts (vGoodV k_312 k_313 k_314 k_58 k_315) rfl rfl rfl (by decide +kernel) ⟨Nat.le_of_ble_eq_true rfl, Nat.le_of_ble_eq_true rfl⟩) ⟨vPre_blind, va_recv hX.1 hP (ci := 4) (q0 := 1) rfl rfl, fun U hU hW => ⟨rfl, vPre_of hX hP hD hS [1, 4] rfl (by decide) U hU hW⟩⟩ rfl rfl hl.1 rfl (lv_room (Nat.le_of_ble_eq_true rfl)) dX7_ofCell_59 ⟨Nat.zero_le _, Nat.zero_le _⟩) hX hP hD hS [1, 4] [0, 2, 3] rfl rfl (by decide) (by decide) (fun r_5 u H locs hw hP hD hS => ?_)
      have hP : va_P K.1 vwCl [(q_h, .inr (6, [.ref q_h_now, g_h_kept, g_h_thought, g_h_reader, g_h_speaker, g_h_sheets, g_h_warmUnchanged, .ref q_h_errors, g_h_images])), (q_h_now, .inr (4, [.ref q_h_now_heat, g_h_now_doors, g_h_now_fed, g_h_now_wants, g_h_now_burnt, g_h_now_hour, .int v_now_houses, g_h_now_km, .ref q_h_now_cell, g_h_now_warm, g_h_now_content, g_h_now_going, g_h_now_wanted, g_h_now_goes, g_h_now_tape, g_h_now_waiting, g_h_now_z])), (q_h_errors, .inl (K.2.2.1, 6, .inl v_errors)), (q_h_now_heat, .inl (K.2.2.1, 16, .inl v_now_heat)), (q_h_now_cell, .inl (K.2.2.1, 8, .inl v_now_cell))] H := hP.sub [0, 3, 1, 2, 4] rfl
      have hD : va_D A [(q_h, .inr (6, [.ref q_h_now, g_h_kept, g_h_thought, g_h_reader, g_h_speaker, g_h_sheets, g_h_warmUnchanged, .ref q_h_errors, g_h_images])), (q_h_now, .inr (4, [.ref q_h_now_heat, g_h_now_doors, g_h_now_fed, g_h_now_wants, g_h_now_burnt, g_h_now_hour, .int v_now_houses, g_h_now_km, .ref q_h_now_cell, g_h_now_warm, g_h_now_content, g_h_now_going, g_h_now_wanted, g_h_now_goes, g_h_now_tape, g_h_now_waiting, g_h_now_z])), (q_h_errors, .inl (K.2.2.1, 6, .inl v_errors)), (q_h_now_heat, .inl (K.2.2.1, 16, .inl v_now_heat)), (q_h_now_cell, .inl (K.2.2.1, 8, .inl v_now_cell))] := hD.sub [0, 3, 1, 2, 4] (by decide) rfl
      exact W.iret (v := r_5) hx hb hr (fun t ht hW => ⟨⟨r_5, v_errors, rfl, hw, by rw [ht]; exact hP, va_K.moved hW.alike hX.1, hD⟩, hS.F ht⟩) hS.2.2 dX7_ofCell_62 hlocks
    refine lv_tableOut (tgt := 63) hx hb dX7_ofCell_14 (by have i0 := vI_ne (z := 0) c_3 (by decide +kernel); have i1 := vI_ne (z := 1) c_4 (by decide +kernel); have i2 := vI_ne (z := 2) c_6 (by decide +kernel); omega) (by decide) ?_
    have hw := hw3 c_3 c_4 c_6
    refine lv_aload_n hx hb dX7_ofCell_63 rfl (lv_at hl 0 rfl) ?_
    refine lv_iconst (v := (1 : Int32)) hx hb dX7_ofCell_64 (by decide) ?_
    refine vCalli (K := K) (wr := [(q_h_now, .inr (4, [.ref q_h_now_heat, g_h_now_doors, g_h_now_fed, g_h_now_wants, g_h_now_burnt, g_h_now_hour, .int v_now_houses, g_h_now_km, .ref q_h_now_cell, g_h_now_warm, g_h_now_content, g_h_now_going, g_h_now_wanted, g_h_now_goes, g_h_now_tape, g_h_now_waiting, g_h_now_z])), (q_h_now_heat, .inl (K.2.2.1, 16, .inl v_now_heat)), (q_h_now_cell, .inl (K.2.2.1, 8, .inl v_now_cell))]) (w1 := (fun (u : (Nat → Int32)) => [(q_h, .inr (6, [(.ref q_h_now), g_h_kept, g_h_thought, g_h_reader, g_h_speaker, g_h_sheets, g_h_warmUnchanged, .ref q_h_errors, g_h_images])), (q_h_errors, .inl (K.2.2.1, 6, .inl u))])) (va_runV (As := [.int (1 : Int32)]) (rest := []) ⟨hx, hb, hml, hown, hts⟩ (c_X7_error l K q_h q_h_errors (.ref q_h_now) g_h_kept g_h_thought g_h_reader g_h_speaker g_h_sheets g_h_warmUnchanged g_h_images H.size (1 : Int32) v_errors _ hw) (cwV 1 hts (vGoodV k_303 k_305 k_0 k_57 k_306) rfl rfl rfl (by decide +kernel) ⟨Nat.le_of_ble_eq_true rfl, Nat.le_of_ble_eq_true rfl⟩) ⟨vPre_blind, va_recv hX.1 hP (ci := 6) (q0 := 0) rfl rfl, fun U hU hW => ⟨rfl, vPre_of hX hP hD hS [0, 2] rfl (by decide) U hU hW⟩⟩ rfl rfl hl.1 rfl (lv_room (Nat.le_of_ble_eq_true rfl)) dX7_ofCell_65 ⟨Nat.zero_le _, Nat.zero_le _⟩) hX hP hD hS [0, 2] [1, 3, 4] rfl rfl (by decide) (by decide) (fun r_8 v_errors_7 H locs hw hP hD hS => ?_)
    have hP : va_P K.1 vwCl [(q_h, .inr (6, [.ref q_h_now, g_h_kept, g_h_thought, g_h_reader, g_h_speaker, g_h_sheets, g_h_warmUnchanged, .ref q_h_errors, g_h_images])), (q_h_now, .inr (4, [.ref q_h_now_heat, g_h_now_doors, g_h_now_fed, g_h_now_wants, g_h_now_burnt, g_h_now_hour, .int v_now_houses, g_h_now_km, .ref q_h_now_cell, g_h_now_warm, g_h_now_content, g_h_now_going, g_h_now_wanted, g_h_now_goes, g_h_now_tape, g_h_now_waiting, g_h_now_z])), (q_h_errors, .inl (K.2.2.1, 6, .inl v_errors_7)), (q_h_now_heat, .inl (K.2.2.1, 16, .inl v_now_heat)), (q_h_now_cell, .inl (K.2.2.1, 8, .inl v_now_cell))] H := hP.sub [3, 0, 4, 1, 2] rfl
    have hD : va_D A [(q_h, .inr (6, [.ref q_h_now, g_h_kept, g_h_thought, g_h_reader, g_h_speaker, g_h_sheets, g_h_warmUnchanged, .ref q_h_errors, g_h_images])), (q_h_now, .inr (4, [.ref q_h_now_heat, g_h_now_doors, g_h_now_fed, g_h_now_wants, g_h_now_burnt, g_h_now_hour, .int v_now_houses, g_h_now_km, .ref q_h_now_cell, g_h_now_warm, g_h_now_content, g_h_now_going, g_h_now_wanted, g_h_now_goes, g_h_now_tape, g_h_now_waiting, g_h_now_z])), (q_h_errors, .inl (K.2.2.1, 6, .inl v_errors_7)), (q_h_now_heat, .inl (K.2.2.1, 16, .inl v_now_heat)), (q_h_now_cell, .inl (K.2.2.1, 8, .inl v_now_cell))] := hD.sub [3, 0, 4, 1, 2] (by decide) rfl
    exact W.iret (v := r_8) hx hb hr (fun t ht hW => ⟨⟨r_8, v_errors_7, rfl, hw, by rw [ht]; exact hP, va_K.moved hW.alike hX.1, hD⟩, hS.F ht⟩) hS.2.2 dX7_ofCell_68 hlocks
  · have hw := hw.1 c_2
    refine lv_aload_n hx hb dX7_ofCell_7 rfl (lv_at hl 0 rfl) ?_
    refine lv_iconst (v := (1 : Int32)) hx hb dX7_ofCell_8 (by decide) ?_
    refine vCalli (K := K) (wr := [(q_h_now, .inr (4, [.ref q_h_now_heat, g_h_now_doors, g_h_now_fed, g_h_now_wants, g_h_now_burnt, g_h_now_hour, .int v_now_houses, g_h_now_km, .ref q_h_now_cell, g_h_now_warm, g_h_now_content, g_h_now_going, g_h_now_wanted, g_h_now_goes, g_h_now_tape, g_h_now_waiting, g_h_now_z])), (q_h_now_heat, .inl (K.2.2.1, 16, .inl v_now_heat)), (q_h_now_cell, .inl (K.2.2.1, 8, .inl v_now_cell))]) (w1 := (fun (u : (Nat → Int32)) => [(q_h, .inr (6, [(.ref q_h_now), g_h_kept, g_h_thought, g_h_reader, g_h_speaker, g_h_sheets, g_h_warmUnchanged, .ref q_h_errors, g_h_images])), (q_h_errors, .inl (K.2.2.1, 6, .inl u))])) (va_runV (As := [.int (1 : Int32)]) (rest := []) ⟨hx, hb, hml, hown, hts⟩ (c_X7_error l K q_h q_h_errors (.ref q_h_now) g_h_kept g_h_thought g_h_reader g_h_speaker g_h_sheets g_h_warmUnchanged g_h_images H.size (1 : Int32) v_errors _ hw) (cwV 1 hts (vGoodV k_303 k_305 k_0 k_57 k_306) rfl rfl rfl (by decide +kernel) ⟨Nat.le_of_ble_eq_true rfl, Nat.le_of_ble_eq_true rfl⟩) ⟨vPre_blind, va_recv hX.1 hP (ci := 6) (q0 := 0) rfl rfl, fun U hU hW => ⟨rfl, vPre_of hX hP hD hS [0, 2] rfl (by decide) U hU hW⟩⟩ rfl rfl hl.1 rfl (lv_room (Nat.le_of_ble_eq_true rfl)) dX7_ofCell_9 ⟨Nat.zero_le _, Nat.zero_le _⟩) hX hP hD hS [0, 2] [1, 3, 4] rfl rfl (by decide) (by decide) (fun r_10 v_errors_9 H locs hw hP hD hS => ?_)
    have hP : va_P K.1 vwCl [(q_h, .inr (6, [.ref q_h_now, g_h_kept, g_h_thought, g_h_reader, g_h_speaker, g_h_sheets, g_h_warmUnchanged, .ref q_h_errors, g_h_images])), (q_h_now, .inr (4, [.ref q_h_now_heat, g_h_now_doors, g_h_now_fed, g_h_now_wants, g_h_now_burnt, g_h_now_hour, .int v_now_houses, g_h_now_km, .ref q_h_now_cell, g_h_now_warm, g_h_now_content, g_h_now_going, g_h_now_wanted, g_h_now_goes, g_h_now_tape, g_h_now_waiting, g_h_now_z])), (q_h_errors, .inl (K.2.2.1, 6, .inl v_errors_9)), (q_h_now_heat, .inl (K.2.2.1, 16, .inl v_now_heat)), (q_h_now_cell, .inl (K.2.2.1, 8, .inl v_now_cell))] H := hP.sub [3, 0, 4, 1, 2] rfl
    have hD : va_D A [(q_h, .inr (6, [.ref q_h_now, g_h_kept, g_h_thought, g_h_reader, g_h_speaker, g_h_sheets, g_h_warmUnchanged, .ref q_h_errors, g_h_images])), (q_h_now, .inr (4, [.ref q_h_now_heat, g_h_now_doors, g_h_now_fed, g_h_now_wants, g_h_now_burnt, g_h_now_hour, .int v_now_houses, g_h_now_km, .ref q_h_now_cell, g_h_now_warm, g_h_now_content, g_h_now_going, g_h_now_wanted, g_h_now_goes, g_h_now_tape, g_h_now_waiting, g_h_now_z])), (q_h_errors, .inl (K.2.2.1, 6, .inl v_errors_9)), (q_h_now_heat, .inl (K.2.2.1, 16, .inl v_now_heat)), (q_h_now_cell, .inl (K.2.2.1, 8, .inl v_now_cell))] := hD.sub [3, 0, 4, 1, 2] (by decide) rfl
    exact W.iret (v := r_10) hx hb hr (fun t ht hW => ⟨⟨r_10, v_errors_9, rfl, hw, by rw [ht]; exact hP, va_K.moved hW.alike hX.1, hD⟩, hS.F ht⟩) hS.2.2 dX7_ofCell_12 hlocks
/-! OvenRings.isDoor(I)Z -/
def wp_X7_isDoor (a1 : Int32) (post : Int32 → Prop) : Prop := wp_X7_within a1 (0 : Int32) (11 : Int32) (fun r_1 => post r_1)
abbrev rm_X7_isDoor : Room := { frames := 1, cells := 0, slots := 0, locals := 22 }
abbrev Qc_X7_isDoor (K : vGl)     (post : Int32 → Prop) (A : Nat → Prop) : Array Value → State → Outcome → State → Prop := va_Qi (fun (r : Int32) (u : Unit) => (r = 0 ∨ r = 1) ∧ post r ) (fun u t => vB K A [] t) A
set_option maxHeartbeats 4000000 in
set_option maxRecDepth 100000 in
theorem c_X7_isDoor (l : Launch) (K : vGl)    (sz : Nat) (a1 : Int32) (post : Int32 → Prop) (hw : wp_X7_isDoor a1 post) : Met l yX7_isDoor (.code yX7_isDoor cX7_isDoor 1 (some .boolean) :: vT) rm_X7_isDoor (va_Pc [.int a1] (vPre K [] sz)) (Qc_X7_isDoor K  post (va_A [] sz)) 0 0 (va_A [] sz) := by
  unfold wp_X7_isDoor at hw
  refine Met.ofW (cc := cX7_isDoor) (maxL := 1) (ret := (some .boolean)) (by decide) rfl ?_
  intro p e s m args below meth c s₁ B hml hv
  obtain ⟨rfl, hsz, hP, hK, hD0, hG, hR⟩ := hv
  have hx := B.exec
  have hb := B.bytes
  have hr := B.returns
  have hts : ∀ w ∈ vT, w.before _ s = true := fun w h => atoms_spec (ws := .code yX7_isDoor cX7_isDoor 1 (some .boolean) :: vT) B.pre w (List.mem_cons_of_mem _ h)
  have hown : s.vm.findClass RX7 = some m.cls := findClass_of_methodNamed B.named
  have hlocks := B.notSynchronized
  subst hsz
  have hD := hD0.self (sz := s.heap.size)
  show W p l e rm_X7_isDoor s m _ below meth c s.heap [] 0 0 _ _
  generalize hAe : va_A [] s.heap.size = A at hD hG ⊢
  have hX : vX K A s := ⟨hK, hG, hR, fun q h => by rw [← hAe]; exact Or.inr h⟩
  have hS : va_S A s.heap s.heap [] := va_S.rf
  have F : vFx p s m ([.int a1] : List Value).toArray meth c cX7_isDoor RX7 1 (some .boolean) := ⟨hx, hb, hml, hown, hts, hr, hlocks⟩
  have hl := lv_entry ([.int a1]) (n := 1) (Nat.le_of_ble_eq_true rfl)
  rw [lg_entry_eq]
  generalize (lg_sl ([.int a1]) ++ List.replicate (1 - (lg_sl ([.int a1])).length) Slot.unset).toArray = ls at hl ⊢
  have hl : lv_has ls 1 [(0, .int a1)] := hl
  obtain ⟨H, hHe⟩ : ∃ H, H = s.heap := ⟨_, rfl⟩
  have hS : va_S A s.heap H [] := by rw [hHe]; exact hS
  have hP : va_P K.1 vwCl [] H := by rw [hHe]; exact hP
  refine vWH hHe ?_
  refine lv_iload_n hx hb dX7_isDoor_0 rfl (lv_at hl 0 rfl) ?_
  refine lv_iconst (v := (0 : Int32)) hx hb dX7_isDoor_1 (by decide) ?_
  refine lv_bipush (v := (11 : Int32)) hx hb dX7_isDoor_2 (by decide) ?_
  refine vCalli (K := K) (wr := []) (w1 := (fun _ => [])) (va_runS (As := [.int a1, .int (0 : Int32), .int (11 : Int32)]) (rest := []) ⟨hx, hb, hml, hown, hts⟩ (c_X7_within l K  H.size a1 (0 : Int32) (11 : Int32) _ hw) (va_cwS 3 hts (vGoodS k_300 k_301 k_57 k_302) rfl rfl rfl (by decide +kernel) ⟨Nat.le_of_ble_eq_true rfl, Nat.le_of_ble_eq_true rfl⟩) ⟨vPre_blind, fun U hU hW => ⟨rfl, vPre_of hX hP hD hS [] rfl (by decide) U hU hW⟩⟩ rfl rfl hl.1 rfl (lv_room (Nat.le_of_ble_eq_true rfl)) dX7_isDoor_4 ⟨Nat.zero_le _, Nat.zero_le _⟩) hX hP hD hS [] [] rfl rfl (by decide) (by decide) (fun r_1 u H locs hw hP hD hS => ?_)
  have hz_r_1 := hw.1
  have hw := hw.2
  exact W.zret (v := r_1) hx hb hr (vZb hz_r_1) (fun t ht hW => ⟨⟨r_1, (), rfl, ⟨hz_r_1, hw⟩, by rw [ht]; exact hP, va_K.moved hW.alike hX.1, hD⟩, hS.F ht⟩) hS.2.2 dX7_isDoor_7 hlocks
/-! OvenRings.door(II)I -/
def wp_X7_door (a1 : Int32) (a2 : Int32) (v_now_doors : Int32) (v_errors : Nat → Int32) (post : Int32 → Int32 → (Nat → Int32) → Prop) : Prop := wp_X7_isDoor a1 (fun r_1 => (r_1 = 0 → (wp_X7_error (1 : Int32) v_errors (fun r_4 v_errors_3 => post r_4 v_now_doors v_errors_3))) ∧ (¬ r_1 = 0 → (wp_X7_within a2 (0 : Int32) (1 : Int32) (fun r_5 => (r_5 = 0 → (wp_X7_error (1 : Int32) v_errors (fun r_9 v_errors_8 => post r_9 v_now_doors v_errors_8))) ∧ (¬ r_5 = 0 → ((((v_now_doors >>> (a1 &&& 31)) &&& (1 : Int32)) = a2 → (post ((v_now_doors >>> (a1 &&& 31)) &&& (1 : Int32)) v_now_doors v_errors)) ∧ (¬ ((v_now_doors >>> (a1 &&& 31)) &&& (1 : Int32)) = a2 → (post ((v_now_doors >>> (a1 &&& 31)) &&& (1 : Int32)) (v_now_doors ^^^ ((1 : Int32) <<< (a1 &&& 31))) v_errors))))))))
abbrev rm_X7_door : Room := { frames := 2, cells := 0, slots := 0, locals := 42 }
abbrev Qc_X7_door (K : vGl) (q_h q_h_now q_h_errors : Nat)  (g_h_kept : Value) (g_h_thought : Value) (g_h_reader : Value) (g_h_speaker : Value) (g_h_sheets : Value) (g_h_warmUnchanged : Value) (g_h_images : Value) (g_h_now_heat : Value) (g_h_now_fed : Value) (g_h_now_wants : Value) (g_h_now_burnt : Value) (g_h_now_hour : Value) (g_h_now_houses : Value) (g_h_now_km : Value) (g_h_now_cell : Value) (g_h_now_warm : Value) (g_h_now_content : Value) (g_h_now_going : Value) (g_h_now_wanted : Value) (g_h_now_goes : Value) (g_h_now_tape : Value) (g_h_now_waiting : Value) (g_h_now_z : Value)  (post : Int32 → Int32 → (Nat → Int32) → Prop) (A : Nat → Prop) : Array Value → State → Outcome → State → Prop := va_Qi (fun (r : Int32) (u : Int32 × (Nat → Int32)) => post r u.1 u.2) (fun u t => vB K A [(q_h, .inr (6, [.ref q_h_now, g_h_kept, g_h_thought, g_h_reader, g_h_speaker, g_h_sheets, g_h_warmUnchanged, .ref q_h_errors, g_h_images])), (q_h_now, .inr (4, [g_h_now_heat, .int u.1, g_h_now_fed, g_h_now_wants, g_h_now_burnt, g_h_now_hour, g_h_now_houses, g_h_now_km, g_h_now_cell, g_h_now_warm, g_h_now_content, g_h_now_going, g_h_now_wanted, g_h_now_goes, g_h_now_tape, g_h_now_waiting, g_h_now_z])), (q_h_errors, .inl (K.2.2.1, 6, .inl u.2))] t) A
set_option maxHeartbeats 4000000 in
set_option maxRecDepth 100000 in
theorem c_X7_door (l : Launch) (K : vGl) (q_h q_h_now q_h_errors : Nat)  (g_h_kept : Value) (g_h_thought : Value) (g_h_reader : Value) (g_h_speaker : Value) (g_h_sheets : Value) (g_h_warmUnchanged : Value) (g_h_images : Value) (g_h_now_heat : Value) (g_h_now_fed : Value) (g_h_now_wants : Value) (g_h_now_burnt : Value) (g_h_now_hour : Value) (g_h_now_houses : Value) (g_h_now_km : Value) (g_h_now_cell : Value) (g_h_now_warm : Value) (g_h_now_content : Value) (g_h_now_going : Value) (g_h_now_wanted : Value) (g_h_now_goes : Value) (g_h_now_tape : Value) (g_h_now_waiting : Value) (g_h_now_z : Value) (sz : Nat) (a1 : Int32) (a2 : Int32) (v_now_doors : Int32) (v_errors : Nat → Int32) (post : Int32 → Int32 → (Nat → Int32) → Prop) (hw : wp_X7_door a1 a2 v_now_doors v_errors post) : Met l yX7_door (.code yX7_door cX7_door 4 (some .int) :: vT) rm_X7_door (va_Pc [.ref q_h, .int a1, .int a2] (vPre K [(q_h, .inr (6, [.ref q_h_now, g_h_kept, g_h_thought, g_h_reader, g_h_speaker, g_h_sheets, g_h_warmUnchanged, .ref q_h_errors, g_h_images])), (q_h_now, .inr (4, [g_h_now_heat, .int v_now_doors, g_h_now_fed, g_h_now_wants, g_h_now_burnt, g_h_now_hour, g_h_now_houses, g_h_now_km, g_h_now_cell, g_h_now_warm, g_h_now_content, g_h_now_going, g_h_now_wanted, g_h_now_goes, g_h_now_tape, g_h_now_waiting, g_h_now_z])), (q_h_errors, .inl (K.2.2.1, 6, .inl v_errors))] sz)) (Qc_X7_door K q_h q_h_now q_h_errors g_h_kept g_h_thought g_h_reader g_h_speaker g_h_sheets g_h_warmUnchanged g_h_images g_h_now_heat g_h_now_fed g_h_now_wants g_h_now_burnt g_h_now_hour g_h_now_houses g_h_now_km g_h_now_cell g_h_now_warm g_h_now_content g_h_now_going g_h_now_wanted g_h_now_goes g_h_now_tape g_h_now_waiting g_h_now_z post (va_A [(q_h, .inr (6, [.ref q_h_now, g_h_kept, g_h_thought, g_h_reader, g_h_speaker, g_h_sheets, g_h_warmUnchanged, .ref q_h_errors, g_h_images])), (q_h_now, .inr (4, [g_h_now_heat, .int v_now_doors, g_h_now_fed, g_h_now_wants, g_h_now_burnt, g_h_now_hour, g_h_now_houses, g_h_now_km, g_h_now_cell, g_h_now_warm, g_h_now_content, g_h_now_going, g_h_now_wanted, g_h_now_goes, g_h_now_tape, g_h_now_waiting, g_h_now_z])), (q_h_errors, .inl (K.2.2.1, 6, .inl v_errors))] sz)) 0 0 (va_A [(q_h, .inr (6, [.ref q_h_now, g_h_kept, g_h_thought, g_h_reader, g_h_speaker, g_h_sheets, g_h_warmUnchanged, .ref q_h_errors, g_h_images])), (q_h_now, .inr (4, [g_h_now_heat, .int v_now_doors, g_h_now_fed, g_h_now_wants, g_h_now_burnt, g_h_now_hour, g_h_now_houses, g_h_now_km, g_h_now_cell, g_h_now_warm, g_h_now_content, g_h_now_going, g_h_now_wanted, g_h_now_goes, g_h_now_tape, g_h_now_waiting, g_h_now_z])), (q_h_errors, .inl (K.2.2.1, 6, .inl v_errors))] sz) := by
  unfold wp_X7_door at hw
  refine Met.ofW (cc := cX7_door) (maxL := 4) (ret := (some .int)) (by decide) rfl ?_
  intro p e s m args below meth c s₁ B hml hv
  obtain ⟨rfl, hsz, hP, hK, hD0, hG, hR⟩ := hv
  have hx := B.exec
  have hb := B.bytes
  have hr := B.returns
  have hts : ∀ w ∈ vT, w.before _ s = true := fun w h => atoms_spec (ws := .code yX7_door cX7_door 4 (some .int) :: vT) B.pre w (List.mem_cons_of_mem _ h)
  have hown : s.vm.findClass RX7 = some m.cls := findClass_of_methodNamed B.named
  have hlocks := B.notSynchronized
  subst hsz
  have hD := hD0.self (sz := s.heap.size)
  show W p l e rm_X7_door s m _ below meth c s.heap [] 0 0 _ _
  generalize hAe : va_A [(q_h, .inr (6, [.ref q_h_now, g_h_kept, g_h_thought, g_h_reader, g_h_speaker, g_h_sheets, g_h_warmUnchanged, .ref q_h_errors, g_h_images])), (q_h_now, .inr (4, [g_h_now_heat, .int v_now_doors, g_h_now_fed, g_h_now_wants, g_h_now_burnt, g_h_now_hour, g_h_now_houses, g_h_now_km, g_h_now_cell, g_h_now_warm, g_h_now_content, g_h_now_going, g_h_now_wanted, g_h_now_goes, g_h_now_tape, g_h_now_waiting, g_h_now_z])), (q_h_errors, .inl (K.2.2.1, 6, .inl v_errors))] s.heap.size = A at hD hG ⊢
  have hX : vX K A s := ⟨hK, hG, hR, fun q h => by rw [← hAe]; exact Or.inr h⟩
  have hS : va_S A s.heap s.heap [] := va_S.rf
  have F : vFx p s m ([.ref q_h, .int a1, .int a2] : List Value).toArray meth c cX7_door RX7 4 (some .int) := ⟨hx, hb, hml, hown, hts, hr, hlocks⟩
  have hl := lv_entry ([.ref q_h, .int a1, .int a2]) (n := 4) (Nat.le_of_ble_eq_true rfl)
  rw [lg_entry_eq]
  generalize (lg_sl ([.ref q_h, .int a1, .int a2]) ++ List.replicate (4 - (lg_sl ([.ref q_h, .int a1, .int a2])).length) Slot.unset).toArray = ls at hl ⊢
  have hl : lv_has ls 4 [(0, .ref q_h), (1, .int a1), (2, .int a2)] := hl
  obtain ⟨H, hHe⟩ : ∃ H, H = s.heap := ⟨_, rfl⟩
  have hS : va_S A s.heap H [] := by rw [hHe]; exact hS
  have hP : va_P K.1 vwCl [(q_h, .inr (6, [.ref q_h_now, g_h_kept, g_h_thought, g_h_reader, g_h_speaker, g_h_sheets, g_h_warmUnchanged, .ref q_h_errors, g_h_images])), (q_h_now, .inr (4, [g_h_now_heat, .int v_now_doors, g_h_now_fed, g_h_now_wants, g_h_now_burnt, g_h_now_hour, g_h_now_houses, g_h_now_km, g_h_now_cell, g_h_now_warm, g_h_now_content, g_h_now_going, g_h_now_wanted, g_h_now_goes, g_h_now_tape, g_h_now_waiting, g_h_now_z])), (q_h_errors, .inl (K.2.2.1, 6, .inl v_errors))] H := by rw [hHe]; exact hP
  refine vWH hHe ?_
  refine lv_iload_n hx hb dX7_door_0 rfl (lv_at hl 1 rfl) ?_
  refine vCalli (K := K) (wr := [(q_h, .inr (6, [.ref q_h_now, g_h_kept, g_h_thought, g_h_reader, g_h_speaker, g_h_sheets, g_h_warmUnchanged, .ref q_h_errors, g_h_images])), (q_h_now, .inr (4, [g_h_now_heat, .int v_now_doors, g_h_now_fed, g_h_now_wants, g_h_now_burnt, g_h_now_hour, g_h_now_houses, g_h_now_km, g_h_now_cell, g_h_now_warm, g_h_now_content, g_h_now_going, g_h_now_wanted, g_h_now_goes, g_h_now_tape, g_h_now_waiting, g_h_now_z])), (q_h_errors, .inl (K.2.2.1, 6, .inl v_errors))]) (w1 := (fun _ => [])) (va_runS (As := [.int a1]) (rest := []) ⟨hx, hb, hml, hown, hts⟩ (c_X7_isDoor l K  H.size a1 _ hw) (va_cwS 1 hts (vGoodS k_320 k_321 k_57 k_322) rfl rfl rfl (by decide +kernel) ⟨Nat.le_of_ble_eq_true rfl, Nat.le_of_ble_eq_true rfl⟩) ⟨vPre_blind, fun U hU hW => ⟨rfl, vPre_of hX hP hD hS [] rfl (by decide) U hU hW⟩⟩ rfl rfl hl.1 rfl (lv_room (Nat.le_of_ble_eq_true rfl)) dX7_door_1 ⟨Nat.zero_le _, Nat.zero_le _⟩) hX hP hD hS [] [0, 1, 2] rfl rfl (by decide) (by decide) (fun r_1 u H locs hw hP hD hS => ?_)
  have hP : va_P K.1 vwCl [(q_h, .inr (6, [.ref q_h_now, g_h_kept, g_h_thought, g_h_reader, g_h_speaker, g_h_sheets, g_h_warmUnchanged, .ref q_h_errors, g_h_images])), (q_h_now, .inr (4, [g_h_now_heat, .int v_now_doors, g_h_now_fed, g_h_now_wants, g_h_now_burnt, g_h_now_hour, g_h_now_houses, g_h_now_km, g_h_now_cell, g_h_now_warm, g_h_now_content, g_h_now_going, g_h_now_wanted, g_h_now_goes, g_h_now_tape, g_h_now_waiting, g_h_now_z])), (q_h_errors, .inl (K.2.2.1, 6, .inl v_errors))] H := hP.sub [0, 1, 2] rfl
  have hD : va_D A [(q_h, .inr (6, [.ref q_h_now, g_h_kept, g_h_thought, g_h_reader, g_h_speaker, g_h_sheets, g_h_warmUnchanged, .ref q_h_errors, g_h_images])), (q_h_now, .inr (4, [g_h_now_heat, .int v_now_doors, g_h_now_fed, g_h_now_wants, g_h_now_burnt, g_h_now_hour, g_h_now_houses, g_h_now_km, g_h_now_cell, g_h_now_warm, g_h_now_content, g_h_now_going, g_h_now_wanted, g_h_now_goes, g_h_now_tape, g_h_now_waiting, g_h_now_z])), (q_h_errors, .inl (K.2.2.1, 6, .inl v_errors))] := hD.sub [0, 1, 2] (by decide) rfl
  have hz_r_1 := hw.1
  have hw := hw.2
  refine lv_if_eq (tgt := 16) hx hb dX7_door_4 (by decide) (fun c_2 => ?_) (fun c_2 => ?_)
  · have hw := hw.1 c_2
    refine lv_aload_n hx hb dX7_door_16 rfl (lv_at hl 0 rfl) ?_
    refine lv_iconst (v := (1 : Int32)) hx hb dX7_door_17 (by decide) ?_
    refine vCalli (K := K) (wr := [(q_h_now, .inr (4, [g_h_now_heat, .int v_now_doors, g_h_now_fed, g_h_now_wants, g_h_now_burnt, g_h_now_hour, g_h_now_houses, g_h_now_km, g_h_now_cell, g_h_now_warm, g_h_now_content, g_h_now_going, g_h_now_wanted, g_h_now_goes, g_h_now_tape, g_h_now_waiting, g_h_now_z]))]) (w1 := (fun (u : (Nat → Int32)) => [(q_h, .inr (6, [(.ref q_h_now), g_h_kept, g_h_thought, g_h_reader, g_h_speaker, g_h_sheets, g_h_warmUnchanged, .ref q_h_errors, g_h_images])), (q_h_errors, .inl (K.2.2.1, 6, .inl u))])) (va_runV (As := [.int (1 : Int32)]) (rest := []) ⟨hx, hb, hml, hown, hts⟩ (c_X7_error l K q_h q_h_errors (.ref q_h_now) g_h_kept g_h_thought g_h_reader g_h_speaker g_h_sheets g_h_warmUnchanged g_h_images H.size (1 : Int32) v_errors _ hw) (cwV 1 hts (vGoodV k_303 k_305 k_0 k_57 k_306) rfl rfl rfl (by decide +kernel) ⟨Nat.le_of_ble_eq_true rfl, Nat.le_of_ble_eq_true rfl⟩) ⟨vPre_blind, va_recv hX.1 hP (ci := 6) (q0 := 0) rfl rfl, fun U hU hW => ⟨rfl, vPre_of hX hP hD hS [0, 2] rfl (by decide) U hU hW⟩⟩ rfl rfl hl.1 rfl (lv_room (Nat.le_of_ble_eq_true rfl)) dX7_door_18 ⟨Nat.zero_le _, Nat.zero_le _⟩) hX hP hD hS [0, 2] [1] rfl rfl (by decide) (by decide) (fun r_4 v_errors_3 H locs hw hP hD hS => ?_)
    have hP : va_P K.1 vwCl [(q_h, .inr (6, [.ref q_h_now, g_h_kept, g_h_thought, g_h_reader, g_h_speaker, g_h_sheets, g_h_warmUnchanged, .ref q_h_errors, g_h_images])), (q_h_now, .inr (4, [g_h_now_heat, .int v_now_doors, g_h_now_fed, g_h_now_wants, g_h_now_burnt, g_h_now_hour, g_h_now_houses, g_h_now_km, g_h_now_cell, g_h_now_warm, g_h_now_content, g_h_now_going, g_h_now_wanted, g_h_now_goes, g_h_now_tape, g_h_now_waiting, g_h_now_z])), (q_h_errors, .inl (K.2.2.1, 6, .inl v_errors_3))] H := hP.sub [1, 0, 2] rfl
    have hD : va_D A [(q_h, .inr (6, [.ref q_h_now, g_h_kept, g_h_thought, g_h_reader, g_h_speaker, g_h_sheets, g_h_warmUnchanged, .ref q_h_errors, g_h_images])), (q_h_now, .inr (4, [g_h_now_heat, .int v_now_doors, g_h_now_fed, g_h_now_wants, g_h_now_burnt, g_h_now_hour, g_h_now_houses, g_h_now_km, g_h_now_cell, g_h_now_warm, g_h_now_content, g_h_now_going, g_h_now_wanted, g_h_now_goes, g_h_now_tape, g_h_now_waiting, g_h_now_z])), (q_h_errors, .inl (K.2.2.1, 6, .inl v_errors_3))] := hD.sub [1, 0, 2] (by decide) rfl
    exact W.iret (v := r_4) hx hb hr (fun t ht hW => ⟨⟨r_4, (v_now_doors, v_errors_3), rfl, hw, by rw [ht]; exact hP, va_K.moved hW.alike hX.1, hD⟩, hS.F ht⟩) hS.2.2 dX7_door_21 hlocks
  · have hw := hw.2 c_2
    refine lv_iload_n hx hb dX7_door_7 rfl (lv_at hl 2 rfl) ?_
    refine lv_iconst (v := (0 : Int32)) hx hb dX7_door_8 (by decide) ?_
    refine lv_iconst (v := (1 : Int32)) hx hb dX7_door_9 (by decide) ?_
    refine vCalli (K := K) (wr := [(q_h, .inr (6, [.ref q_h_now, g_h_kept, g_h_thought, g_h_reader, g_h_speaker, g_h_sheets, g_h_warmUnchanged, .ref q_h_errors, g_h_images])), (q_h_now, .inr (4, [g_h_now_heat, .int v_now_doors, g_h_now_fed, g_h_now_wants, g_h_now_burnt, g_h_now_hour, g_h_now_houses, g_h_now_km, g_h_now_cell, g_h_now_warm, g_h_now_content, g_h_now_going, g_h_now_wanted, g_h_now_goes, g_h_now_tape, g_h_now_waiting, g_h_now_z])), (q_h_errors, .inl (K.2.2.1, 6, .inl v_errors))]) (w1 := (fun _ => [])) (va_runS (As := [.int a2, .int (0 : Int32), .int (1 : Int32)]) (rest := []) ⟨hx, hb, hml, hown, hts⟩ (c_X7_within l K  H.size a2 (0 : Int32) (1 : Int32) _ hw) (va_cwS 3 hts (vGoodS k_300 k_301 k_57 k_302) rfl rfl rfl (by decide +kernel) ⟨Nat.le_of_ble_eq_true rfl, Nat.le_of_ble_eq_true rfl⟩) ⟨vPre_blind, fun U hU hW => ⟨rfl, vPre_of hX hP hD hS [] rfl (by decide) U hU hW⟩⟩ rfl rfl hl.1 rfl (lv_room (Nat.le_of_ble_eq_true rfl)) dX7_door_10 ⟨Nat.zero_le _, Nat.zero_le _⟩) hX hP hD hS [] [0, 1, 2] rfl rfl (by decide) (by decide) (fun r_5 u H locs hw hP hD hS => ?_)
    have hP : va_P K.1 vwCl [(q_h, .inr (6, [.ref q_h_now, g_h_kept, g_h_thought, g_h_reader, g_h_speaker, g_h_sheets, g_h_warmUnchanged, .ref q_h_errors, g_h_images])), (q_h_now, .inr (4, [g_h_now_heat, .int v_now_doors, g_h_now_fed, g_h_now_wants, g_h_now_burnt, g_h_now_hour, g_h_now_houses, g_h_now_km, g_h_now_cell, g_h_now_warm, g_h_now_content, g_h_now_going, g_h_now_wanted, g_h_now_goes, g_h_now_tape, g_h_now_waiting, g_h_now_z])), (q_h_errors, .inl (K.2.2.1, 6, .inl v_errors))] H := hP.sub [0, 1, 2] rfl
    have hD : va_D A [(q_h, .inr (6, [.ref q_h_now, g_h_kept, g_h_thought, g_h_reader, g_h_speaker, g_h_sheets, g_h_warmUnchanged, .ref q_h_errors, g_h_images])), (q_h_now, .inr (4, [g_h_now_heat, .int v_now_doors, g_h_now_fed, g_h_now_wants, g_h_now_burnt, g_h_now_hour, g_h_now_houses, g_h_now_km, g_h_now_cell, g_h_now_warm, g_h_now_content, g_h_now_going, g_h_now_wanted, g_h_now_goes, g_h_now_tape, g_h_now_waiting, g_h_now_z])), (q_h_errors, .inl (K.2.2.1, 6, .inl v_errors))] := hD.sub [0, 1, 2] (by decide) rfl
    have hz_r_5 := hw.1
    have hw := hw.2
    refine lv_if_ne (tgt := 22) hx hb dX7_door_13 (by decide) (fun c_6 => ?_) (fun c_6 => ?_)
    · have hw := hw.2 c_6
      refine lv_aload_n hx hb dX7_door_22 rfl (lv_at hl 0 rfl) ?_
      refine va_get (D := K.1) (ci := 6) (v := .ref q_h_now) (C := RX7) (T := TX7) (N := 9) hx hb hts iwX7 hown hX.1 hP 0 rfl rfl 0 (by decide) (hts _ k_265) (fun _ h9 => h9) rfl dX7_door_23 ?_
      refine va_get (D := K.1) (ci := 4) (v := .int v_now_doors) (C := RX5) (T := TX5) (N := 17) hx hb hts iwX5 hown hX.1 hP 1 rfl rfl 1 (by decide) (hts _ k_135) (fun _ h9 => h9) rfl dX7_door_26 ?_
      refine lv_iload_n hx hb dX7_door_29 rfl (lv_at hl 1 rfl) ?_
      refine lv_ishr hx hb dX7_door_30 ?_
      refine lv_iconst (v := (1 : Int32)) hx hb dX7_door_31 (by decide) ?_
      refine lv_iand hx hb dX7_door_32 ?_
      refine lv_istore_n (lv' := [(3, .int ((v_now_doors >>> (a1 &&& 31)) &&& (1 : Int32))), (0, .ref q_h), (1, .int a1), (2, .int a2)]) hx hb dX7_door_33 rfl hl (by decide) rfl (fun ls hl => ?_)
      refine lv_iload_n hx hb dX7_door_34 rfl (lv_at hl 0 rfl) ?_
      refine lv_iload_n hx hb dX7_door_35 rfl (lv_at hl 3 rfl) ?_
      refine lv_icmp_eq (tgt := 54) hx hb dX7_door_36 (by decide) (fun c_7 => ?_) (fun c_7 => ?_)
      · have hw := hw.1 c_7
        refine lv_iload_n hx hb dX7_door_54 rfl (lv_at hl 0 rfl) ?_
        exact W.iret (v := ((v_now_doors >>> (a1 &&& 31)) &&& (1 : Int32))) hx hb hr (fun t ht hW => ⟨⟨((v_now_doors >>> (a1 &&& 31)) &&& (1 : Int32)), (v_now_doors, v_errors), rfl, hw, by rw [ht]; exact hP, va_K.moved hW.alike hX.1, hD⟩, hS.F ht⟩) hS.2.2 dX7_door_55 hlocks
      · have hw := hw.2 c_7
        refine lv_aload_n hx hb dX7_door_39 rfl (lv_at hl 1 rfl) ?_
        refine va_get (D := K.1) (ci := 6) (v := .ref q_h_now) (C := RX7) (T := TX7) (N := 9) hx hb hts iwX7 hown hX.1 hP 0 rfl rfl 0 (by decide) (hts _ k_265) (fun _ h9 => h9) rfl dX7_door_40 ?_
        refine lv_dup hx hb dX7_door_43 rfl ?_
        refine va_get (D := K.1) (ci := 4) (v := .int v_now_doors) (C := RX5) (T := TX5) (N := 17) hx hb hts iwX5 hown hX.1 hP 1 rfl rfl 1 (by decide) (hts _ k_135) (fun _ h9 => h9) rfl dX7_door_44 ?_
        refine lv_iconst (v := (1 : Int32)) hx hb dX7_door_47 (by decide) ?_
        refine lv_iload_n hx hb dX7_door_48 rfl (lv_at hl 2 rfl) ?_
        refine lv_ishl hx hb dX7_door_49 ?_
        refine lv_ixor hx hb dX7_door_50 ?_
        refine va_put (D := K.1) (ci := 4) (v := .int (v_now_doors ^^^ ((1 : Int32) <<< (a1 &&& 31)))) (ty := .int) (C := RX5) (T := TX5) (N := 17) hx hb hts iwX5 tyX5 tyX5_ok nmX5 hown hX.1 hP hD hS 1 rfl rfl 1 (by decide) (hts _ k_135) (fun _ h9 => h9) rfl (by decide +kernel) rfl rfl (Nat.le_of_ble_eq_true rfl) dX7_door_51 (fun H locs hP hD hS => ?_)
        have hP : va_P K.1 vwCl [(q_h, .inr (6, [.ref q_h_now, g_h_kept, g_h_thought, g_h_reader, g_h_speaker, g_h_sheets, g_h_warmUnchanged, .ref q_h_errors, g_h_images])), (q_h_now, .inr (4, [g_h_now_heat, .int (v_now_doors ^^^ ((1 : Int32) <<< (a1 &&& 31))), g_h_now_fed, g_h_now_wants, g_h_now_burnt, g_h_now_hour, g_h_now_houses, g_h_now_km, g_h_now_cell, g_h_now_warm, g_h_now_content, g_h_now_going, g_h_now_wanted, g_h_now_goes, g_h_now_tape, g_h_now_waiting, g_h_now_z])), (q_h_errors, .inl (K.2.2.1, 6, .inl v_errors))] H := hP
        have hD : va_D A [(q_h, .inr (6, [.ref q_h_now, g_h_kept, g_h_thought, g_h_reader, g_h_speaker, g_h_sheets, g_h_warmUnchanged, .ref q_h_errors, g_h_images])), (q_h_now, .inr (4, [g_h_now_heat, .int (v_now_doors ^^^ ((1 : Int32) <<< (a1 &&& 31))), g_h_now_fed, g_h_now_wants, g_h_now_burnt, g_h_now_hour, g_h_now_houses, g_h_now_km, g_h_now_cell, g_h_now_warm, g_h_now_content, g_h_now_going, g_h_now_wanted, g_h_now_goes, g_h_now_tape, g_h_now_waiting, g_h_now_z])), (q_h_errors, .inl (K.2.2.1, 6, .inl v_errors))] := hD
        refine lv_iload_n hx hb dX7_door_54 rfl (lv_at hl 0 rfl) ?_
        exact W.iret (v := ((v_now_doors >>> (a1 &&& 31)) &&& (1 : Int32))) hx hb hr (fun t ht hW => ⟨⟨((v_now_doors >>> (a1 &&& 31)) &&& (1 : Int32)), ((v_now_doors ^^^ ((1 : Int32) <<< (a1 &&& 31))), v_errors), rfl, hw, by rw [ht]; exact hP, va_K.moved hW.alike hX.1, hD⟩, hS.F ht⟩) hS.2.2 dX7_door_55 hlocks
    · have hw := hw.1 c_6
      refine lv_aload_n hx hb dX7_door_16 rfl (lv_at hl 0 rfl) ?_
      refine lv_iconst (v := (1 : Int32)) hx hb dX7_door_17 (by decide) ?_
      refine vCalli (K := K) (wr := [(q_h_now, .inr (4, [g_h_now_heat, .int v_now_doors, g_h_now_fed, g_h_now_wants, g_h_now_burnt, g_h_now_hour, g_h_now_houses, g_h_now_km, g_h_now_cell, g_h_now_warm, g_h_now_content, g_h_now_going, g_h_now_wanted, g_h_now_goes, g_h_now_tape, g_h_now_waiting, g_h_now_z]))]) (w1 := (fun (u : (Nat → Int32)) => [(q_h, .inr (6, [(.ref q_h_now), g_h_kept, g_h_thought, g_h_reader, g_h_speaker, g_h_sheets, g_h_warmUnchanged, .ref q_h_errors, g_h_images])), (q_h_errors, .inl (K.2.2.1, 6, .inl u))])) (va_runV (As := [.int (1 : Int32)]) (rest := []) ⟨hx, hb, hml, hown, hts⟩ (c_X7_error l K q_h q_h_errors (.ref q_h_now) g_h_kept g_h_thought g_h_reader g_h_speaker g_h_sheets g_h_warmUnchanged g_h_images H.size (1 : Int32) v_errors _ hw) (cwV 1 hts (vGoodV k_303 k_305 k_0 k_57 k_306) rfl rfl rfl (by decide +kernel) ⟨Nat.le_of_ble_eq_true rfl, Nat.le_of_ble_eq_true rfl⟩) ⟨vPre_blind, va_recv hX.1 hP (ci := 6) (q0 := 0) rfl rfl, fun U hU hW => ⟨rfl, vPre_of hX hP hD hS [0, 2] rfl (by decide) U hU hW⟩⟩ rfl rfl hl.1 rfl (lv_room (Nat.le_of_ble_eq_true rfl)) dX7_door_18 ⟨Nat.zero_le _, Nat.zero_le _⟩) hX hP hD hS [0, 2] [1] rfl rfl (by decide) (by decide) (fun r_9 v_errors_8 H locs hw hP hD hS => ?_)
      have hP : va_P K.1 vwCl [(q_h, .inr (6, [.ref q_h_now, g_h_kept, g_h_thought, g_h_reader, g_h_speaker, g_h_sheets, g_h_warmUnchanged, .ref q_h_errors, g_h_images])), (q_h_now, .inr (4, [g_h_now_heat, .int v_now_doors, g_h_now_fed, g_h_now_wants, g_h_now_burnt, g_h_now_hour, g_h_now_houses, g_h_now_km, g_h_now_cell, g_h_now_warm, g_h_now_content, g_h_now_going, g_h_now_wanted, g_h_now_goes, g_h_now_tape, g_h_now_waiting, g_h_now_z])), (q_h_errors, .inl (K.2.2.1, 6, .inl v_errors_8))] H := hP.sub [1, 0, 2] rfl
      have hD : va_D A [(q_h, .inr (6, [.ref q_h_now, g_h_kept, g_h_thought, g_h_reader, g_h_speaker, g_h_sheets, g_h_warmUnchanged, .ref q_h_errors, g_h_images])), (q_h_now, .inr (4, [g_h_now_heat, .int v_now_doors, g_h_now_fed, g_h_now_wants, g_h_now_burnt, g_h_now_hour, g_h_now_houses, g_h_now_km, g_h_now_cell, g_h_now_warm, g_h_now_content, g_h_now_going, g_h_now_wanted, g_h_now_goes, g_h_now_tape, g_h_now_waiting, g_h_now_z])), (q_h_errors, .inl (K.2.2.1, 6, .inl v_errors_8))] := hD.sub [1, 0, 2] (by decide) rfl
      exact W.iret (v := r_9) hx hb hr (fun t ht hW => ⟨⟨r_9, (v_now_doors, v_errors_8), rfl, hw, by rw [ht]; exact hP, va_K.moved hW.alike hX.1, hD⟩, hS.F ht⟩) hS.2.2 dX7_door_21 hlocks
/-! OvenRings.doorsNow()I -/
def wp_X7_doorsNow (v_now_doors : Int32) (post : Int32 → Prop) : Prop := post v_now_doors
abbrev rm_X7_doorsNow : Room := { frames := 0, cells := 0, slots := 0, locals := 0 }
abbrev Qc_X7_doorsNow (K : vGl) (q_h q_h_now : Nat)  (g_h_kept : Value) (g_h_thought : Value) (g_h_reader : Value) (g_h_speaker : Value) (g_h_sheets : Value) (g_h_warmUnchanged : Value) (g_h_errors : Value) (g_h_images : Value) (g_h_now_heat : Value) (g_h_now_fed : Value) (g_h_now_wants : Value) (g_h_now_burnt : Value) (g_h_now_hour : Value) (g_h_now_houses : Value) (g_h_now_km : Value) (g_h_now_cell : Value) (g_h_now_warm : Value) (g_h_now_content : Value) (g_h_now_going : Value) (g_h_now_wanted : Value) (g_h_now_goes : Value) (g_h_now_tape : Value) (g_h_now_waiting : Value) (g_h_now_z : Value) (v_now_doors : Int32) (post : Int32 → Prop) (A : Nat → Prop) : Array Value → State → Outcome → State → Prop := va_Qi (fun (r : Int32) (u : Unit) => post r ) (fun u t => vB K A [(q_h, .inr (6, [.ref q_h_now, g_h_kept, g_h_thought, g_h_reader, g_h_speaker, g_h_sheets, g_h_warmUnchanged, g_h_errors, g_h_images])), (q_h_now, .inr (4, [g_h_now_heat, .int v_now_doors, g_h_now_fed, g_h_now_wants, g_h_now_burnt, g_h_now_hour, g_h_now_houses, g_h_now_km, g_h_now_cell, g_h_now_warm, g_h_now_content, g_h_now_going, g_h_now_wanted, g_h_now_goes, g_h_now_tape, g_h_now_waiting, g_h_now_z]))] t) A
set_option maxHeartbeats 4000000 in
set_option maxRecDepth 100000 in
theorem c_X7_doorsNow (l : Launch) (K : vGl) (q_h q_h_now : Nat)  (g_h_kept : Value) (g_h_thought : Value) (g_h_reader : Value) (g_h_speaker : Value) (g_h_sheets : Value) (g_h_warmUnchanged : Value) (g_h_errors : Value) (g_h_images : Value) (g_h_now_heat : Value) (g_h_now_fed : Value) (g_h_now_wants : Value) (g_h_now_burnt : Value) (g_h_now_hour : Value) (g_h_now_houses : Value) (g_h_now_km : Value) (g_h_now_cell : Value) (g_h_now_warm : Value) (g_h_now_content : Value) (g_h_now_going : Value) (g_h_now_wanted : Value) (g_h_now_goes : Value) (g_h_now_tape : Value) (g_h_now_waiting : Value) (g_h_now_z : Value) (sz : Nat) (v_now_doors : Int32) (post : Int32 → Prop) (hw : wp_X7_doorsNow v_now_doors post) : Met l yX7_doorsNow (.code yX7_doorsNow cX7_doorsNow 1 (some .int) :: vT) rm_X7_doorsNow (va_Pc [.ref q_h] (vPre K [(q_h, .inr (6, [.ref q_h_now, g_h_kept, g_h_thought, g_h_reader, g_h_speaker, g_h_sheets, g_h_warmUnchanged, g_h_errors, g_h_images])), (q_h_now, .inr (4, [g_h_now_heat, .int v_now_doors, g_h_now_fed, g_h_now_wants, g_h_now_burnt, g_h_now_hour, g_h_now_houses, g_h_now_km, g_h_now_cell, g_h_now_warm, g_h_now_content, g_h_now_going, g_h_now_wanted, g_h_now_goes, g_h_now_tape, g_h_now_waiting, g_h_now_z]))] sz)) (Qc_X7_doorsNow K q_h q_h_now g_h_kept g_h_thought g_h_reader g_h_speaker g_h_sheets g_h_warmUnchanged g_h_errors g_h_images g_h_now_heat g_h_now_fed g_h_now_wants g_h_now_burnt g_h_now_hour g_h_now_houses g_h_now_km g_h_now_cell g_h_now_warm g_h_now_content g_h_now_going g_h_now_wanted g_h_now_goes g_h_now_tape g_h_now_waiting g_h_now_z v_now_doors post (va_A [(q_h, .inr (6, [.ref q_h_now, g_h_kept, g_h_thought, g_h_reader, g_h_speaker, g_h_sheets, g_h_warmUnchanged, g_h_errors, g_h_images])), (q_h_now, .inr (4, [g_h_now_heat, .int v_now_doors, g_h_now_fed, g_h_now_wants, g_h_now_burnt, g_h_now_hour, g_h_now_houses, g_h_now_km, g_h_now_cell, g_h_now_warm, g_h_now_content, g_h_now_going, g_h_now_wanted, g_h_now_goes, g_h_now_tape, g_h_now_waiting, g_h_now_z]))] sz)) 0 0 (va_A [(q_h, .inr (6, [.ref q_h_now, g_h_kept, g_h_thought, g_h_reader, g_h_speaker, g_h_sheets, g_h_warmUnchanged, g_h_errors, g_h_images])), (q_h_now, .inr (4, [g_h_now_heat, .int v_now_doors, g_h_now_fed, g_h_now_wants, g_h_now_burnt, g_h_now_hour, g_h_now_houses, g_h_now_km, g_h_now_cell, g_h_now_warm, g_h_now_content, g_h_now_going, g_h_now_wanted, g_h_now_goes, g_h_now_tape, g_h_now_waiting, g_h_now_z]))] sz) := by
  unfold wp_X7_doorsNow at hw
  refine Met.ofW (cc := cX7_doorsNow) (maxL := 1) (ret := (some .int)) (by decide) rfl ?_
  intro p e s m args below meth c s₁ B hml hv
  obtain ⟨rfl, hsz, hP, hK, hD0, hG, hR⟩ := hv
  have hx := B.exec
  have hb := B.bytes
  have hr := B.returns
  have hts : ∀ w ∈ vT, w.before _ s = true := fun w h => atoms_spec (ws := .code yX7_doorsNow cX7_doorsNow 1 (some .int) :: vT) B.pre w (List.mem_cons_of_mem _ h)
  have hown : s.vm.findClass RX7 = some m.cls := findClass_of_methodNamed B.named
  have hlocks := B.notSynchronized
  subst hsz
  have hD := hD0.self (sz := s.heap.size)
  show W p l e rm_X7_doorsNow s m _ below meth c s.heap [] 0 0 _ _
  generalize hAe : va_A [(q_h, .inr (6, [.ref q_h_now, g_h_kept, g_h_thought, g_h_reader, g_h_speaker, g_h_sheets, g_h_warmUnchanged, g_h_errors, g_h_images])), (q_h_now, .inr (4, [g_h_now_heat, .int v_now_doors, g_h_now_fed, g_h_now_wants, g_h_now_burnt, g_h_now_hour, g_h_now_houses, g_h_now_km, g_h_now_cell, g_h_now_warm, g_h_now_content, g_h_now_going, g_h_now_wanted, g_h_now_goes, g_h_now_tape, g_h_now_waiting, g_h_now_z]))] s.heap.size = A at hD hG ⊢
  have hX : vX K A s := ⟨hK, hG, hR, fun q h => by rw [← hAe]; exact Or.inr h⟩
  have hS : va_S A s.heap s.heap [] := va_S.rf
  have F : vFx p s m ([.ref q_h] : List Value).toArray meth c cX7_doorsNow RX7 1 (some .int) := ⟨hx, hb, hml, hown, hts, hr, hlocks⟩
  have hl := lv_entry ([.ref q_h]) (n := 1) (Nat.le_of_ble_eq_true rfl)
  rw [lg_entry_eq]
  generalize (lg_sl ([.ref q_h]) ++ List.replicate (1 - (lg_sl ([.ref q_h])).length) Slot.unset).toArray = ls at hl ⊢
  have hl : lv_has ls 1 [(0, .ref q_h)] := hl
  obtain ⟨H, hHe⟩ : ∃ H, H = s.heap := ⟨_, rfl⟩
  have hS : va_S A s.heap H [] := by rw [hHe]; exact hS
  have hP : va_P K.1 vwCl [(q_h, .inr (6, [.ref q_h_now, g_h_kept, g_h_thought, g_h_reader, g_h_speaker, g_h_sheets, g_h_warmUnchanged, g_h_errors, g_h_images])), (q_h_now, .inr (4, [g_h_now_heat, .int v_now_doors, g_h_now_fed, g_h_now_wants, g_h_now_burnt, g_h_now_hour, g_h_now_houses, g_h_now_km, g_h_now_cell, g_h_now_warm, g_h_now_content, g_h_now_going, g_h_now_wanted, g_h_now_goes, g_h_now_tape, g_h_now_waiting, g_h_now_z]))] H := by rw [hHe]; exact hP
  refine vWH hHe ?_
  refine lv_aload_n hx hb dX7_doorsNow_0 rfl (lv_at hl 0 rfl) ?_
  refine va_get (D := K.1) (ci := 6) (v := .ref q_h_now) (C := RX7) (T := TX7) (N := 9) hx hb hts iwX7 hown hX.1 hP 0 rfl rfl 0 (by decide) (hts _ k_265) (fun _ h9 => h9) rfl dX7_doorsNow_1 ?_
  refine va_get (D := K.1) (ci := 4) (v := .int v_now_doors) (C := RX5) (T := TX5) (N := 17) hx hb hts iwX5 hown hX.1 hP 1 rfl rfl 1 (by decide) (hts _ k_135) (fun _ h9 => h9) rfl dX7_doorsNow_4 ?_
  exact W.iret (v := v_now_doors) hx hb hr (fun t ht hW => ⟨⟨v_now_doors, (), rfl, hw, by rw [ht]; exact hP, va_K.moved hW.alike hX.1, hD⟩, hS.F ht⟩) hS.2.2 dX7_doorsNow_7 hlocks
/-! OvenRings.fire(II)I -/
def wp_X7_fire_b68 (a1 : Int32) (a2 : Int32)  (post : Int32 → Int32 → Int32 → Int32 → (Nat → Int32) → Prop) (v_now_fed : Int32) (v_now_wants : Int32) (v_now_burnt : Int32) (v_errors : Nat → Int32) : Prop := (a1 = (2 : Int32) → (wp_X7_within a2 (0 : Int32) (99999 : Int32) (fun r_6 => (r_6 = 0 → (wp_X7_error (1 : Int32) v_errors (fun r_9 v_errors_8 => post r_9 v_now_fed v_now_wants v_now_burnt v_errors_8))) ∧ (¬ r_6 = 0 → (post v_now_burnt v_now_fed v_now_wants a2 v_errors))))) ∧ (¬ a1 = (2 : Int32) → (wp_X7_error (1 : Int32) v_errors (fun r_5 v_errors_4 => post r_5 v_now_fed v_now_wants v_now_burnt v_errors_4)))
def wp_X7_fire (a1 : Int32) (a2 : Int32) (v_now_fed : Int32) (v_now_wants : Int32) (v_now_burnt : Int32) (v_errors : Nat → Int32) (post : Int32 → Int32 → Int32 → Int32 → (Nat → Int32) → Prop) : Prop := (a1 = 0 → (wp_X7_within a2 (0 : Int32) (99 : Int32) (fun r_12 => (r_12 = 0 → ((a1 = (1 : Int32) → (wp_X7_within a2 (0 : Int32) (9999 : Int32) (fun r_15 => (r_15 = 0 → (wp_X7_fire_b68 a1 a2 post v_now_fed v_now_wants v_now_burnt v_errors)) ∧ (¬ r_15 = 0 → (post v_now_wants v_now_fed a2 v_now_burnt v_errors))))) ∧ (¬ a1 = (1 : Int32) → (wp_X7_fire_b68 a1 a2 post v_now_fed v_now_wants v_now_burnt v_errors)))) ∧ (¬ r_12 = 0 → (post v_now_fed a2 v_now_wants v_now_burnt v_errors))))) ∧ (¬ a1 = 0 → ((a1 = (1 : Int32) → (wp_X7_within a2 (0 : Int32) (9999 : Int32) (fun r_10 => (r_10 = 0 → (wp_X7_fire_b68 a1 a2 post v_now_fed v_now_wants v_now_burnt v_errors)) ∧ (¬ r_10 = 0 → (post v_now_wants v_now_fed a2 v_now_burnt v_errors))))) ∧ (¬ a1 = (1 : Int32) → (wp_X7_fire_b68 a1 a2 post v_now_fed v_now_wants v_now_burnt v_errors))))
abbrev rm_X7_fire : Room := { frames := 1, cells := 0, slots := 0, locals := 22 }
abbrev Qc_X7_fire (K : vGl) (q_h q_h_now q_h_errors : Nat)  (g_h_kept : Value) (g_h_thought : Value) (g_h_reader : Value) (g_h_speaker : Value) (g_h_sheets : Value) (g_h_warmUnchanged : Value) (g_h_images : Value) (g_h_now_heat : Value) (g_h_now_doors : Value) (g_h_now_hour : Value) (g_h_now_houses : Value) (g_h_now_km : Value) (g_h_now_cell : Value) (g_h_now_warm : Value) (g_h_now_content : Value) (g_h_now_going : Value) (g_h_now_wanted : Value) (g_h_now_goes : Value) (g_h_now_tape : Value) (g_h_now_waiting : Value) (g_h_now_z : Value)  (post : Int32 → Int32 → Int32 → Int32 → (Nat → Int32) → Prop) (A : Nat → Prop) : Array Value → State → Outcome → State → Prop := va_Qi (fun (r : Int32) (u : Int32 × Int32 × Int32 × (Nat → Int32)) => post r u.1 u.2.1 u.2.2.1 u.2.2.2) (fun u t => vB K A [(q_h, .inr (6, [.ref q_h_now, g_h_kept, g_h_thought, g_h_reader, g_h_speaker, g_h_sheets, g_h_warmUnchanged, .ref q_h_errors, g_h_images])), (q_h_now, .inr (4, [g_h_now_heat, g_h_now_doors, .int u.1, .int u.2.1, .int u.2.2.1, g_h_now_hour, g_h_now_houses, g_h_now_km, g_h_now_cell, g_h_now_warm, g_h_now_content, g_h_now_going, g_h_now_wanted, g_h_now_goes, g_h_now_tape, g_h_now_waiting, g_h_now_z])), (q_h_errors, .inl (K.2.2.1, 6, .inl u.2.2.2))] t) A
set_option maxHeartbeats 4000000 in
set_option maxRecDepth 100000 in
theorem t_X7_fire_b68 {p : Program} {l : Launch} {e : Env} {s : State} {m : MethodId} {args : Array Value} {below : List Frame} {meth : Method} {c : Code} {A : Nat → Prop} {K : vGl} {q_h q_h_now q_h_errors : Nat} {g_h_kept : Value} {g_h_thought : Value} {g_h_reader : Value} {g_h_speaker : Value} {g_h_sheets : Value} {g_h_warmUnchanged : Value} {g_h_images : Value} {g_h_now_heat : Value} {g_h_now_doors : Value} {g_h_now_hour : Value} {g_h_now_houses : Value} {g_h_now_km : Value} {g_h_now_cell : Value} {g_h_now_warm : Value} {g_h_now_content : Value} {g_h_now_going : Value} {g_h_now_wanted : Value} {g_h_now_goes : Value} {g_h_now_tape : Value} {g_h_now_waiting : Value} {g_h_now_z : Value} {a1 : Int32} {a2 : Int32} {post : Int32 → Int32 → Int32 → Int32 → (Nat → Int32) → Prop} (F : vFx p s m args meth c cX7_fire RX7 4 (some .int)) (hX : vX K A s) : ∀ (v_now_fed : Int32) (v_now_wants : Int32) (v_now_burnt : Int32) (v_errors : Nat → Int32) (H : Heap) (locs : List Loc) (ls : Array Slot), wp_X7_fire_b68 a1 a2 post v_now_fed v_now_wants v_now_burnt v_errors → va_P K.1 vwCl [(q_h, .inr (6, [.ref q_h_now, g_h_kept, g_h_thought, g_h_reader, g_h_speaker, g_h_sheets, g_h_warmUnchanged, .ref q_h_errors, g_h_images])), (q_h_now, .inr (4, [g_h_now_heat, g_h_now_doors, .int v_now_fed, .int v_now_wants, .int v_now_burnt, g_h_now_hour, g_h_now_houses, g_h_now_km, g_h_now_cell, g_h_now_warm, g_h_now_content, g_h_now_going, g_h_now_wanted, g_h_now_goes, g_h_now_tape, g_h_now_waiting, g_h_now_z])), (q_h_errors, .inl (K.2.2.1, 6, .inl v_errors))] H → va_D A [(q_h, .inr (6, [.ref q_h_now, g_h_kept, g_h_thought, g_h_reader, g_h_speaker, g_h_sheets, g_h_warmUnchanged, .ref q_h_errors, g_h_images])), (q_h_now, .inr (4, [g_h_now_heat, g_h_now_doors, .int v_now_fed, .int v_now_wants, .int v_now_burnt, g_h_now_hour, g_h_now_houses, g_h_now_km, g_h_now_cell, g_h_now_warm, g_h_now_content, g_h_now_going, g_h_now_wanted, g_h_now_goes, g_h_now_tape, g_h_now_waiting, g_h_now_z])), (q_h_errors, .inl (K.2.2.1, 6, .inl v_errors))] → va_S A s.heap H locs → lv_has ls 4 [(0, .ref q_h), (1, .int a1), (2, .int a2)] → W p l e rm_X7_fire s m args below meth c H locs 0 0 (MQ below (Qc_X7_fire K q_h q_h_now q_h_errors g_h_kept g_h_thought g_h_reader g_h_speaker g_h_sheets g_h_warmUnchanged g_h_images g_h_now_heat g_h_now_doors g_h_now_hour g_h_now_houses g_h_now_km g_h_now_cell g_h_now_warm g_h_now_content g_h_now_going g_h_now_wanted g_h_now_goes g_h_now_tape g_h_now_waiting g_h_now_z post A) args s 0 0 A) (F0 m 68 ls []) := by
  obtain ⟨hx, hb, hml, hown, hts, hr, hlocks⟩ := id F
  intro v_now_fed v_now_wants v_now_burnt v_errors H locs ls hw hP hD hS hl
  unfold wp_X7_fire_b68 at hw
  refine lv_iload_n hx hb dX7_fire_68 rfl (lv_at hl 1 rfl) ?_
  refine lv_iconst (v := (2 : Int32)) hx hb dX7_fire_69 (by decide) ?_
  refine lv_icmp_ne (tgt := 102) hx hb dX7_fire_70 (by decide) (fun c_3 => ?_) (fun c_3 => ?_)
  · have hw := hw.2 c_3
    refine lv_aload_n hx hb dX7_fire_102 rfl (lv_at hl 0 rfl) ?_
    refine lv_iconst (v := (1 : Int32)) hx hb dX7_fire_103 (by decide) ?_
    refine vCalli (K := K) (wr := [(q_h_now, .inr (4, [g_h_now_heat, g_h_now_doors, .int v_now_fed, .int v_now_wants, .int v_now_burnt, g_h_now_hour, g_h_now_houses, g_h_now_km, g_h_now_cell, g_h_now_warm, g_h_now_content, g_h_now_going, g_h_now_wanted, g_h_now_goes, g_h_now_tape, g_h_now_waiting, g_h_now_z]))]) (w1 := (fun (u : (Nat → Int32)) => [(q_h, .inr (6, [(.ref q_h_now), g_h_kept, g_h_thought, g_h_reader, g_h_speaker, g_h_sheets, g_h_warmUnchanged, .ref q_h_errors, g_h_images])), (q_h_errors, .inl (K.2.2.1, 6, .inl u))])) (va_runV (As := [.int (1 : Int32)]) (rest := []) ⟨hx, hb, hml, hown, hts⟩ (c_X7_error l K q_h q_h_errors (.ref q_h_now) g_h_kept g_h_thought g_h_reader g_h_speaker g_h_sheets g_h_warmUnchanged g_h_images H.size (1 : Int32) v_errors _ hw) (cwV 1 hts (vGoodV k_303 k_305 k_0 k_57 k_306) rfl rfl rfl (by decide +kernel) ⟨Nat.le_of_ble_eq_true rfl, Nat.le_of_ble_eq_true rfl⟩) ⟨vPre_blind, va_recv hX.1 hP (ci := 6) (q0 := 0) rfl rfl, fun U hU hW => ⟨rfl, vPre_of hX hP hD hS [0, 2] rfl (by decide) U hU hW⟩⟩ rfl rfl hl.1 rfl (lv_room (Nat.le_of_ble_eq_true rfl)) dX7_fire_104 ⟨Nat.zero_le _, Nat.zero_le _⟩) hX hP hD hS [0, 2] [1] rfl rfl (by decide) (by decide) (fun r_5 v_errors_4 H locs hw hP hD hS => ?_)
    have hP : va_P K.1 vwCl [(q_h, .inr (6, [.ref q_h_now, g_h_kept, g_h_thought, g_h_reader, g_h_speaker, g_h_sheets, g_h_warmUnchanged, .ref q_h_errors, g_h_images])), (q_h_now, .inr (4, [g_h_now_heat, g_h_now_doors, .int v_now_fed, .int v_now_wants, .int v_now_burnt, g_h_now_hour, g_h_now_houses, g_h_now_km, g_h_now_cell, g_h_now_warm, g_h_now_content, g_h_now_going, g_h_now_wanted, g_h_now_goes, g_h_now_tape, g_h_now_waiting, g_h_now_z])), (q_h_errors, .inl (K.2.2.1, 6, .inl v_errors_4))] H := hP.sub [1, 0, 2] rfl
    have hD : va_D A [(q_h, .inr (6, [.ref q_h_now, g_h_kept, g_h_thought, g_h_reader, g_h_speaker, g_h_sheets, g_h_warmUnchanged, .ref q_h_errors, g_h_images])), (q_h_now, .inr (4, [g_h_now_heat, g_h_now_doors, .int v_now_fed, .int v_now_wants, .int v_now_burnt, g_h_now_hour, g_h_now_houses, g_h_now_km, g_h_now_cell, g_h_now_warm, g_h_now_content, g_h_now_going, g_h_now_wanted, g_h_now_goes, g_h_now_tape, g_h_now_waiting, g_h_now_z])), (q_h_errors, .inl (K.2.2.1, 6, .inl v_errors_4))] := hD.sub [1, 0, 2] (by decide) rfl
    refine lv_istore_n (lv' := [(3, .int r_5), (0, .ref q_h), (1, .int a1), (2, .int a2)]) hx hb dX7_fire_107 rfl hl (by decide) rfl (fun ls hl => ?_)
    refine lv_iload_n hx hb dX7_fire_108 rfl (lv_at hl 0 rfl) ?_
    exact W.iret (v := r_5) hx hb hr (fun t ht hW => ⟨⟨r_5, (v_now_fed, v_now_wants, v_now_burnt, v_errors_4), rfl, hw, by rw [ht]; exact hP, va_K.moved hW.alike hX.1, hD⟩, hS.F ht⟩) hS.2.2 dX7_fire_109 hlocks
  · have hw := hw.1 c_3
    refine lv_iload_n hx hb dX7_fire_73 rfl (lv_at hl 2 rfl) ?_
    refine lv_iconst (v := (0 : Int32)) hx hb dX7_fire_74 (by decide) ?_
    refine lv_ldc (v := (99999 : Int32)) hx hb hown (hts _ k_331) dX7_fire_75 ?_
    refine vCalli (K := K) (wr := [(q_h, .inr (6, [.ref q_h_now, g_h_kept, g_h_thought, g_h_reader, g_h_speaker, g_h_sheets, g_h_warmUnchanged, .ref q_h_errors, g_h_images])), (q_h_now, .inr (4, [g_h_now_heat, g_h_now_doors, .int v_now_fed, .int v_now_wants, .int v_now_burnt, g_h_now_hour, g_h_now_houses, g_h_now_km, g_h_now_cell, g_h_now_warm, g_h_now_content, g_h_now_going, g_h_now_wanted, g_h_now_goes, g_h_now_tape, g_h_now_waiting, g_h_now_z])), (q_h_errors, .inl (K.2.2.1, 6, .inl v_errors))]) (w1 := (fun _ => [])) (va_runS (As := [.int a2, .int (0 : Int32), .int (99999 : Int32)]) (rest := []) ⟨hx, hb, hml, hown, hts⟩ (c_X7_within l K  H.size a2 (0 : Int32) (99999 : Int32) _ hw) (va_cwS 3 hts (vGoodS k_300 k_301 k_57 k_302) rfl rfl rfl (by decide +kernel) ⟨Nat.le_of_ble_eq_true rfl, Nat.le_of_ble_eq_true rfl⟩) ⟨vPre_blind, fun U hU hW => ⟨rfl, vPre_of hX hP hD hS [] rfl (by decide) U hU hW⟩⟩ rfl rfl hl.1 rfl (lv_room (Nat.le_of_ble_eq_true rfl)) dX7_fire_77 ⟨Nat.zero_le _, Nat.zero_le _⟩) hX hP hD hS [] [0, 1, 2] rfl rfl (by decide) (by decide) (fun r_6 u H locs hw hP hD hS => ?_)
    have hP : va_P K.1 vwCl [(q_h, .inr (6, [.ref q_h_now, g_h_kept, g_h_thought, g_h_reader, g_h_speaker, g_h_sheets, g_h_warmUnchanged, .ref q_h_errors, g_h_images])), (q_h_now, .inr (4, [g_h_now_heat, g_h_now_doors, .int v_now_fed, .int v_now_wants, .int v_now_burnt, g_h_now_hour, g_h_now_houses, g_h_now_km, g_h_now_cell, g_h_now_warm, g_h_now_content, g_h_now_going, g_h_now_wanted, g_h_now_goes, g_h_now_tape, g_h_now_waiting, g_h_now_z])), (q_h_errors, .inl (K.2.2.1, 6, .inl v_errors))] H := hP.sub [0, 1, 2] rfl
    have hD : va_D A [(q_h, .inr (6, [.ref q_h_now, g_h_kept, g_h_thought, g_h_reader, g_h_speaker, g_h_sheets, g_h_warmUnchanged, .ref q_h_errors, g_h_images])), (q_h_now, .inr (4, [g_h_now_heat, g_h_now_doors, .int v_now_fed, .int v_now_wants, .int v_now_burnt, g_h_now_hour, g_h_now_houses, g_h_now_km, g_h_now_cell, g_h_now_warm, g_h_now_content, g_h_now_going, g_h_now_wanted, g_h_now_goes, g_h_now_tape, g_h_now_waiting, g_h_now_z])), (q_h_errors, .inl (K.2.2.1, 6, .inl v_errors))] := hD.sub [0, 1, 2] (by decide) rfl
    have hz_r_6 := hw.1
    have hw := hw.2
    refine lv_if_eq (tgt := 102) hx hb dX7_fire_80 (by decide) (fun c_7 => ?_) (fun c_7 => ?_)
    · have hw := hw.1 c_7
      refine lv_aload_n hx hb dX7_fire_102 rfl (lv_at hl 0 rfl) ?_
      refine lv_iconst (v := (1 : Int32)) hx hb dX7_fire_103 (by decide) ?_
      refine vCalli (K := K) (wr := [(q_h_now, .inr (4, [g_h_now_heat, g_h_now_doors, .int v_now_fed, .int v_now_wants, .int v_now_burnt, g_h_now_hour, g_h_now_houses, g_h_now_km, g_h_now_cell, g_h_now_warm, g_h_now_content, g_h_now_going, g_h_now_wanted, g_h_now_goes, g_h_now_tape, g_h_now_waiting, g_h_now_z]))]) (w1 := (fun (u : (Nat → Int32)) => [(q_h, .inr (6, [(.ref q_h_now), g_h_kept, g_h_thought, g_h_reader, g_h_speaker, g_h_sheets, g_h_warmUnchanged, .ref q_h_errors, g_h_images])), (q_h_errors, .inl (K.2.2.1, 6, .inl u))])) (va_runV (As := [.int (1 : Int32)]) (rest := []) ⟨hx, hb, hml, hown, hts⟩ (c_X7_error l K q_h q_h_errors (.ref q_h_now) g_h_kept g_h_thought g_h_reader g_h_speaker g_h_sheets g_h_warmUnchanged g_h_images H.size (1 : Int32) v_errors _ hw) (cwV 1 hts (vGoodV k_303 k_305 k_0 k_57 k_306) rfl rfl rfl (by decide +kernel) ⟨Nat.le_of_ble_eq_true rfl, Nat.le_of_ble_eq_true rfl⟩) ⟨vPre_blind, va_recv hX.1 hP (ci := 6) (q0 := 0) rfl rfl, fun U hU hW => ⟨rfl, vPre_of hX hP hD hS [0, 2] rfl (by decide) U hU hW⟩⟩ rfl rfl hl.1 rfl (lv_room (Nat.le_of_ble_eq_true rfl)) dX7_fire_104 ⟨Nat.zero_le _, Nat.zero_le _⟩) hX hP hD hS [0, 2] [1] rfl rfl (by decide) (by decide) (fun r_9 v_errors_8 H locs hw hP hD hS => ?_)
      have hP : va_P K.1 vwCl [(q_h, .inr (6, [.ref q_h_now, g_h_kept, g_h_thought, g_h_reader, g_h_speaker, g_h_sheets, g_h_warmUnchanged, .ref q_h_errors, g_h_images])), (q_h_now, .inr (4, [g_h_now_heat, g_h_now_doors, .int v_now_fed, .int v_now_wants, .int v_now_burnt, g_h_now_hour, g_h_now_houses, g_h_now_km, g_h_now_cell, g_h_now_warm, g_h_now_content, g_h_now_going, g_h_now_wanted, g_h_now_goes, g_h_now_tape, g_h_now_waiting, g_h_now_z])), (q_h_errors, .inl (K.2.2.1, 6, .inl v_errors_8))] H := hP.sub [1, 0, 2] rfl
      have hD : va_D A [(q_h, .inr (6, [.ref q_h_now, g_h_kept, g_h_thought, g_h_reader, g_h_speaker, g_h_sheets, g_h_warmUnchanged, .ref q_h_errors, g_h_images])), (q_h_now, .inr (4, [g_h_now_heat, g_h_now_doors, .int v_now_fed, .int v_now_wants, .int v_now_burnt, g_h_now_hour, g_h_now_houses, g_h_now_km, g_h_now_cell, g_h_now_warm, g_h_now_content, g_h_now_going, g_h_now_wanted, g_h_now_goes, g_h_now_tape, g_h_now_waiting, g_h_now_z])), (q_h_errors, .inl (K.2.2.1, 6, .inl v_errors_8))] := hD.sub [1, 0, 2] (by decide) rfl
      refine lv_istore_n (lv' := [(3, .int r_9), (0, .ref q_h), (1, .int a1), (2, .int a2)]) hx hb dX7_fire_107 rfl hl (by decide) rfl (fun ls hl => ?_)
      refine lv_iload_n hx hb dX7_fire_108 rfl (lv_at hl 0 rfl) ?_
      exact W.iret (v := r_9) hx hb hr (fun t ht hW => ⟨⟨r_9, (v_now_fed, v_now_wants, v_now_burnt, v_errors_8), rfl, hw, by rw [ht]; exact hP, va_K.moved hW.alike hX.1, hD⟩, hS.F ht⟩) hS.2.2 dX7_fire_109 hlocks
    · have hw := hw.2 c_7
      refine lv_aload_n hx hb dX7_fire_83 rfl (lv_at hl 0 rfl) ?_
      refine va_get (D := K.1) (ci := 6) (v := .ref q_h_now) (C := RX7) (T := TX7) (N := 9) hx hb hts iwX7 hown hX.1 hP 0 rfl rfl 0 (by decide) (hts _ k_265) (fun _ h9 => h9) rfl dX7_fire_84 ?_
      refine va_get (D := K.1) (ci := 4) (v := .int v_now_burnt) (C := RX5) (T := TX5) (N := 17) hx hb hts iwX5 hown hX.1 hP 1 rfl rfl 4 (by decide) (hts _ k_141) (fun _ h9 => h9) rfl dX7_fire_87 ?_
      refine lv_istore_n (lv' := [(3, .int v_now_burnt), (0, .ref q_h), (1, .int a1), (2, .int a2)]) hx hb dX7_fire_90 rfl hl (by decide) rfl (fun ls hl => ?_)
      refine lv_aload_n hx hb dX7_fire_91 rfl (lv_at hl 1 rfl) ?_
      refine va_get (D := K.1) (ci := 6) (v := .ref q_h_now) (C := RX7) (T := TX7) (N := 9) hx hb hts iwX7 hown hX.1 hP 0 rfl rfl 0 (by decide) (hts _ k_265) (fun _ h9 => h9) rfl dX7_fire_92 ?_
      refine lv_iload_n hx hb dX7_fire_95 rfl (lv_at hl 3 rfl) ?_
      refine va_put (D := K.1) (ci := 4) (v := .int a2) (ty := .int) (C := RX5) (T := TX5) (N := 17) hx hb hts iwX5 tyX5 tyX5_ok nmX5 hown hX.1 hP hD hS 1 rfl rfl 4 (by decide) (hts _ k_141) (fun _ h9 => h9) rfl (by decide +kernel) rfl rfl (Nat.le_of_ble_eq_true rfl) dX7_fire_96 (fun H locs hP hD hS => ?_)
      have hP : va_P K.1 vwCl [(q_h, .inr (6, [.ref q_h_now, g_h_kept, g_h_thought, g_h_reader, g_h_speaker, g_h_sheets, g_h_warmUnchanged, .ref q_h_errors, g_h_images])), (q_h_now, .inr (4, [g_h_now_heat, g_h_now_doors, .int v_now_fed, .int v_now_wants, .int a2, g_h_now_hour, g_h_now_houses, g_h_now_km, g_h_now_cell, g_h_now_warm, g_h_now_content, g_h_now_going, g_h_now_wanted, g_h_now_goes, g_h_now_tape, g_h_now_waiting, g_h_now_z])), (q_h_errors, .inl (K.2.2.1, 6, .inl v_errors))] H := hP
      have hD : va_D A [(q_h, .inr (6, [.ref q_h_now, g_h_kept, g_h_thought, g_h_reader, g_h_speaker, g_h_sheets, g_h_warmUnchanged, .ref q_h_errors, g_h_images])), (q_h_now, .inr (4, [g_h_now_heat, g_h_now_doors, .int v_now_fed, .int v_now_wants, .int a2, g_h_now_hour, g_h_now_houses, g_h_now_km, g_h_now_cell, g_h_now_warm, g_h_now_content, g_h_now_going, g_h_now_wanted, g_h_now_goes, g_h_now_tape, g_h_now_waiting, g_h_now_z])), (q_h_errors, .inl (K.2.2.1, 6, .inl v_errors))] := hD
      refine lv_goto (tgt := 108) hx hb dX7_fire_99 (by decide) ?_
      refine lv_iload_n hx hb dX7_fire_108 rfl (lv_at hl 0 rfl) ?_
      exact W.iret (v := v_now_burnt) hx hb hr (fun t ht hW => ⟨⟨v_now_burnt, (v_now_fed, v_now_wants, a2, v_errors), rfl, hw, by rw [ht]; exact hP, va_K.moved hW.alike hX.1, hD⟩, hS.F ht⟩) hS.2.2 dX7_fire_109 hlocks
set_option maxHeartbeats 4000000 in
set_option maxRecDepth 100000 in
theorem c_X7_fire (l : Launch) (K : vGl) (q_h q_h_now q_h_errors : Nat)  (g_h_kept : Value) (g_h_thought : Value) (g_h_reader : Value) (g_h_speaker : Value) (g_h_sheets : Value) (g_h_warmUnchanged : Value) (g_h_images : Value) (g_h_now_heat : Value) (g_h_now_doors : Value) (g_h_now_hour : Value) (g_h_now_houses : Value) (g_h_now_km : Value) (g_h_now_cell : Value) (g_h_now_warm : Value) (g_h_now_content : Value) (g_h_now_going : Value) (g_h_now_wanted : Value) (g_h_now_goes : Value) (g_h_now_tape : Value) (g_h_now_waiting : Value) (g_h_now_z : Value) (sz : Nat) (a1 : Int32) (a2 : Int32) (v_now_fed : Int32) (v_now_wants : Int32) (v_now_burnt : Int32) (v_errors : Nat → Int32) (post : Int32 → Int32 → Int32 → Int32 → (Nat → Int32) → Prop) (hw : wp_X7_fire a1 a2 v_now_fed v_now_wants v_now_burnt v_errors post) : Met l yX7_fire (.code yX7_fire cX7_fire 4 (some .int) :: vT) rm_X7_fire (va_Pc [.ref q_h, .int a1, .int a2] (vPre K [(q_h, .inr (6, [.ref q_h_now, g_h_kept, g_h_thought, g_h_reader, g_h_speaker, g_h_sheets, g_h_warmUnchanged, .ref q_h_errors, g_h_images])), (q_h_now, .inr (4, [g_h_now_heat, g_h_now_doors, .int v_now_fed, .int v_now_wants, .int v_now_burnt, g_h_now_hour, g_h_now_houses, g_h_now_km, g_h_now_cell, g_h_now_warm, g_h_now_content, g_h_now_going, g_h_now_wanted, g_h_now_goes, g_h_now_tape, g_h_now_waiting, g_h_now_z])), (q_h_errors, .inl (K.2.2.1, 6, .inl v_errors))] sz)) (Qc_X7_fire K q_h q_h_now q_h_errors g_h_kept g_h_thought g_h_reader g_h_speaker g_h_sheets g_h_warmUnchanged g_h_images g_h_now_heat g_h_now_doors g_h_now_hour g_h_now_houses g_h_now_km g_h_now_cell g_h_now_warm g_h_now_content g_h_now_going g_h_now_wanted g_h_now_goes g_h_now_tape g_h_now_waiting g_h_now_z post (va_A [(q_h, .inr (6, [.ref q_h_now, g_h_kept, g_h_thought, g_h_reader, g_h_speaker, g_h_sheets, g_h_warmUnchanged, .ref q_h_errors, g_h_images])), (q_h_now, .inr (4, [g_h_now_heat, g_h_now_doors, .int v_now_fed, .int v_now_wants, .int v_now_burnt, g_h_now_hour, g_h_now_houses, g_h_now_km, g_h_now_cell, g_h_now_warm, g_h_now_content, g_h_now_going, g_h_now_wanted, g_h_now_goes, g_h_now_tape, g_h_now_waiting, g_h_now_z])), (q_h_errors, .inl (K.2.2.1, 6, .inl v_errors))] sz)) 0 0 (va_A [(q_h, .inr (6, [.ref q_h_now, g_h_kept, g_h_thought, g_h_reader, g_h_speaker, g_h_sheets, g_h_warmUnchanged, .ref q_h_errors, g_h_images])), (q_h_now, .inr (4, [g_h_now_heat, g_h_now_doors, .int v_now_fed, .int v_now_wants, .int v_now_burnt, g_h_now_hour, g_h_now_houses, g_h_now_km, g_h_now_cell, g_h_now_warm, g_h_now_content, g_h_now_going, g_h_now_wanted, g_h_now_goes, g_h_now_tape, g_h_now_waiting, g_h_now_z])), (q_h_errors, .inl (K.2.2.1, 6, .inl v_errors))] sz) := by
  unfold wp_X7_fire at hw
  refine Met.ofW (cc := cX7_fire) (maxL := 4) (ret := (some .int)) (by decide) rfl ?_
  intro p e s m args below meth c s₁ B hml hv
  obtain ⟨rfl, hsz, hP, hK, hD0, hG, hR⟩ := hv
  have hx := B.exec
  have hb := B.bytes
  have hr := B.returns
  have hts : ∀ w ∈ vT, w.before _ s = true := fun w h => atoms_spec (ws := .code yX7_fire cX7_fire 4 (some .int) :: vT) B.pre w (List.mem_cons_of_mem _ h)
  have hown : s.vm.findClass RX7 = some m.cls := findClass_of_methodNamed B.named
  have hlocks := B.notSynchronized
  subst hsz
  have hD := hD0.self (sz := s.heap.size)
  show W p l e rm_X7_fire s m _ below meth c s.heap [] 0 0 _ _
  generalize hAe : va_A [(q_h, .inr (6, [.ref q_h_now, g_h_kept, g_h_thought, g_h_reader, g_h_speaker, g_h_sheets, g_h_warmUnchanged, .ref q_h_errors, g_h_images])), (q_h_now, .inr (4, [g_h_now_heat, g_h_now_doors, .int v_now_fed, .int v_now_wants, .int v_now_burnt, g_h_now_hour, g_h_now_houses, g_h_now_km, g_h_now_cell, g_h_now_warm, g_h_now_content, g_h_now_going, g_h_now_wanted, g_h_now_goes, g_h_now_tape, g_h_now_waiting, g_h_now_z])), (q_h_errors, .inl (K.2.2.1, 6, .inl v_errors))] s.heap.size = A at hD hG ⊢
  have hX : vX K A s := ⟨hK, hG, hR, fun q h => by rw [← hAe]; exact Or.inr h⟩
  have hS : va_S A s.heap s.heap [] := va_S.rf
  have F : vFx p s m ([.ref q_h, .int a1, .int a2] : List Value).toArray meth c cX7_fire RX7 4 (some .int) := ⟨hx, hb, hml, hown, hts, hr, hlocks⟩
  have hl := lv_entry ([.ref q_h, .int a1, .int a2]) (n := 4) (Nat.le_of_ble_eq_true rfl)
  rw [lg_entry_eq]
  generalize (lg_sl ([.ref q_h, .int a1, .int a2]) ++ List.replicate (4 - (lg_sl ([.ref q_h, .int a1, .int a2])).length) Slot.unset).toArray = ls at hl ⊢
  have hl : lv_has ls 4 [(0, .ref q_h), (1, .int a1), (2, .int a2)] := hl
  obtain ⟨H, hHe⟩ : ∃ H, H = s.heap := ⟨_, rfl⟩
  have hS : va_S A s.heap H [] := by rw [hHe]; exact hS
  have hP : va_P K.1 vwCl [(q_h, .inr (6, [.ref q_h_now, g_h_kept, g_h_thought, g_h_reader, g_h_speaker, g_h_sheets, g_h_warmUnchanged, .ref q_h_errors, g_h_images])), (q_h_now, .inr (4, [g_h_now_heat, g_h_now_doors, .int v_now_fed, .int v_now_wants, .int v_now_burnt, g_h_now_hour, g_h_now_houses, g_h_now_km, g_h_now_cell, g_h_now_warm, g_h_now_content, g_h_now_going, g_h_now_wanted, g_h_now_goes, g_h_now_tape, g_h_now_waiting, g_h_now_z])), (q_h_errors, .inl (K.2.2.1, 6, .inl v_errors))] H := by rw [hHe]; exact hP
  refine vWH hHe ?_
  refine lv_iload_n hx hb dX7_fire_0 rfl (lv_at hl 1 rfl) ?_
  refine lv_if_ne (tgt := 33) hx hb dX7_fire_1 (by decide) (fun c_1 => ?_) (fun c_1 => ?_)
  · have hw := hw.2 c_1
    refine lv_iload_n hx hb dX7_fire_33 rfl (lv_at hl 1 rfl) ?_
    refine lv_iconst (v := (1 : Int32)) hx hb dX7_fire_34 (by decide) ?_
    refine lv_icmp_ne (tgt := 68) hx hb dX7_fire_35 (by decide) (fun c_2 => ?_) (fun c_2 => ?_)
    · have hw := hw.2 c_2
      exact t_X7_fire_b68 F hX _ _ _ _ _ _ _ hw hP hD hS (lv_sub hl [0, 1, 2] rfl)
    · have hw := hw.1 c_2
      refine lv_iload_n hx hb dX7_fire_38 rfl (lv_at hl 2 rfl) ?_
      refine lv_iconst (v := (0 : Int32)) hx hb dX7_fire_39 (by decide) ?_
      refine lv_sipush (v := (9999 : Int32)) hx hb dX7_fire_40 (by decide) ?_
      refine vCalli (K := K) (wr := [(q_h, .inr (6, [.ref q_h_now, g_h_kept, g_h_thought, g_h_reader, g_h_speaker, g_h_sheets, g_h_warmUnchanged, .ref q_h_errors, g_h_images])), (q_h_now, .inr (4, [g_h_now_heat, g_h_now_doors, .int v_now_fed, .int v_now_wants, .int v_now_burnt, g_h_now_hour, g_h_now_houses, g_h_now_km, g_h_now_cell, g_h_now_warm, g_h_now_content, g_h_now_going, g_h_now_wanted, g_h_now_goes, g_h_now_tape, g_h_now_waiting, g_h_now_z])), (q_h_errors, .inl (K.2.2.1, 6, .inl v_errors))]) (w1 := (fun _ => [])) (va_runS (As := [.int a2, .int (0 : Int32), .int (9999 : Int32)]) (rest := []) ⟨hx, hb, hml, hown, hts⟩ (c_X7_within l K  H.size a2 (0 : Int32) (9999 : Int32) _ hw) (va_cwS 3 hts (vGoodS k_300 k_301 k_57 k_302) rfl rfl rfl (by decide +kernel) ⟨Nat.le_of_ble_eq_true rfl, Nat.le_of_ble_eq_true rfl⟩) ⟨vPre_blind, fun U hU hW => ⟨rfl, vPre_of hX hP hD hS [] rfl (by decide) U hU hW⟩⟩ rfl rfl hl.1 rfl (lv_room (Nat.le_of_ble_eq_true rfl)) dX7_fire_43 ⟨Nat.zero_le _, Nat.zero_le _⟩) hX hP hD hS [] [0, 1, 2] rfl rfl (by decide) (by decide) (fun r_10 u H locs hw hP hD hS => ?_)
      have hP : va_P K.1 vwCl [(q_h, .inr (6, [.ref q_h_now, g_h_kept, g_h_thought, g_h_reader, g_h_speaker, g_h_sheets, g_h_warmUnchanged, .ref q_h_errors, g_h_images])), (q_h_now, .inr (4, [g_h_now_heat, g_h_now_doors, .int v_now_fed, .int v_now_wants, .int v_now_burnt, g_h_now_hour, g_h_now_houses, g_h_now_km, g_h_now_cell, g_h_now_warm, g_h_now_content, g_h_now_going, g_h_now_wanted, g_h_now_goes, g_h_now_tape, g_h_now_waiting, g_h_now_z])), (q_h_errors, .inl (K.2.2.1, 6, .inl v_errors))] H := hP.sub [0, 1, 2] rfl
      have hD : va_D A [(q_h, .inr (6, [.ref q_h_now, g_h_kept, g_h_thought, g_h_reader, g_h_speaker, g_h_sheets, g_h_warmUnchanged, .ref q_h_errors, g_h_images])), (q_h_now, .inr (4, [g_h_now_heat, g_h_now_doors, .int v_now_fed, .int v_now_wants, .int v_now_burnt, g_h_now_hour, g_h_now_houses, g_h_now_km, g_h_now_cell, g_h_now_warm, g_h_now_content, g_h_now_going, g_h_now_wanted, g_h_now_goes, g_h_now_tape, g_h_now_waiting, g_h_now_z])), (q_h_errors, .inl (K.2.2.1, 6, .inl v_errors))] := hD.sub [0, 1, 2] (by decide) rfl
      have hz_r_10 := hw.1
      have hw := hw.2
      refine lv_if_eq (tgt := 68) hx hb dX7_fire_46 (by decide) (fun c_11 => ?_) (fun c_11 => ?_)
      · have hw := hw.1 c_11
        exact t_X7_fire_b68 F hX _ _ _ _ _ _ _ hw hP hD hS (lv_sub hl [0, 1, 2] rfl)
      · have hw := hw.2 c_11
        refine lv_aload_n hx hb dX7_fire_49 rfl (lv_at hl 0 rfl) ?_
        refine va_get (D := K.1) (ci := 6) (v := .ref q_h_now) (C := RX7) (T := TX7) (N := 9) hx hb hts iwX7 hown hX.1 hP 0 rfl rfl 0 (by decide) (hts _ k_265) (fun _ h9 => h9) rfl dX7_fire_50 ?_
        refine va_get (D := K.1) (ci := 4) (v := .int v_now_wants) (C := RX5) (T := TX5) (N := 17) hx hb hts iwX5 hown hX.1 hP 1 rfl rfl 3 (by decide) (hts _ k_139) (fun _ h9 => h9) rfl dX7_fire_53 ?_
        refine lv_istore_n (lv' := [(3, .int v_now_wants), (0, .ref q_h), (1, .int a1), (2, .int a2)]) hx hb dX7_fire_56 rfl hl (by decide) rfl (fun ls hl => ?_)
        refine lv_aload_n hx hb dX7_fire_57 rfl (lv_at hl 1 rfl) ?_
        refine va_get (D := K.1) (ci := 6) (v := .ref q_h_now) (C := RX7) (T := TX7) (N := 9) hx hb hts iwX7 hown hX.1 hP 0 rfl rfl 0 (by decide) (hts _ k_265) (fun _ h9 => h9) rfl dX7_fire_58 ?_
        refine lv_iload_n hx hb dX7_fire_61 rfl (lv_at hl 3 rfl) ?_
        refine va_put (D := K.1) (ci := 4) (v := .int a2) (ty := .int) (C := RX5) (T := TX5) (N := 17) hx hb hts iwX5 tyX5 tyX5_ok nmX5 hown hX.1 hP hD hS 1 rfl rfl 3 (by decide) (hts _ k_139) (fun _ h9 => h9) rfl (by decide +kernel) rfl rfl (Nat.le_of_ble_eq_true rfl) dX7_fire_62 (fun H locs hP hD hS => ?_)
        have hP : va_P K.1 vwCl [(q_h, .inr (6, [.ref q_h_now, g_h_kept, g_h_thought, g_h_reader, g_h_speaker, g_h_sheets, g_h_warmUnchanged, .ref q_h_errors, g_h_images])), (q_h_now, .inr (4, [g_h_now_heat, g_h_now_doors, .int v_now_fed, .int a2, .int v_now_burnt, g_h_now_hour, g_h_now_houses, g_h_now_km, g_h_now_cell, g_h_now_warm, g_h_now_content, g_h_now_going, g_h_now_wanted, g_h_now_goes, g_h_now_tape, g_h_now_waiting, g_h_now_z])), (q_h_errors, .inl (K.2.2.1, 6, .inl v_errors))] H := hP
        have hD : va_D A [(q_h, .inr (6, [.ref q_h_now, g_h_kept, g_h_thought, g_h_reader, g_h_speaker, g_h_sheets, g_h_warmUnchanged, .ref q_h_errors, g_h_images])), (q_h_now, .inr (4, [g_h_now_heat, g_h_now_doors, .int v_now_fed, .int a2, .int v_now_burnt, g_h_now_hour, g_h_now_houses, g_h_now_km, g_h_now_cell, g_h_now_warm, g_h_now_content, g_h_now_going, g_h_now_wanted, g_h_now_goes, g_h_now_tape, g_h_now_waiting, g_h_now_z])), (q_h_errors, .inl (K.2.2.1, 6, .inl v_errors))] := hD
        refine lv_goto (tgt := 108) hx hb dX7_fire_65 (by decide) ?_
        refine lv_iload_n hx hb dX7_fire_108 rfl (lv_at hl 0 rfl) ?_
        exact W.iret (v := v_now_wants) hx hb hr (fun t ht hW => ⟨⟨v_now_wants, (v_now_fed, a2, v_now_burnt, v_errors), rfl, hw, by rw [ht]; exact hP, va_K.moved hW.alike hX.1, hD⟩, hS.F ht⟩) hS.2.2 dX7_fire_109 hlocks
  · have hw := hw.1 c_1
    refine lv_iload_n hx hb dX7_fire_4 rfl (lv_at hl 2 rfl) ?_
    refine lv_iconst (v := (0 : Int32)) hx hb dX7_fire_5 (by decide) ?_
    refine lv_bipush (v := (99 : Int32)) hx hb dX7_fire_6 (by decide) ?_
    refine vCalli (K := K) (wr := [(q_h, .inr (6, [.ref q_h_now, g_h_kept, g_h_thought, g_h_reader, g_h_speaker, g_h_sheets, g_h_warmUnchanged, .ref q_h_errors, g_h_images])), (q_h_now, .inr (4, [g_h_now_heat, g_h_now_doors, .int v_now_fed, .int v_now_wants, .int v_now_burnt, g_h_now_hour, g_h_now_houses, g_h_now_km, g_h_now_cell, g_h_now_warm, g_h_now_content, g_h_now_going, g_h_now_wanted, g_h_now_goes, g_h_now_tape, g_h_now_waiting, g_h_now_z])), (q_h_errors, .inl (K.2.2.1, 6, .inl v_errors))]) (w1 := (fun _ => [])) (va_runS (As := [.int a2, .int (0 : Int32), .int (99 : Int32)]) (rest := []) ⟨hx, hb, hml, hown, hts⟩ (c_X7_within l K  H.size a2 (0 : Int32) (99 : Int32) _ hw) (va_cwS 3 hts (vGoodS k_300 k_301 k_57 k_302) rfl rfl rfl (by decide +kernel) ⟨Nat.le_of_ble_eq_true rfl, Nat.le_of_ble_eq_true rfl⟩) ⟨vPre_blind, fun U hU hW => ⟨rfl, vPre_of hX hP hD hS [] rfl (by decide) U hU hW⟩⟩ rfl rfl hl.1 rfl (lv_room (Nat.le_of_ble_eq_true rfl)) dX7_fire_8 ⟨Nat.zero_le _, Nat.zero_le _⟩) hX hP hD hS [] [0, 1, 2] rfl rfl (by decide) (by decide) (fun r_12 u H locs hw hP hD hS => ?_)
    have hP : va_P K.1 vwCl [(q_h, .inr (6, [.ref q_h_now, g_h_kept, g_h_thought, g_h_reader, g_h_speaker, g_h_sheets, g_h_warmUnchanged, .ref q_h_errors, g_h_images])), (q_h_now, .inr (4, [g_h_now_heat, g_h_now_doors, .int v_now_fed, .int v_now_wants, .int v_now_burnt, g_h_now_hour, g_h_now_houses, g_h_now_km, g_h_now_cell, g_h_now_warm, g_h_now_content, g_h_now_going, g_h_now_wanted, g_h_now_goes, g_h_now_tape, g_h_now_waiting, g_h_now_z])), (q_h_errors, .inl (K.2.2.1, 6, .inl v_errors))] H := hP.sub [0, 1, 2] rfl
    have hD : va_D A [(q_h, .inr (6, [.ref q_h_now, g_h_kept, g_h_thought, g_h_reader, g_h_speaker, g_h_sheets, g_h_warmUnchanged, .ref q_h_errors, g_h_images])), (q_h_now, .inr (4, [g_h_now_heat, g_h_now_doors, .int v_now_fed, .int v_now_wants, .int v_now_burnt, g_h_now_hour, g_h_now_houses, g_h_now_km, g_h_now_cell, g_h_now_warm, g_h_now_content, g_h_now_going, g_h_now_wanted, g_h_now_goes, g_h_now_tape, g_h_now_waiting, g_h_now_z])), (q_h_errors, .inl (K.2.2.1, 6, .inl v_errors))] := hD.sub [0, 1, 2] (by decide) rfl
    have hz_r_12 := hw.1
    have hw := hw.2
    refine lv_if_eq (tgt := 33) hx hb dX7_fire_11 (by decide) (fun c_13 => ?_) (fun c_13 => ?_)
    · have hw := hw.1 c_13
      refine lv_iload_n hx hb dX7_fire_33 rfl (lv_at hl 1 rfl) ?_
      refine lv_iconst (v := (1 : Int32)) hx hb dX7_fire_34 (by decide) ?_
      refine lv_icmp_ne (tgt := 68) hx hb dX7_fire_35 (by decide) (fun c_14 => ?_) (fun c_14 => ?_)
      · have hw := hw.2 c_14
        exact t_X7_fire_b68 F hX _ _ _ _ _ _ _ hw hP hD hS (lv_sub hl [0, 1, 2] rfl)
      · have hw := hw.1 c_14
        refine lv_iload_n hx hb dX7_fire_38 rfl (lv_at hl 2 rfl) ?_
        refine lv_iconst (v := (0 : Int32)) hx hb dX7_fire_39 (by decide) ?_
        refine lv_sipush (v := (9999 : Int32)) hx hb dX7_fire_40 (by decide) ?_
        refine vCalli (K := K) (wr := [(q_h, .inr (6, [.ref q_h_now, g_h_kept, g_h_thought, g_h_reader, g_h_speaker, g_h_sheets, g_h_warmUnchanged, .ref q_h_errors, g_h_images])), (q_h_now, .inr (4, [g_h_now_heat, g_h_now_doors, .int v_now_fed, .int v_now_wants, .int v_now_burnt, g_h_now_hour, g_h_now_houses, g_h_now_km, g_h_now_cell, g_h_now_warm, g_h_now_content, g_h_now_going, g_h_now_wanted, g_h_now_goes, g_h_now_tape, g_h_now_waiting, g_h_now_z])), (q_h_errors, .inl (K.2.2.1, 6, .inl v_errors))]) (w1 := (fun _ => [])) (va_runS (As := [.int a2, .int (0 : Int32), .int (9999 : Int32)]) (rest := []) ⟨hx, hb, hml, hown, hts⟩ (c_X7_within l K  H.size a2 (0 : Int32) (9999 : Int32) _ hw) (va_cwS 3 hts (vGoodS k_300 k_301 k_57 k_302) rfl rfl rfl (by decide +kernel) ⟨Nat.le_of_ble_eq_true rfl, Nat.le_of_ble_eq_true rfl⟩) ⟨vPre_blind, fun U hU hW => ⟨rfl, vPre_of hX hP hD hS [] rfl (by decide) U hU hW⟩⟩ rfl rfl hl.1 rfl (lv_room (Nat.le_of_ble_eq_true rfl)) dX7_fire_43 ⟨Nat.zero_le _, Nat.zero_le _⟩) hX hP hD hS [] [0, 1, 2] rfl rfl (by decide) (by decide) (fun r_15 u H locs hw hP hD hS => ?_)
        have hP : va_P K.1 vwCl [(q_h, .inr (6, [.ref q_h_now, g_h_kept, g_h_thought, g_h_reader, g_h_speaker, g_h_sheets, g_h_warmUnchanged, .ref q_h_errors, g_h_images])), (q_h_now, .inr (4, [g_h_now_heat, g_h_now_doors, .int v_now_fed, .int v_now_wants, .int v_now_burnt, g_h_now_hour, g_h_now_houses, g_h_now_km, g_h_now_cell, g_h_now_warm, g_h_now_content, g_h_now_going, g_h_now_wanted, g_h_now_goes, g_h_now_tape, g_h_now_waiting, g_h_now_z])), (q_h_errors, .inl (K.2.2.1, 6, .inl v_errors))] H := hP.sub [0, 1, 2] rfl
        have hD : va_D A [(q_h, .inr (6, [.ref q_h_now, g_h_kept, g_h_thought, g_h_reader, g_h_speaker, g_h_sheets, g_h_warmUnchanged, .ref q_h_errors, g_h_images])), (q_h_now, .inr (4, [g_h_now_heat, g_h_now_doors, .int v_now_fed, .int v_now_wants, .int v_now_burnt, g_h_now_hour, g_h_now_houses, g_h_now_km, g_h_now_cell, g_h_now_warm, g_h_now_content, g_h_now_going, g_h_now_wanted, g_h_now_goes, g_h_now_tape, g_h_now_waiting, g_h_now_z])), (q_h_errors, .inl (K.2.2.1, 6, .inl v_errors))] := hD.sub [0, 1, 2] (by decide) rfl
        have hz_r_15 := hw.1
        have hw := hw.2
        refine lv_if_eq (tgt := 68) hx hb dX7_fire_46 (by decide) (fun c_16 => ?_) (fun c_16 => ?_)
        · have hw := hw.1 c_16
          exact t_X7_fire_b68 F hX _ _ _ _ _ _ _ hw hP hD hS (lv_sub hl [0, 1, 2] rfl)
        · have hw := hw.2 c_16
          refine lv_aload_n hx hb dX7_fire_49 rfl (lv_at hl 0 rfl) ?_
          refine va_get (D := K.1) (ci := 6) (v := .ref q_h_now) (C := RX7) (T := TX7) (N := 9) hx hb hts iwX7 hown hX.1 hP 0 rfl rfl 0 (by decide) (hts _ k_265) (fun _ h9 => h9) rfl dX7_fire_50 ?_
          refine va_get (D := K.1) (ci := 4) (v := .int v_now_wants) (C := RX5) (T := TX5) (N := 17) hx hb hts iwX5 hown hX.1 hP 1 rfl rfl 3 (by decide) (hts _ k_139) (fun _ h9 => h9) rfl dX7_fire_53 ?_
          refine lv_istore_n (lv' := [(3, .int v_now_wants), (0, .ref q_h), (1, .int a1), (2, .int a2)]) hx hb dX7_fire_56 rfl hl (by decide) rfl (fun ls hl => ?_)
          refine lv_aload_n hx hb dX7_fire_57 rfl (lv_at hl 1 rfl) ?_
          refine va_get (D := K.1) (ci := 6) (v := .ref q_h_now) (C := RX7) (T := TX7) (N := 9) hx hb hts iwX7 hown hX.1 hP 0 rfl rfl 0 (by decide) (hts _ k_265) (fun _ h9 => h9) rfl dX7_fire_58 ?_
          refine lv_iload_n hx hb dX7_fire_61 rfl (lv_at hl 3 rfl) ?_
          refine va_put (D := K.1) (ci := 4) (v := .int a2) (ty := .int) (C := RX5) (T := TX5) (N := 17) hx hb hts iwX5 tyX5 tyX5_ok nmX5 hown hX.1 hP hD hS 1 rfl rfl 3 (by decide) (hts _ k_139) (fun _ h9 => h9) rfl (by decide +kernel) rfl rfl (Nat.le_of_ble_eq_true rfl) dX7_fire_62 (fun H locs hP hD hS => ?_)
          have hP : va_P K.1 vwCl [(q_h, .inr (6, [.ref q_h_now, g_h_kept, g_h_thought, g_h_reader, g_h_speaker, g_h_sheets, g_h_warmUnchanged, .ref q_h_errors, g_h_images])), (q_h_now, .inr (4, [g_h_now_heat, g_h_now_doors, .int v_now_fed, .int a2, .int v_now_burnt, g_h_now_hour, g_h_now_houses, g_h_now_km, g_h_now_cell, g_h_now_warm, g_h_now_content, g_h_now_going, g_h_now_wanted, g_h_now_goes, g_h_now_tape, g_h_now_waiting, g_h_now_z])), (q_h_errors, .inl (K.2.2.1, 6, .inl v_errors))] H := hP
          have hD : va_D A [(q_h, .inr (6, [.ref q_h_now, g_h_kept, g_h_thought, g_h_reader, g_h_speaker, g_h_sheets, g_h_warmUnchanged, .ref q_h_errors, g_h_images])), (q_h_now, .inr (4, [g_h_now_heat, g_h_now_doors, .int v_now_fed, .int a2, .int v_now_burnt, g_h_now_hour, g_h_now_houses, g_h_now_km, g_h_now_cell, g_h_now_warm, g_h_now_content, g_h_now_going, g_h_now_wanted, g_h_now_goes, g_h_now_tape, g_h_now_waiting, g_h_now_z])), (q_h_errors, .inl (K.2.2.1, 6, .inl v_errors))] := hD
          refine lv_goto (tgt := 108) hx hb dX7_fire_65 (by decide) ?_
          refine lv_iload_n hx hb dX7_fire_108 rfl (lv_at hl 0 rfl) ?_
          exact W.iret (v := v_now_wants) hx hb hr (fun t ht hW => ⟨⟨v_now_wants, (v_now_fed, a2, v_now_burnt, v_errors), rfl, hw, by rw [ht]; exact hP, va_K.moved hW.alike hX.1, hD⟩, hS.F ht⟩) hS.2.2 dX7_fire_109 hlocks
    · have hw := hw.2 c_13
      refine lv_aload_n hx hb dX7_fire_14 rfl (lv_at hl 0 rfl) ?_
      refine va_get (D := K.1) (ci := 6) (v := .ref q_h_now) (C := RX7) (T := TX7) (N := 9) hx hb hts iwX7 hown hX.1 hP 0 rfl rfl 0 (by decide) (hts _ k_265) (fun _ h9 => h9) rfl dX7_fire_15 ?_
      refine va_get (D := K.1) (ci := 4) (v := .int v_now_fed) (C := RX5) (T := TX5) (N := 17) hx hb hts iwX5 hown hX.1 hP 1 rfl rfl 2 (by decide) (hts _ k_137) (fun _ h9 => h9) rfl dX7_fire_18 ?_
      refine lv_istore_n (lv' := [(3, .int v_now_fed), (0, .ref q_h), (1, .int a1), (2, .int a2)]) hx hb dX7_fire_21 rfl hl (by decide) rfl (fun ls hl => ?_)
      refine lv_aload_n hx hb dX7_fire_22 rfl (lv_at hl 1 rfl) ?_
      refine va_get (D := K.1) (ci := 6) (v := .ref q_h_now) (C := RX7) (T := TX7) (N := 9) hx hb hts iwX7 hown hX.1 hP 0 rfl rfl 0 (by decide) (hts _ k_265) (fun _ h9 => h9) rfl dX7_fire_23 ?_
      refine lv_iload_n hx hb dX7_fire_26 rfl (lv_at hl 3 rfl) ?_
      refine va_put (D := K.1) (ci := 4) (v := .int a2) (ty := .int) (C := RX5) (T := TX5) (N := 17) hx hb hts iwX5 tyX5 tyX5_ok nmX5 hown hX.1 hP hD hS 1 rfl rfl 2 (by decide) (hts _ k_137) (fun _ h9 => h9) rfl (by decide +kernel) rfl rfl (Nat.le_of_ble_eq_true rfl) dX7_fire_27 (fun H locs hP hD hS => ?_)
      have hP : va_P K.1 vwCl [(q_h, .inr (6, [.ref q_h_now, g_h_kept, g_h_thought, g_h_reader, g_h_speaker, g_h_sheets, g_h_warmUnchanged, .ref q_h_errors, g_h_images])), (q_h_now, .inr (4, [g_h_now_heat, g_h_now_doors, .int a2, .int v_now_wants, .int v_now_burnt, g_h_now_hour, g_h_now_houses, g_h_now_km, g_h_now_cell, g_h_now_warm, g_h_now_content, g_h_now_going, g_h_now_wanted, g_h_now_goes, g_h_now_tape, g_h_now_waiting, g_h_now_z])), (q_h_errors, .inl (K.2.2.1, 6, .inl v_errors))] H := hP
      have hD : va_D A [(q_h, .inr (6, [.ref q_h_now, g_h_kept, g_h_thought, g_h_reader, g_h_speaker, g_h_sheets, g_h_warmUnchanged, .ref q_h_errors, g_h_images])), (q_h_now, .inr (4, [g_h_now_heat, g_h_now_doors, .int a2, .int v_now_wants, .int v_now_burnt, g_h_now_hour, g_h_now_houses, g_h_now_km, g_h_now_cell, g_h_now_warm, g_h_now_content, g_h_now_going, g_h_now_wanted, g_h_now_goes, g_h_now_tape, g_h_now_waiting, g_h_now_z])), (q_h_errors, .inl (K.2.2.1, 6, .inl v_errors))] := hD
      refine lv_goto (tgt := 108) hx hb dX7_fire_30 (by decide) ?_
      refine lv_iload_n hx hb dX7_fire_108 rfl (lv_at hl 0 rfl) ?_
      exact W.iret (v := v_now_fed) hx hb hr (fun t ht hW => ⟨⟨v_now_fed, (a2, v_now_wants, v_now_burnt, v_errors), rfl, hw, by rw [ht]; exact hP, va_K.moved hW.alike hX.1, hD⟩, hS.F ht⟩) hS.2.2 dX7_fire_109 hlocks
/-! OvenRings.house(II)I -/
def wp_X7_house (a1 : Int32) (a2 : Int32) (v_now_houses : Int32) (v_errors : Nat → Int32) (v_now_km : Nat → Int32) (v_now_cell : Nat → Int32) (v_now_warm : Nat → Int32) (post : Int32 → Int32 → (Nat → Int32) → (Nat → Int32) → (Nat → Int32) → (Nat → Int32) → Prop) : Prop := wp_X7_within a1 (0 : Int32) (69 : Int32) (fun r_1 => (r_1 = 0 → (wp_X7_error (1 : Int32) v_errors (fun r_4 v_errors_3 => post r_4 v_now_houses v_errors_3 v_now_km v_now_cell v_now_warm))) ∧ (¬ r_1 = 0 → (wp_X7_isCell a2 (fun r_5 => (r_5 = 0 → (wp_X7_error (1 : Int32) v_errors (fun r_11 v_errors_10 => post r_11 v_now_houses v_errors_10 v_now_km v_now_cell v_now_warm))) ∧ (¬ r_5 = 0 → ((v_now_houses < (8 : Int32) → (vp_in v_now_houses 8 ∧ (vp_in v_now_houses 8 ∧ (vp_in v_now_houses 8 ∧ (post v_now_houses (v_now_houses + (1 : Int32)) v_errors (upd v_now_km v_now_houses.toNatClampNeg a1) (upd v_now_cell v_now_houses.toNatClampNeg a2) (upd v_now_warm v_now_houses.toNatClampNeg (0 : Int32))))))) ∧ (¬ v_now_houses < (8 : Int32) → (wp_X7_error (4 : Int32) v_errors (fun r_9 v_errors_8 => post r_9 v_now_houses v_errors_8 v_now_km v_now_cell v_now_warm)))))))))
abbrev rm_X7_house : Room := { frames := 2, cells := 0, slots := 0, locals := 42 }
abbrev Qc_X7_house (K : vGl) (q_h q_h_now q_h_errors q_h_now_km q_h_now_cell q_h_now_warm : Nat)  (g_h_kept : Value) (g_h_thought : Value) (g_h_reader : Value) (g_h_speaker : Value) (g_h_sheets : Value) (g_h_warmUnchanged : Value) (g_h_images : Value) (g_h_now_heat : Value) (g_h_now_doors : Value) (g_h_now_fed : Value) (g_h_now_wants : Value) (g_h_now_burnt : Value) (g_h_now_hour : Value) (g_h_now_content : Value) (g_h_now_going : Value) (g_h_now_wanted : Value) (g_h_now_goes : Value) (g_h_now_tape : Value) (g_h_now_waiting : Value) (g_h_now_z : Value)  (post : Int32 → Int32 → (Nat → Int32) → (Nat → Int32) → (Nat → Int32) → (Nat → Int32) → Prop) (A : Nat → Prop) : Array Value → State → Outcome → State → Prop := va_Qi (fun (r : Int32) (u : Int32 × (Nat → Int32) × (Nat → Int32) × (Nat → Int32) × (Nat → Int32)) => post r u.1 u.2.1 u.2.2.1 u.2.2.2.1 u.2.2.2.2) (fun u t => vB K A [(q_h, .inr (6, [.ref q_h_now, g_h_kept, g_h_thought, g_h_reader, g_h_speaker, g_h_sheets, g_h_warmUnchanged, .ref q_h_errors, g_h_images])), (q_h_now, .inr (4, [g_h_now_heat, g_h_now_doors, g_h_now_fed, g_h_now_wants, g_h_now_burnt, g_h_now_hour, .int u.1, .ref q_h_now_km, .ref q_h_now_cell, .ref q_h_now_warm, g_h_now_content, g_h_now_going, g_h_now_wanted, g_h_now_goes, g_h_now_tape, g_h_now_waiting, g_h_now_z])), (q_h_errors, .inl (K.2.2.1, 6, .inl u.2.1)), (q_h_now_km, .inl (K.2.2.1, 8, .inl u.2.2.1)), (q_h_now_cell, .inl (K.2.2.1, 8, .inl u.2.2.2.1)), (q_h_now_warm, .inl (K.2.2.1, 8, .inl u.2.2.2.2))] t) A
set_option maxHeartbeats 4000000 in
set_option maxRecDepth 100000 in
theorem c_X7_house (l : Launch) (K : vGl) (q_h q_h_now q_h_errors q_h_now_km q_h_now_cell q_h_now_warm : Nat)  (g_h_kept : Value) (g_h_thought : Value) (g_h_reader : Value) (g_h_speaker : Value) (g_h_sheets : Value) (g_h_warmUnchanged : Value) (g_h_images : Value) (g_h_now_heat : Value) (g_h_now_doors : Value) (g_h_now_fed : Value) (g_h_now_wants : Value) (g_h_now_burnt : Value) (g_h_now_hour : Value) (g_h_now_content : Value) (g_h_now_going : Value) (g_h_now_wanted : Value) (g_h_now_goes : Value) (g_h_now_tape : Value) (g_h_now_waiting : Value) (g_h_now_z : Value) (sz : Nat) (a1 : Int32) (a2 : Int32) (v_now_houses : Int32) (v_errors : Nat → Int32) (v_now_km : Nat → Int32) (v_now_cell : Nat → Int32) (v_now_warm : Nat → Int32) (post : Int32 → Int32 → (Nat → Int32) → (Nat → Int32) → (Nat → Int32) → (Nat → Int32) → Prop) (hw : wp_X7_house a1 a2 v_now_houses v_errors v_now_km v_now_cell v_now_warm post) : Met l yX7_house (.code yX7_house cX7_house 4 (some .int) :: vT) rm_X7_house (va_Pc [.ref q_h, .int a1, .int a2] (vPre K [(q_h, .inr (6, [.ref q_h_now, g_h_kept, g_h_thought, g_h_reader, g_h_speaker, g_h_sheets, g_h_warmUnchanged, .ref q_h_errors, g_h_images])), (q_h_now, .inr (4, [g_h_now_heat, g_h_now_doors, g_h_now_fed, g_h_now_wants, g_h_now_burnt, g_h_now_hour, .int v_now_houses, .ref q_h_now_km, .ref q_h_now_cell, .ref q_h_now_warm, g_h_now_content, g_h_now_going, g_h_now_wanted, g_h_now_goes, g_h_now_tape, g_h_now_waiting, g_h_now_z])), (q_h_errors, .inl (K.2.2.1, 6, .inl v_errors)), (q_h_now_km, .inl (K.2.2.1, 8, .inl v_now_km)), (q_h_now_cell, .inl (K.2.2.1, 8, .inl v_now_cell)), (q_h_now_warm, .inl (K.2.2.1, 8, .inl v_now_warm))] sz)) (Qc_X7_house K q_h q_h_now q_h_errors q_h_now_km q_h_now_cell q_h_now_warm g_h_kept g_h_thought g_h_reader g_h_speaker g_h_sheets g_h_warmUnchanged g_h_images g_h_now_heat g_h_now_doors g_h_now_fed g_h_now_wants g_h_now_burnt g_h_now_hour g_h_now_content g_h_now_going g_h_now_wanted g_h_now_goes g_h_now_tape g_h_now_waiting g_h_now_z post (va_A [(q_h, .inr (6, [.ref q_h_now, g_h_kept, g_h_thought, g_h_reader, g_h_speaker, g_h_sheets, g_h_warmUnchanged, .ref q_h_errors, g_h_images])), (q_h_now, .inr (4, [g_h_now_heat, g_h_now_doors, g_h_now_fed, g_h_now_wants, g_h_now_burnt, g_h_now_hour, .int v_now_houses, .ref q_h_now_km, .ref q_h_now_cell, .ref q_h_now_warm, g_h_now_content, g_h_now_going, g_h_now_wanted, g_h_now_goes, g_h_now_tape, g_h_now_waiting, g_h_now_z])), (q_h_errors, .inl (K.2.2.1, 6, .inl v_errors)), (q_h_now_km, .inl (K.2.2.1, 8, .inl v_now_km)), (q_h_now_cell, .inl (K.2.2.1, 8, .inl v_now_cell)), (q_h_now_warm, .inl (K.2.2.1, 8, .inl v_now_warm))] sz)) 0 0 (va_A [(q_h, .inr (6, [.ref q_h_now, g_h_kept, g_h_thought, g_h_reader, g_h_speaker, g_h_sheets, g_h_warmUnchanged, .ref q_h_errors, g_h_images])), (q_h_now, .inr (4, [g_h_now_heat, g_h_now_doors, g_h_now_fed, g_h_now_wants, g_h_now_burnt, g_h_now_hour, .int v_now_houses, .ref q_h_now_km, .ref q_h_now_cell, .ref q_h_now_warm, g_h_now_content, g_h_now_going, g_h_now_wanted, g_h_now_goes, g_h_now_tape, g_h_now_waiting, g_h_now_z])), (q_h_errors, .inl (K.2.2.1, 6, .inl v_errors)), (q_h_now_km, .inl (K.2.2.1, 8, .inl v_now_km)), (q_h_now_cell, .inl (K.2.2.1, 8, .inl v_now_cell)), (q_h_now_warm, .inl (K.2.2.1, 8, .inl v_now_warm))] sz) := by
  unfold wp_X7_house at hw
  refine Met.ofW (cc := cX7_house) (maxL := 4) (ret := (some .int)) (by decide) rfl ?_
  intro p e s m args below meth c s₁ B hml hv
  obtain ⟨rfl, hsz, hP, hK, hD0, hG, hR⟩ := hv
  have hx := B.exec
  have hb := B.bytes
  have hr := B.returns
  have hts : ∀ w ∈ vT, w.before _ s = true := fun w h => atoms_spec (ws := .code yX7_house cX7_house 4 (some .int) :: vT) B.pre w (List.mem_cons_of_mem _ h)
  have hown : s.vm.findClass RX7 = some m.cls := findClass_of_methodNamed B.named
  have hlocks := B.notSynchronized
  subst hsz
  have hD := hD0.self (sz := s.heap.size)
  show W p l e rm_X7_house s m _ below meth c s.heap [] 0 0 _ _
  generalize hAe : va_A [(q_h, .inr (6, [.ref q_h_now, g_h_kept, g_h_thought, g_h_reader, g_h_speaker, g_h_sheets, g_h_warmUnchanged, .ref q_h_errors, g_h_images])), (q_h_now, .inr (4, [g_h_now_heat, g_h_now_doors, g_h_now_fed, g_h_now_wants, g_h_now_burnt, g_h_now_hour, .int v_now_houses, .ref q_h_now_km, .ref q_h_now_cell, .ref q_h_now_warm, g_h_now_content, g_h_now_going, g_h_now_wanted, g_h_now_goes, g_h_now_tape, g_h_now_waiting, g_h_now_z])), (q_h_errors, .inl (K.2.2.1, 6, .inl v_errors)), (q_h_now_km, .inl (K.2.2.1, 8, .inl v_now_km)), (q_h_now_cell, .inl (K.2.2.1, 8, .inl v_now_cell)), (q_h_now_warm, .inl (K.2.2.1, 8, .inl v_now_warm))] s.heap.size = A at hD hG ⊢
  have hX : vX K A s := ⟨hK, hG, hR, fun q h => by rw [← hAe]; exact Or.inr h⟩
  have hS : va_S A s.heap s.heap [] := va_S.rf
  have F : vFx p s m ([.ref q_h, .int a1, .int a2] : List Value).toArray meth c cX7_house RX7 4 (some .int) := ⟨hx, hb, hml, hown, hts, hr, hlocks⟩
  have hl := lv_entry ([.ref q_h, .int a1, .int a2]) (n := 4) (Nat.le_of_ble_eq_true rfl)
  rw [lg_entry_eq]
  generalize (lg_sl ([.ref q_h, .int a1, .int a2]) ++ List.replicate (4 - (lg_sl ([.ref q_h, .int a1, .int a2])).length) Slot.unset).toArray = ls at hl ⊢
  have hl : lv_has ls 4 [(0, .ref q_h), (1, .int a1), (2, .int a2)] := hl
  obtain ⟨H, hHe⟩ : ∃ H, H = s.heap := ⟨_, rfl⟩
  have hS : va_S A s.heap H [] := by rw [hHe]; exact hS
  have hP : va_P K.1 vwCl [(q_h, .inr (6, [.ref q_h_now, g_h_kept, g_h_thought, g_h_reader, g_h_speaker, g_h_sheets, g_h_warmUnchanged, .ref q_h_errors, g_h_images])), (q_h_now, .inr (4, [g_h_now_heat, g_h_now_doors, g_h_now_fed, g_h_now_wants, g_h_now_burnt, g_h_now_hour, .int v_now_houses, .ref q_h_now_km, .ref q_h_now_cell, .ref q_h_now_warm, g_h_now_content, g_h_now_going, g_h_now_wanted, g_h_now_goes, g_h_now_tape, g_h_now_waiting, g_h_now_z])), (q_h_errors, .inl (K.2.2.1, 6, .inl v_errors)), (q_h_now_km, .inl (K.2.2.1, 8, .inl v_now_km)), (q_h_now_cell, .inl (K.2.2.1, 8, .inl v_now_cell)), (q_h_now_warm, .inl (K.2.2.1, 8, .inl v_now_warm))] H := by rw [hHe]; exact hP
  refine vWH hHe ?_
  refine lv_iload_n hx hb dX7_house_0 rfl (lv_at hl 1 rfl) ?_
  refine lv_iconst (v := (0 : Int32)) hx hb dX7_house_1 (by decide) ?_
  refine lv_bipush (v := (69 : Int32)) hx hb dX7_house_2 (by decide) ?_
  refine vCalli (K := K) (wr := [(q_h, .inr (6, [.ref q_h_now, g_h_kept, g_h_thought, g_h_reader, g_h_speaker, g_h_sheets, g_h_warmUnchanged, .ref q_h_errors, g_h_images])), (q_h_now, .inr (4, [g_h_now_heat, g_h_now_doors, g_h_now_fed, g_h_now_wants, g_h_now_burnt, g_h_now_hour, .int v_now_houses, .ref q_h_now_km, .ref q_h_now_cell, .ref q_h_now_warm, g_h_now_content, g_h_now_going, g_h_now_wanted, g_h_now_goes, g_h_now_tape, g_h_now_waiting, g_h_now_z])), (q_h_errors, .inl (K.2.2.1, 6, .inl v_errors)), (q_h_now_km, .inl (K.2.2.1, 8, .inl v_now_km)), (q_h_now_cell, .inl (K.2.2.1, 8, .inl v_now_cell)), (q_h_now_warm, .inl (K.2.2.1, 8, .inl v_now_warm))]) (w1 := (fun _ => [])) (va_runS (As := [.int a1, .int (0 : Int32), .int (69 : Int32)]) (rest := []) ⟨hx, hb, hml, hown, hts⟩ (c_X7_within l K  H.size a1 (0 : Int32) (69 : Int32) _ hw) (va_cwS 3 hts (vGoodS k_300 k_301 k_57 k_302) rfl rfl rfl (by decide +kernel) ⟨Nat.le_of_ble_eq_true rfl, Nat.le_of_ble_eq_true rfl⟩) ⟨vPre_blind, fun U hU hW => ⟨rfl, vPre_of hX hP hD hS [] rfl (by decide) U hU hW⟩⟩ rfl rfl hl.1 rfl (lv_room (Nat.le_of_ble_eq_true rfl)) dX7_house_4 ⟨Nat.zero_le _, Nat.zero_le _⟩) hX hP hD hS [] [0, 1, 2, 3, 4, 5] rfl rfl (by decide) (by decide) (fun r_1 u H locs hw hP hD hS => ?_)
  have hP : va_P K.1 vwCl [(q_h, .inr (6, [.ref q_h_now, g_h_kept, g_h_thought, g_h_reader, g_h_speaker, g_h_sheets, g_h_warmUnchanged, .ref q_h_errors, g_h_images])), (q_h_now, .inr (4, [g_h_now_heat, g_h_now_doors, g_h_now_fed, g_h_now_wants, g_h_now_burnt, g_h_now_hour, .int v_now_houses, .ref q_h_now_km, .ref q_h_now_cell, .ref q_h_now_warm, g_h_now_content, g_h_now_going, g_h_now_wanted, g_h_now_goes, g_h_now_tape, g_h_now_waiting, g_h_now_z])), (q_h_errors, .inl (K.2.2.1, 6, .inl v_errors)), (q_h_now_km, .inl (K.2.2.1, 8, .inl v_now_km)), (q_h_now_cell, .inl (K.2.2.1, 8, .inl v_now_cell)), (q_h_now_warm, .inl (K.2.2.1, 8, .inl v_now_warm))] H := hP.sub [0, 1, 2, 3, 4, 5] rfl
  have hD : va_D A [(q_h, .inr (6, [.ref q_h_now, g_h_kept, g_h_thought, g_h_reader, g_h_speaker, g_h_sheets, g_h_warmUnchanged, .ref q_h_errors, g_h_images])), (q_h_now, .inr (4, [g_h_now_heat, g_h_now_doors, g_h_now_fed, g_h_now_wants, g_h_now_burnt, g_h_now_hour, .int v_now_houses, .ref q_h_now_km, .ref q_h_now_cell, .ref q_h_now_warm, g_h_now_content, g_h_now_going, g_h_now_wanted, g_h_now_goes, g_h_now_tape, g_h_now_waiting, g_h_now_z])), (q_h_errors, .inl (K.2.2.1, 6, .inl v_errors)), (q_h_now_km, .inl (K.2.2.1, 8, .inl v_now_km)), (q_h_now_cell, .inl (K.2.2.1, 8, .inl v_now_cell)), (q_h_now_warm, .inl (K.2.2.1, 8, .inl v_now_warm))] := hD.sub [0, 1, 2, 3, 4, 5] (by decide) rfl
  have hz_r_1 := hw.1
  have hw := hw.2
  refine lv_if_eq (tgt := 17) hx hb dX7_house_7 (by decide) (fun c_2 => ?_) (fun c_2 => ?_)
  · have hw := hw.1 c_2
    refine lv_aload_n hx hb dX7_house_17 rfl (lv_at hl 0 rfl) ?_
    refine lv_iconst (v := (1 : Int32)) hx hb dX7_house_18 (by decide) ?_
    refine vCalli (K := K) (wr := [(q_h_now, .inr (4, [g_h_now_heat, g_h_now_doors, g_h_now_fed, g_h_now_wants, g_h_now_burnt, g_h_now_hour, .int v_now_houses, .ref q_h_now_km, .ref q_h_now_cell, .ref q_h_now_warm, g_h_now_content, g_h_now_going, g_h_now_wanted, g_h_now_goes, g_h_now_tape, g_h_now_waiting, g_h_now_z])), (q_h_now_km, .inl (K.2.2.1, 8, .inl v_now_km)), (q_h_now_cell, .inl (K.2.2.1, 8, .inl v_now_cell)), (q_h_now_warm, .inl (K.2.2.1, 8, .inl v_now_warm))]) (w1 := (fun (u : (Nat → Int32)) => [(q_h, .inr (6, [(.ref q_h_now), g_h_kept, g_h_thought, g_h_reader, g_h_speaker, g_h_sheets, g_h_warmUnchanged, .ref q_h_errors, g_h_images])), (q_h_errors, .inl (K.2.2.1, 6, .inl u))])) (va_runV (As := [.int (1 : Int32)]) (rest := []) ⟨hx, hb, hml, hown, hts⟩ (c_X7_error l K q_h q_h_errors (.ref q_h_now) g_h_kept g_h_thought g_h_reader g_h_speaker g_h_sheets g_h_warmUnchanged g_h_images H.size (1 : Int32) v_errors _ hw) (cwV 1 hts (vGoodV k_303 k_305 k_0 k_57 k_306) rfl rfl rfl (by decide +kernel) ⟨Nat.le_of_ble_eq_true rfl, Nat.le_of_ble_eq_true rfl⟩) ⟨vPre_blind, va_recv hX.1 hP (ci := 6) (q0 := 0) rfl rfl, fun U hU hW => ⟨rfl, vPre_of hX hP hD hS [0, 2] rfl (by decide) U hU hW⟩⟩ rfl rfl hl.1 rfl (lv_room (Nat.le_of_ble_eq_true rfl)) dX7_house_19 ⟨Nat.zero_le _, Nat.zero_le _⟩) hX hP hD hS [0, 2] [1, 3, 4, 5] rfl rfl (by decide) (by decide) (fun r_4 v_errors_3 H locs hw hP hD hS => ?_)
    have hP : va_P K.1 vwCl [(q_h, .inr (6, [.ref q_h_now, g_h_kept, g_h_thought, g_h_reader, g_h_speaker, g_h_sheets, g_h_warmUnchanged, .ref q_h_errors, g_h_images])), (q_h_now, .inr (4, [g_h_now_heat, g_h_now_doors, g_h_now_fed, g_h_now_wants, g_h_now_burnt, g_h_now_hour, .int v_now_houses, .ref q_h_now_km, .ref q_h_now_cell, .ref q_h_now_warm, g_h_now_content, g_h_now_going, g_h_now_wanted, g_h_now_goes, g_h_now_tape, g_h_now_waiting, g_h_now_z])), (q_h_errors, .inl (K.2.2.1, 6, .inl v_errors_3)), (q_h_now_km, .inl (K.2.2.1, 8, .inl v_now_km)), (q_h_now_cell, .inl (K.2.2.1, 8, .inl v_now_cell)), (q_h_now_warm, .inl (K.2.2.1, 8, .inl v_now_warm))] H := hP.sub [4, 0, 5, 1, 2, 3] rfl
    have hD : va_D A [(q_h, .inr (6, [.ref q_h_now, g_h_kept, g_h_thought, g_h_reader, g_h_speaker, g_h_sheets, g_h_warmUnchanged, .ref q_h_errors, g_h_images])), (q_h_now, .inr (4, [g_h_now_heat, g_h_now_doors, g_h_now_fed, g_h_now_wants, g_h_now_burnt, g_h_now_hour, .int v_now_houses, .ref q_h_now_km, .ref q_h_now_cell, .ref q_h_now_warm, g_h_now_content, g_h_now_going, g_h_now_wanted, g_h_now_goes, g_h_now_tape, g_h_now_waiting, g_h_now_z])), (q_h_errors, .inl (K.2.2.1, 6, .inl v_errors_3)), (q_h_now_km, .inl (K.2.2.1, 8, .inl v_now_km)), (q_h_now_cell, .inl (K.2.2.1, 8, .inl v_now_cell)), (q_h_now_warm, .inl (K.2.2.1, 8, .inl v_now_warm))] := hD.sub [4, 0, 5, 1, 2, 3] (by decide) rfl
    exact W.iret (v := r_4) hx hb hr (fun t ht hW => ⟨⟨r_4, (v_now_houses, v_errors_3, v_now_km, v_now_cell, v_now_warm), rfl, hw, by rw [ht]; exact hP, va_K.moved hW.alike hX.1, hD⟩, hS.F ht⟩) hS.2.2 dX7_house_22 hlocks
  · have hw := hw.2 c_2
    refine lv_iload_n hx hb dX7_house_10 rfl (lv_at hl 2 rfl) ?_
    refine vCalli (K := K) (wr := [(q_h, .inr (6, [.ref q_h_now, g_h_kept, g_h_thought, g_h_reader, g_h_speaker, g_h_sheets, g_h_warmUnchanged, .ref q_h_errors, g_h_images])), (q_h_now, .inr (4, [g_h_now_heat, g_h_now_doors, g_h_now_fed, g_h_now_wants, g_h_now_burnt, g_h_now_hour, .int v_now_houses, .ref q_h_now_km, .ref q_h_now_cell, .ref q_h_now_warm, g_h_now_content, g_h_now_going, g_h_now_wanted, g_h_now_goes, g_h_now_tape, g_h_now_waiting, g_h_now_z])), (q_h_errors, .inl (K.2.2.1, 6, .inl v_errors)), (q_h_now_km, .inl (K.2.2.1, 8, .inl v_now_km)), (q_h_now_cell, .inl (K.2.2.1, 8, .inl v_now_cell)), (q_h_now_warm, .inl (K.2.2.1, 8, .inl v_now_warm))]) (w1 := (fun _ => [])) (va_runS (As := [.int a2]) (rest := []) ⟨hx, hb, hml, hown, hts⟩ (c_X7_isCell l K  H.size a2 _ hw) (va_cwS 1 hts (vGoodS k_297 k_298 k_57 k_299) rfl rfl rfl (by decide +kernel) ⟨Nat.le_of_ble_eq_true rfl, Nat.le_of_ble_eq_true rfl⟩) ⟨vPre_blind, fun U hU hW => ⟨rfl, vPre_of hX hP hD hS [] rfl (by decide) U hU hW⟩⟩ rfl rfl hl.1 rfl (lv_room (Nat.le_of_ble_eq_true rfl)) dX7_house_11 ⟨Nat.zero_le _, Nat.zero_le _⟩) hX hP hD hS [] [0, 1, 2, 3, 4, 5] rfl rfl (by decide) (by decide) (fun r_5 u H locs hw hP hD hS => ?_)
    have hP : va_P K.1 vwCl [(q_h, .inr (6, [.ref q_h_now, g_h_kept, g_h_thought, g_h_reader, g_h_speaker, g_h_sheets, g_h_warmUnchanged, .ref q_h_errors, g_h_images])), (q_h_now, .inr (4, [g_h_now_heat, g_h_now_doors, g_h_now_fed, g_h_now_wants, g_h_now_burnt, g_h_now_hour, .int v_now_houses, .ref q_h_now_km, .ref q_h_now_cell, .ref q_h_now_warm, g_h_now_content, g_h_now_going, g_h_now_wanted, g_h_now_goes, g_h_now_tape, g_h_now_waiting, g_h_now_z])), (q_h_errors, .inl (K.2.2.1, 6, .inl v_errors)), (q_h_now_km, .inl (K.2.2.1, 8, .inl v_now_km)), (q_h_now_cell, .inl (K.2.2.1, 8, .inl v_now_cell)), (q_h_now_warm, .inl (K.2.2.1, 8, .inl v_now_warm))] H := hP.sub [0, 1, 2, 3, 4, 5] rfl
    have hD : va_D A [(q_h, .inr (6, [.ref q_h_now, g_h_kept, g_h_thought, g_h_reader, g_h_speaker, g_h_sheets, g_h_warmUnchanged, .ref q_h_errors, g_h_images])), (q_h_now, .inr (4, [g_h_now_heat, g_h_now_doors, g_h_now_fed, g_h_now_wants, g_h_now_burnt, g_h_now_hour, .int v_now_houses, .ref q_h_now_km, .ref q_h_now_cell, .ref q_h_now_warm, g_h_now_content, g_h_now_going, g_h_now_wanted, g_h_now_goes, g_h_now_tape, g_h_now_waiting, g_h_now_z])), (q_h_errors, .inl (K.2.2.1, 6, .inl v_errors)), (q_h_now_km, .inl (K.2.2.1, 8, .inl v_now_km)), (q_h_now_cell, .inl (K.2.2.1, 8, .inl v_now_cell)), (q_h_now_warm, .inl (K.2.2.1, 8, .inl v_now_warm))] := hD.sub [0, 1, 2, 3, 4, 5] (by decide) rfl
    have hz_r_5 := hw.1
    have hw := hw.2
    refine lv_if_ne (tgt := 23) hx hb dX7_house_14 (by decide) (fun c_6 => ?_) (fun c_6 => ?_)
    · have hw := hw.2 c_6
      refine lv_aload_n hx hb dX7_house_23 rfl (lv_at hl 0 rfl) ?_
      refine va_get (D := K.1) (ci := 6) (v := .ref q_h_now) (C := RX7) (T := TX7) (N := 9) hx hb hts iwX7 hown hX.1 hP 0 rfl rfl 0 (by decide) (hts _ k_265) (fun _ h9 => h9) rfl dX7_house_24 ?_
      refine va_get (D := K.1) (ci := 4) (v := .int v_now_houses) (C := RX5) (T := TX5) (N := 17) hx hb hts iwX5 hown hX.1 hP 1 rfl rfl 6 (by decide) (hts _ k_145) (fun _ h9 => h9) rfl dX7_house_27 ?_
      refine lv_istore_n (lv' := [(3, .int v_now_houses), (0, .ref q_h), (1, .int a1), (2, .int a2)]) hx hb dX7_house_30 rfl hl (by decide) rfl (fun ls hl => ?_)
      refine lv_iload_n hx hb dX7_house_31 rfl (lv_at hl 0 rfl) ?_
      refine lv_bipush (v := (8 : Int32)) hx hb dX7_house_32 (by decide) ?_
      refine lv_icmp_lt (tgt := 43) hx hb dX7_house_34 (by decide) (fun c_7 => ?_) (fun c_7 => ?_)
      · have hw := hw.1 c_7
        refine lv_aload_n hx hb dX7_house_43 rfl (lv_at hl 1 rfl) ?_
        refine va_get (D := K.1) (ci := 6) (v := .ref q_h_now) (C := RX7) (T := TX7) (N := 9) hx hb hts iwX7 hown hX.1 hP 0 rfl rfl 0 (by decide) (hts _ k_265) (fun _ h9 => h9) rfl dX7_house_44 ?_
        refine va_get (D := K.1) (ci := 4) (v := .ref q_h_now_km) (C := RX5) (T := TX5) (N := 17) hx hb hts iwX5 hown hX.1 hP 1 rfl rfl 7 (by decide) (hts _ k_147) (fun _ h9 => h9) rfl dX7_house_47 ?_
        refine lv_iload_n hx hb dX7_house_50 rfl (lv_at hl 0 rfl) ?_
        refine lv_iload_n hx hb dX7_house_51 rfl (lv_at hl 2 rfl) ?_
        refine va_iast hx hb hX.1 hP hD hS 3 0 rfl rfl hw.1 dX7_house_52 (fun H locs hP hD hS => ?_)
        have hP : va_P K.1 vwCl [(q_h, .inr (6, [.ref q_h_now, g_h_kept, g_h_thought, g_h_reader, g_h_speaker, g_h_sheets, g_h_warmUnchanged, .ref q_h_errors, g_h_images])), (q_h_now, .inr (4, [g_h_now_heat, g_h_now_doors, g_h_now_fed, g_h_now_wants, g_h_now_burnt, g_h_now_hour, .int v_now_houses, .ref q_h_now_km, .ref q_h_now_cell, .ref q_h_now_warm, g_h_now_content, g_h_now_going, g_h_now_wanted, g_h_now_goes, g_h_now_tape, g_h_now_waiting, g_h_now_z])), (q_h_errors, .inl (K.2.2.1, 6, .inl v_errors)), (q_h_now_km, .inl (K.2.2.1, 8, .inl (upd v_now_km v_now_houses.toNatClampNeg a1))), (q_h_now_cell, .inl (K.2.2.1, 8, .inl v_now_cell)), (q_h_now_warm, .inl (K.2.2.1, 8, .inl v_now_warm))] H := hP
        have hD : va_D A [(q_h, .inr (6, [.ref q_h_now, g_h_kept, g_h_thought, g_h_reader, g_h_speaker, g_h_sheets, g_h_warmUnchanged, .ref q_h_errors, g_h_images])), (q_h_now, .inr (4, [g_h_now_heat, g_h_now_doors, g_h_now_fed, g_h_now_wants, g_h_now_burnt, g_h_now_hour, .int v_now_houses, .ref q_h_now_km, .ref q_h_now_cell, .ref q_h_now_warm, g_h_now_content, g_h_now_going, g_h_now_wanted, g_h_now_goes, g_h_now_tape, g_h_now_waiting, g_h_now_z])), (q_h_errors, .inl (K.2.2.1, 6, .inl v_errors)), (q_h_now_km, .inl (K.2.2.1, 8, .inl (upd v_now_km v_now_houses.toNatClampNeg a1))), (q_h_now_cell, .inl (K.2.2.1, 8, .inl v_now_cell)), (q_h_now_warm, .inl (K.2.2.1, 8, .inl v_now_warm))] := hD
        have hw := hw.2
        refine lv_aload_n hx hb dX7_house_53 rfl (lv_at hl 1 rfl) ?_
        refine va_get (D := K.1) (ci := 6) (v := .ref q_h_now) (C := RX7) (T := TX7) (N := 9) hx hb hts iwX7 hown hX.1 hP 0 rfl rfl 0 (by decide) (hts _ k_265) (fun _ h9 => h9) rfl dX7_house_54 ?_
        refine va_get (D := K.1) (ci := 4) (v := .ref q_h_now_cell) (C := RX5) (T := TX5) (N := 17) hx hb hts iwX5 hown hX.1 hP 1 rfl rfl 8 (by decide) (hts _ k_149) (fun _ h9 => h9) rfl dX7_house_57 ?_
        refine lv_iload_n hx hb dX7_house_60 rfl (lv_at hl 0 rfl) ?_
        refine lv_iload_n hx hb dX7_house_61 rfl (lv_at hl 3 rfl) ?_
        refine va_iast hx hb hX.1 hP hD hS 4 0 rfl rfl hw.1 dX7_house_62 (fun H locs hP hD hS => ?_)
        have hP : va_P K.1 vwCl [(q_h, .inr (6, [.ref q_h_now, g_h_kept, g_h_thought, g_h_reader, g_h_speaker, g_h_sheets, g_h_warmUnchanged, .ref q_h_errors, g_h_images])), (q_h_now, .inr (4, [g_h_now_heat, g_h_now_doors, g_h_now_fed, g_h_now_wants, g_h_now_burnt, g_h_now_hour, .int v_now_houses, .ref q_h_now_km, .ref q_h_now_cell, .ref q_h_now_warm, g_h_now_content, g_h_now_going, g_h_now_wanted, g_h_now_goes, g_h_now_tape, g_h_now_waiting, g_h_now_z])), (q_h_errors, .inl (K.2.2.1, 6, .inl v_errors)), (q_h_now_km, .inl (K.2.2.1, 8, .inl (upd v_now_km v_now_houses.toNatClampNeg a1))), (q_h_now_cell, .inl (K.2.2.1, 8, .inl (upd v_now_cell v_now_houses.toNatClampNeg a2))), (q_h_now_warm, .inl (K.2.2.1, 8, .inl v_now_warm))] H := hP
        have hD : va_D A [(q_h, .inr (6, [.ref q_h_now, g_h_kept, g_h_thought, g_h_reader, g_h_speaker, g_h_sheets, g_h_warmUnchanged, .ref q_h_errors, g_h_images])), (q_h_now, .inr (4, [g_h_now_heat, g_h_now_doors, g_h_now_fed, g_h_now_wants, g_h_now_burnt, g_h_now_hour, .int v_now_houses, .ref q_h_now_km, .ref q_h_now_cell, .ref q_h_now_warm, g_h_now_content, g_h_now_going, g_h_now_wanted, g_h_now_goes, g_h_now_tape, g_h_now_waiting, g_h_now_z])), (q_h_errors, .inl (K.2.2.1, 6, .inl v_errors)), (q_h_now_km, .inl (K.2.2.1, 8, .inl (upd v_now_km v_now_houses.toNatClampNeg a1))), (q_h_now_cell, .inl (K.2.2.1, 8, .inl (upd v_now_cell v_now_houses.toNatClampNeg a2))), (q_h_now_warm, .inl (K.2.2.1, 8, .inl v_now_warm))] := hD
        have hw := hw.2
        refine lv_aload_n hx hb dX7_house_63 rfl (lv_at hl 1 rfl) ?_
        refine va_get (D := K.1) (ci := 6) (v := .ref q_h_now) (C := RX7) (T := TX7) (N := 9) hx hb hts iwX7 hown hX.1 hP 0 rfl rfl 0 (by decide) (hts _ k_265) (fun _ h9 => h9) rfl dX7_house_64 ?_
        refine va_get (D := K.1) (ci := 4) (v := .ref q_h_now_warm) (C := RX5) (T := TX5) (N := 17) hx hb hts iwX5 hown hX.1 hP 1 rfl rfl 9 (by decide) (hts _ k_151) (fun _ h9 => h9) rfl dX7_house_67 ?_
        refine lv_iload_n hx hb dX7_house_70 rfl (lv_at hl 0 rfl) ?_
        refine lv_iconst (v := (0 : Int32)) hx hb dX7_house_71 (by decide) ?_
        refine va_iast hx hb hX.1 hP hD hS 5 0 rfl rfl hw.1 dX7_house_72 (fun H locs hP hD hS => ?_)
        have hP : va_P K.1 vwCl [(q_h, .inr (6, [.ref q_h_now, g_h_kept, g_h_thought, g_h_reader, g_h_speaker, g_h_sheets, g_h_warmUnchanged, .ref q_h_errors, g_h_images])), (q_h_now, .inr (4, [g_h_now_heat, g_h_now_doors, g_h_now_fed, g_h_now_wants, g_h_now_burnt, g_h_now_hour, .int v_now_houses, .ref q_h_now_km, .ref q_h_now_cell, .ref q_h_now_warm, g_h_now_content, g_h_now_going, g_h_now_wanted, g_h_now_goes, g_h_now_tape, g_h_now_waiting, g_h_now_z])), (q_h_errors, .inl (K.2.2.1, 6, .inl v_errors)), (q_h_now_km, .inl (K.2.2.1, 8, .inl (upd v_now_km v_now_houses.toNatClampNeg a1))), (q_h_now_cell, .inl (K.2.2.1, 8, .inl (upd v_now_cell v_now_houses.toNatClampNeg a2))), (q_h_now_warm, .inl (K.2.2.1, 8, .inl (upd v_now_warm v_now_houses.toNatClampNeg (0 : Int32))))] H := hP
        have hD : va_D A [(q_h, .inr (6, [.ref q_h_now, g_h_kept, g_h_thought, g_h_reader, g_h_speaker, g_h_sheets, g_h_warmUnchanged, .ref q_h_errors, g_h_images])), (q_h_now, .inr (4, [g_h_now_heat, g_h_now_doors, g_h_now_fed, g_h_now_wants, g_h_now_burnt, g_h_now_hour, .int v_now_houses, .ref q_h_now_km, .ref q_h_now_cell, .ref q_h_now_warm, g_h_now_content, g_h_now_going, g_h_now_wanted, g_h_now_goes, g_h_now_tape, g_h_now_waiting, g_h_now_z])), (q_h_errors, .inl (K.2.2.1, 6, .inl v_errors)), (q_h_now_km, .inl (K.2.2.1, 8, .inl (upd v_now_km v_now_houses.toNatClampNeg a1))), (q_h_now_cell, .inl (K.2.2.1, 8, .inl (upd v_now_cell v_now_houses.toNatClampNeg a2))), (q_h_now_warm, .inl (K.2.2.1, 8, .inl (upd v_now_warm v_now_houses.toNatClampNeg (0 : Int32))))] := hD
        have hw := hw.2
        refine lv_aload_n hx hb dX7_house_73 rfl (lv_at hl 1 rfl) ?_
        refine va_get (D := K.1) (ci := 6) (v := .ref q_h_now) (C := RX7) (T := TX7) (N := 9) hx hb hts iwX7 hown hX.1 hP 0 rfl rfl 0 (by decide) (hts _ k_265) (fun _ h9 => h9) rfl dX7_house_74 ?_
        refine lv_iload_n hx hb dX7_house_77 rfl (lv_at hl 0 rfl) ?_
        refine lv_iconst (v := (1 : Int32)) hx hb dX7_house_78 (by decide) ?_
        refine lv_iadd hx hb dX7_house_79 ?_
        refine va_put (D := K.1) (ci := 4) (v := .int (v_now_houses + (1 : Int32))) (ty := .int) (C := RX5) (T := TX5) (N := 17) hx hb hts iwX5 tyX5 tyX5_ok nmX5 hown hX.1 hP hD hS 1 rfl rfl 6 (by decide) (hts _ k_145) (fun _ h9 => h9) rfl (by decide +kernel) rfl rfl (Nat.le_of_ble_eq_true rfl) dX7_house_80 (fun H locs hP hD hS => ?_)
        have hP : va_P K.1 vwCl [(q_h, .inr (6, [.ref q_h_now, g_h_kept, g_h_thought, g_h_reader, g_h_speaker, g_h_sheets, g_h_warmUnchanged, .ref q_h_errors, g_h_images])), (q_h_now, .inr (4, [g_h_now_heat, g_h_now_doors, g_h_now_fed, g_h_now_wants, g_h_now_burnt, g_h_now_hour, .int (v_now_houses + (1 : Int32)), .ref q_h_now_km, .ref q_h_now_cell, .ref q_h_now_warm, g_h_now_content, g_h_now_going, g_h_now_wanted, g_h_now_goes, g_h_now_tape, g_h_now_waiting, g_h_now_z])), (q_h_errors, .inl (K.2.2.1, 6, .inl v_errors)), (q_h_now_km, .inl (K.2.2.1, 8, .inl (upd v_now_km v_now_houses.toNatClampNeg a1))), (q_h_now_cell, .inl (K.2.2.1, 8, .inl (upd v_now_cell v_now_houses.toNatClampNeg a2))), (q_h_now_warm, .inl (K.2.2.1, 8, .inl (upd v_now_warm v_now_houses.toNatClampNeg (0 : Int32))))] H := hP
        have hD : va_D A [(q_h, .inr (6, [.ref q_h_now, g_h_kept, g_h_thought, g_h_reader, g_h_speaker, g_h_sheets, g_h_warmUnchanged, .ref q_h_errors, g_h_images])), (q_h_now, .inr (4, [g_h_now_heat, g_h_now_doors, g_h_now_fed, g_h_now_wants, g_h_now_burnt, g_h_now_hour, .int (v_now_houses + (1 : Int32)), .ref q_h_now_km, .ref q_h_now_cell, .ref q_h_now_warm, g_h_now_content, g_h_now_going, g_h_now_wanted, g_h_now_goes, g_h_now_tape, g_h_now_waiting, g_h_now_z])), (q_h_errors, .inl (K.2.2.1, 6, .inl v_errors)), (q_h_now_km, .inl (K.2.2.1, 8, .inl (upd v_now_km v_now_houses.toNatClampNeg a1))), (q_h_now_cell, .inl (K.2.2.1, 8, .inl (upd v_now_cell v_now_houses.toNatClampNeg a2))), (q_h_now_warm, .inl (K.2.2.1, 8, .inl (upd v_now_warm v_now_houses.toNatClampNeg (0 : Int32))))] := hD
        refine lv_iload_n hx hb dX7_house_83 rfl (lv_at hl 0 rfl) ?_
        exact W.iret (v := v_now_houses) hx hb hr (fun t ht hW => ⟨⟨v_now_houses, ((v_now_houses + (1 : Int32)), v_errors, (upd v_now_km v_now_houses.toNatClampNeg a1), (upd v_now_cell v_now_houses.toNatClampNeg a2), (upd v_now_warm v_now_houses.toNatClampNeg (0 : Int32))), rfl, hw, by rw [ht]; exact hP, va_K.moved hW.alike hX.1, hD⟩, hS.F ht⟩) hS.2.2 dX7_house_84 hlocks
      · have hw := hw.2 c_7
        refine lv_aload_n hx hb dX7_house_37 rfl (lv_at hl 1 rfl) ?_
        refine lv_iconst (v := (4 : Int32)) hx hb dX7_house_38 (by decide) ?_
        refine vCalli (K := K) (wr := [(q_h_now, .inr (4, [g_h_now_heat, g_h_now_doors, g_h_now_fed, g_h_now_wants, g_h_now_burnt, g_h_now_hour, .int v_now_houses, .ref q_h_now_km, .ref q_h_now_cell, .ref q_h_now_warm, g_h_now_content, g_h_now_going, g_h_now_wanted, g_h_now_goes, g_h_now_tape, g_h_now_waiting, g_h_now_z])), (q_h_now_km, .inl (K.2.2.1, 8, .inl v_now_km)), (q_h_now_cell, .inl (K.2.2.1, 8, .inl v_now_cell)), (q_h_now_warm, .inl (K.2.2.1, 8, .inl v_now_warm))]) (w1 := (fun (u : (Nat → Int32)) => [(q_h, .inr (6, [(.ref q_h_now), g_h_kept, g_h_thought, g_h_reader, g_h_speaker, g_h_sheets, g_h_warmUnchanged, .ref q_h_errors, g_h_images])), (q_h_errors, .inl (K.2.2.1, 6, .inl u))])) (va_runV (As := [.int (4 : Int32)]) (rest := []) ⟨hx, hb, hml, hown, hts⟩ (c_X7_error l K q_h q_h_errors (.ref q_h_now) g_h_kept g_h_thought g_h_reader g_h_speaker g_h_sheets g_h_warmUnchanged g_h_images H.size (4 : Int32) v_errors _ hw) (cwV 1 hts (vGoodV k_303 k_305 k_0 k_57 k_306) rfl rfl rfl (by decide +kernel) ⟨Nat.le_of_ble_eq_true rfl, Nat.le_of_ble_eq_true rfl⟩) ⟨vPre_blind, va_recv hX.1 hP (ci := 6) (q0 := 0) rfl rfl, fun U hU hW => ⟨rfl, vPre_of hX hP hD hS [0, 2] rfl (by decide) U hU hW⟩⟩ rfl rfl hl.1 rfl (lv_room (Nat.le_of_ble_eq_true rfl)) dX7_house_39 ⟨Nat.zero_le _, Nat.zero_le _⟩) hX hP hD hS [0, 2] [1, 3, 4, 5] rfl rfl (by decide) (by decide) (fun r_9 v_errors_8 H locs hw hP hD hS => ?_)
        have hP : va_P K.1 vwCl [(q_h, .inr (6, [.ref q_h_now, g_h_kept, g_h_thought, g_h_reader, g_h_speaker, g_h_sheets, g_h_warmUnchanged, .ref q_h_errors, g_h_images])), (q_h_now, .inr (4, [g_h_now_heat, g_h_now_doors, g_h_now_fed, g_h_now_wants, g_h_now_burnt, g_h_now_hour, .int v_now_houses, .ref q_h_now_km, .ref q_h_now_cell, .ref q_h_now_warm, g_h_now_content, g_h_now_going, g_h_now_wanted, g_h_now_goes, g_h_now_tape, g_h_now_waiting, g_h_now_z])), (q_h_errors, .inl (K.2.2.1, 6, .inl v_errors_8)), (q_h_now_km, .inl (K.2.2.1, 8, .inl v_now_km)), (q_h_now_cell, .inl (K.2.2.1, 8, .inl v_now_cell)), (q_h_now_warm, .inl (K.2.2.1, 8, .inl v_now_warm))] H := hP.sub [4, 0, 5, 1, 2, 3] rfl
        have hD : va_D A [(q_h, .inr (6, [.ref q_h_now, g_h_kept, g_h_thought, g_h_reader, g_h_speaker, g_h_sheets, g_h_warmUnchanged, .ref q_h_errors, g_h_images])), (q_h_now, .inr (4, [g_h_now_heat, g_h_now_doors, g_h_now_fed, g_h_now_wants, g_h_now_burnt, g_h_now_hour, .int v_now_houses, .ref q_h_now_km, .ref q_h_now_cell, .ref q_h_now_warm, g_h_now_content, g_h_now_going, g_h_now_wanted, g_h_now_goes, g_h_now_tape, g_h_now_waiting, g_h_now_z])), (q_h_errors, .inl (K.2.2.1, 6, .inl v_errors_8)), (q_h_now_km, .inl (K.2.2.1, 8, .inl v_now_km)), (q_h_now_cell, .inl (K.2.2.1, 8, .inl v_now_cell)), (q_h_now_warm, .inl (K.2.2.1, 8, .inl v_now_warm))] := hD.sub [4, 0, 5, 1, 2, 3] (by decide) rfl
        exact W.iret (v := r_9) hx hb hr (fun t ht hW => ⟨⟨r_9, (v_now_houses, v_errors_8, v_now_km, v_now_cell, v_now_warm), rfl, hw, by rw [ht]; exact hP, va_K.moved hW.alike hX.1, hD⟩, hS.F ht⟩) hS.2.2 dX7_house_42 hlocks
    · have hw := hw.1 c_6
      refine lv_aload_n hx hb dX7_house_17 rfl (lv_at hl 0 rfl) ?_
      refine lv_iconst (v := (1 : Int32)) hx hb dX7_house_18 (by decide) ?_
      refine vCalli (K := K) (wr := [(q_h_now, .inr (4, [g_h_now_heat, g_h_now_doors, g_h_now_fed, g_h_now_wants, g_h_now_burnt, g_h_now_hour, .int v_now_houses, .ref q_h_now_km, .ref q_h_now_cell, .ref q_h_now_warm, g_h_now_content, g_h_now_going, g_h_now_wanted, g_h_now_goes, g_h_now_tape, g_h_now_waiting, g_h_now_z])), (q_h_now_km, .inl (K.2.2.1, 8, .inl v_now_km)), (q_h_now_cell, .inl (K.2.2.1, 8, .inl v_now_cell)), (q_h_now_warm, .inl (K.2.2.1, 8, .inl v_now_warm))]) (w1 := (fun (u : (Nat → Int32)) => [(q_h, .inr (6, [(.ref q_h_now), g_h_kept, g_h_thought, g_h_reader, g_h_speaker, g_h_sheets, g_h_warmUnchanged, .ref q_h_errors, g_h_images])), (q_h_errors, .inl (K.2.2.1, 6, .inl u))])) (va_runV (As := [.int (1 : Int32)]) (rest := []) ⟨hx, hb, hml, hown, hts⟩ (c_X7_error l K q_h q_h_errors (.ref q_h_now) g_h_kept g_h_thought g_h_reader g_h_speaker g_h_sheets g_h_warmUnchanged g_h_images H.size (1 : Int32) v_errors _ hw) (cwV 1 hts (vGoodV k_303 k_305 k_0 k_57 k_306) rfl rfl rfl (by decide +kernel) ⟨Nat.le_of_ble_eq_true rfl, Nat.le_of_ble_eq_true rfl⟩) ⟨vPre_blind, va_recv hX.1 hP (ci := 6) (q0 := 0) rfl rfl, fun U hU hW => ⟨rfl, vPre_of hX hP hD hS [0, 2] rfl (by decide) U hU hW⟩⟩ rfl rfl hl.1 rfl (lv_room (Nat.le_of_ble_eq_true rfl)) dX7_house_19 ⟨Nat.zero_le _, Nat.zero_le _⟩) hX hP hD hS [0, 2] [1, 3, 4, 5] rfl rfl (by decide) (by decide) (fun r_11 v_errors_10 H locs hw hP hD hS => ?_)
      have hP : va_P K.1 vwCl [(q_h, .inr (6, [.ref q_h_now, g_h_kept, g_h_thought, g_h_reader, g_h_speaker, g_h_sheets, g_h_warmUnchanged, .ref q_h_errors, g_h_images])), (q_h_now, .inr (4, [g_h_now_heat, g_h_now_doors, g_h_now_fed, g_h_now_wants, g_h_now_burnt, g_h_now_hour, .int v_now_houses, .ref q_h_now_km, .ref q_h_now_cell, .ref q_h_now_warm, g_h_now_content, g_h_now_going, g_h_now_wanted, g_h_now_goes, g_h_now_tape, g_h_now_waiting, g_h_now_z])), (q_h_errors, .inl (K.2.2.1, 6, .inl v_errors_10)), (q_h_now_km, .inl (K.2.2.1, 8, .inl v_now_km)), (q_h_now_cell, .inl (K.2.2.1, 8, .inl v_now_cell)), (q_h_now_warm, .inl (K.2.2.1, 8, .inl v_now_warm))] H := hP.sub [4, 0, 5, 1, 2, 3] rfl
      have hD : va_D A [(q_h, .inr (6, [.ref q_h_now, g_h_kept, g_h_thought, g_h_reader, g_h_speaker, g_h_sheets, g_h_warmUnchanged, .ref q_h_errors, g_h_images])), (q_h_now, .inr (4, [g_h_now_heat, g_h_now_doors, g_h_now_fed, g_h_now_wants, g_h_now_burnt, g_h_now_hour, .int v_now_houses, .ref q_h_now_km, .ref q_h_now_cell, .ref q_h_now_warm, g_h_now_content, g_h_now_going, g_h_now_wanted, g_h_now_goes, g_h_now_tape, g_h_now_waiting, g_h_now_z])), (q_h_errors, .inl (K.2.2.1, 6, .inl v_errors_10)), (q_h_now_km, .inl (K.2.2.1, 8, .inl v_now_km)), (q_h_now_cell, .inl (K.2.2.1, 8, .inl v_now_cell)), (q_h_now_warm, .inl (K.2.2.1, 8, .inl v_now_warm))] := hD.sub [4, 0, 5, 1, 2, 3] (by decide) rfl
      exact W.iret (v := r_11) hx hb hr (fun t ht hW => ⟨⟨r_11, (v_now_houses, v_errors_10, v_now_km, v_now_cell, v_now_warm), rfl, hw, by rw [ht]; exact hP, va_K.moved hW.alike hX.1, hD⟩, hS.F ht⟩) hS.2.2 dX7_house_22 hlocks
/-! OvenRings.isHouse(I)Z -/
def wp_X7_isHouse (a1 : Int32) (v_now_houses : Int32) (post : Int32 → Prop) : Prop := (a1 < 0 → (post (0 : Int32))) ∧ (¬ a1 < 0 → ((v_now_houses ≤ a1 → (post (0 : Int32))) ∧ (¬ v_now_houses ≤ a1 → (((8 : Int32) ≤ a1 → (post (0 : Int32))) ∧ (¬ (8 : Int32) ≤ a1 → (post (1 : Int32)))))))
abbrev rm_X7_isHouse : Room := { frames := 0, cells := 0, slots := 0, locals := 0 }
abbrev Qc_X7_isHouse (K : vGl) (q_h q_h_now : Nat)  (g_h_kept : Value) (g_h_thought : Value) (g_h_reader : Value) (g_h_speaker : Value) (g_h_sheets : Value) (g_h_warmUnchanged : Value) (g_h_errors : Value) (g_h_images : Value) (g_h_now_heat : Value) (g_h_now_doors : Value) (g_h_now_fed : Value) (g_h_now_wants : Value) (g_h_now_burnt : Value) (g_h_now_hour : Value) (g_h_now_km : Value) (g_h_now_cell : Value) (g_h_now_warm : Value) (g_h_now_content : Value) (g_h_now_going : Value) (g_h_now_wanted : Value) (g_h_now_goes : Value) (g_h_now_tape : Value) (g_h_now_waiting : Value) (g_h_now_z : Value) (v_now_houses : Int32) (post : Int32 → Prop) (A : Nat → Prop) : Array Value → State → Outcome → State → Prop := va_Qi (fun (r : Int32) (u : Unit) => (r = 0 ∨ r = 1) ∧ post r ) (fun u t => vB K A [(q_h, .inr (6, [.ref q_h_now, g_h_kept, g_h_thought, g_h_reader, g_h_speaker, g_h_sheets, g_h_warmUnchanged, g_h_errors, g_h_images])), (q_h_now, .inr (4, [g_h_now_heat, g_h_now_doors, g_h_now_fed, g_h_now_wants, g_h_now_burnt, g_h_now_hour, .int v_now_houses, g_h_now_km, g_h_now_cell, g_h_now_warm, g_h_now_content, g_h_now_going, g_h_now_wanted, g_h_now_goes, g_h_now_tape, g_h_now_waiting, g_h_now_z]))] t) A
set_option maxHeartbeats 4000000 in
set_option maxRecDepth 100000 in
theorem c_X7_isHouse (l : Launch) (K : vGl) (q_h q_h_now : Nat)  (g_h_kept : Value) (g_h_thought : Value) (g_h_reader : Value) (g_h_speaker : Value) (g_h_sheets : Value) (g_h_warmUnchanged : Value) (g_h_errors : Value) (g_h_images : Value) (g_h_now_heat : Value) (g_h_now_doors : Value) (g_h_now_fed : Value) (g_h_now_wants : Value) (g_h_now_burnt : Value) (g_h_now_hour : Value) (g_h_now_km : Value) (g_h_now_cell : Value) (g_h_now_warm : Value) (g_h_now_content : Value) (g_h_now_going : Value) (g_h_now_wanted : Value) (g_h_now_goes : Value) (g_h_now_tape : Value) (g_h_now_waiting : Value) (g_h_now_z : Value) (sz : Nat) (a1 : Int32) (v_now_houses : Int32) (post : Int32 → Prop) (hw : wp_X7_isHouse a1 v_now_houses post) : Met l yX7_isHouse (.code yX7_isHouse cX7_isHouse 2 (some .boolean) :: vT) rm_X7_isHouse (va_Pc [.ref q_h, .int a1] (vPre K [(q_h, .inr (6, [.ref q_h_now, g_h_kept, g_h_thought, g_h_reader, g_h_speaker, g_h_sheets, g_h_warmUnchanged, g_h_errors, g_h_images])), (q_h_now, .inr (4, [g_h_now_heat, g_h_now_doors, g_h_now_fed, g_h_now_wants, g_h_now_burnt, g_h_now_hour, .int v_now_houses, g_h_now_km, g_h_now_cell, g_h_now_warm, g_h_now_content, g_h_now_going, g_h_now_wanted, g_h_now_goes, g_h_now_tape, g_h_now_waiting, g_h_now_z]))] sz)) (Qc_X7_isHouse K q_h q_h_now g_h_kept g_h_thought g_h_reader g_h_speaker g_h_sheets g_h_warmUnchanged g_h_errors g_h_images g_h_now_heat g_h_now_doors g_h_now_fed g_h_now_wants g_h_now_burnt g_h_now_hour g_h_now_km g_h_now_cell g_h_now_warm g_h_now_content g_h_now_going g_h_now_wanted g_h_now_goes g_h_now_tape g_h_now_waiting g_h_now_z v_now_houses post (va_A [(q_h, .inr (6, [.ref q_h_now, g_h_kept, g_h_thought, g_h_reader, g_h_speaker, g_h_sheets, g_h_warmUnchanged, g_h_errors, g_h_images])), (q_h_now, .inr (4, [g_h_now_heat, g_h_now_doors, g_h_now_fed, g_h_now_wants, g_h_now_burnt, g_h_now_hour, .int v_now_houses, g_h_now_km, g_h_now_cell, g_h_now_warm, g_h_now_content, g_h_now_going, g_h_now_wanted, g_h_now_goes, g_h_now_tape, g_h_now_waiting, g_h_now_z]))] sz)) 0 0 (va_A [(q_h, .inr (6, [.ref q_h_now, g_h_kept, g_h_thought, g_h_reader, g_h_speaker, g_h_sheets, g_h_warmUnchanged, g_h_errors, g_h_images])), (q_h_now, .inr (4, [g_h_now_heat, g_h_now_doors, g_h_now_fed, g_h_now_wants, g_h_now_burnt, g_h_now_hour, .int v_now_houses, g_h_now_km, g_h_now_cell, g_h_now_warm, g_h_now_content, g_h_now_going, g_h_now_wanted, g_h_now_goes, g_h_now_tape, g_h_now_waiting, g_h_now_z]))] sz) := by
  unfold wp_X7_isHouse at hw
  refine Met.ofW (cc := cX7_isHouse) (maxL := 2) (ret := (some .boolean)) (by decide) rfl ?_
  intro p e s m args below meth c s₁ B hml hv
  obtain ⟨rfl, hsz, hP, hK, hD0, hG, hR⟩ := hv
  have hx := B.exec
  have hb := B.bytes
  have hr := B.returns
  have hts : ∀ w ∈ vT, w.before _ s = true := fun w h => atoms_spec (ws := .code yX7_isHouse cX7_isHouse 2 (some .boolean) :: vT) B.pre w (List.mem_cons_of_mem _ h)
  have hown : s.vm.findClass RX7 = some m.cls := findClass_of_methodNamed B.named
  have hlocks := B.notSynchronized
  subst hsz
  have hD := hD0.self (sz := s.heap.size)
  show W p l e rm_X7_isHouse s m _ below meth c s.heap [] 0 0 _ _
  generalize hAe : va_A [(q_h, .inr (6, [.ref q_h_now, g_h_kept, g_h_thought, g_h_reader, g_h_speaker, g_h_sheets, g_h_warmUnchanged, g_h_errors, g_h_images])), (q_h_now, .inr (4, [g_h_now_heat, g_h_now_doors, g_h_now_fed, g_h_now_wants, g_h_now_burnt, g_h_now_hour, .int v_now_houses, g_h_now_km, g_h_now_cell, g_h_now_warm, g_h_now_content, g_h_now_going, g_h_now_wanted, g_h_now_goes, g_h_now_tape, g_h_now_waiting, g_h_now_z]))] s.heap.size = A at hD hG ⊢
  have hX : vX K A s := ⟨hK, hG, hR, fun q h => by rw [← hAe]; exact Or.inr h⟩
  have hS : va_S A s.heap s.heap [] := va_S.rf
  have F : vFx p s m ([.ref q_h, .int a1] : List Value).toArray meth c cX7_isHouse RX7 2 (some .boolean) := ⟨hx, hb, hml, hown, hts, hr, hlocks⟩
  have hl := lv_entry ([.ref q_h, .int a1]) (n := 2) (Nat.le_of_ble_eq_true rfl)
  rw [lg_entry_eq]
  generalize (lg_sl ([.ref q_h, .int a1]) ++ List.replicate (2 - (lg_sl ([.ref q_h, .int a1])).length) Slot.unset).toArray = ls at hl ⊢
  have hl : lv_has ls 2 [(0, .ref q_h), (1, .int a1)] := hl
  obtain ⟨H, hHe⟩ : ∃ H, H = s.heap := ⟨_, rfl⟩
  have hS : va_S A s.heap H [] := by rw [hHe]; exact hS
  have hP : va_P K.1 vwCl [(q_h, .inr (6, [.ref q_h_now, g_h_kept, g_h_thought, g_h_reader, g_h_speaker, g_h_sheets, g_h_warmUnchanged, g_h_errors, g_h_images])), (q_h_now, .inr (4, [g_h_now_heat, g_h_now_doors, g_h_now_fed, g_h_now_wants, g_h_now_burnt, g_h_now_hour, .int v_now_houses, g_h_now_km, g_h_now_cell, g_h_now_warm, g_h_now_content, g_h_now_going, g_h_now_wanted, g_h_now_goes, g_h_now_tape, g_h_now_waiting, g_h_now_z]))] H := by rw [hHe]; exact hP
  refine vWH hHe ?_
  refine lv_iload_n hx hb dX7_isHouse_0 rfl (lv_at hl 1 rfl) ?_
  refine lv_if_lt (tgt := 25) hx hb dX7_isHouse_1 (by decide) (fun c_1 => ?_) (fun c_1 => ?_)
  · have hw := hw.1 c_1
    refine lv_iconst (v := (0 : Int32)) hx hb dX7_isHouse_25 (by decide) ?_
    exact W.zret (v := (0 : Int32)) hx hb hr vZ0 (fun t ht hW => ⟨⟨(0 : Int32), (), rfl, ⟨Or.inl rfl, hw⟩, by rw [ht]; exact hP, va_K.moved hW.alike hX.1, hD⟩, hS.F ht⟩) hS.2.2 dX7_isHouse_26 hlocks
  · have hw := hw.2 c_1
    refine lv_iload_n hx hb dX7_isHouse_4 rfl (lv_at hl 1 rfl) ?_
    refine lv_aload_n hx hb dX7_isHouse_5 rfl (lv_at hl 0 rfl) ?_
    refine va_get (D := K.1) (ci := 6) (v := .ref q_h_now) (C := RX7) (T := TX7) (N := 9) hx hb hts iwX7 hown hX.1 hP 0 rfl rfl 0 (by decide) (hts _ k_265) (fun _ h9 => h9) rfl dX7_isHouse_6 ?_
    refine va_get (D := K.1) (ci := 4) (v := .int v_now_houses) (C := RX5) (T := TX5) (N := 17) hx hb hts iwX5 hown hX.1 hP 1 rfl rfl 6 (by decide) (hts _ k_145) (fun _ h9 => h9) rfl dX7_isHouse_9 ?_
    refine lv_icmp_ge (tgt := 25) hx hb dX7_isHouse_12 (by decide) (fun c_2 => ?_) (fun c_2 => ?_)
    · have hw := hw.1 c_2
      refine lv_iconst (v := (0 : Int32)) hx hb dX7_isHouse_25 (by decide) ?_
      exact W.zret (v := (0 : Int32)) hx hb hr vZ0 (fun t ht hW => ⟨⟨(0 : Int32), (), rfl, ⟨Or.inl rfl, hw⟩, by rw [ht]; exact hP, va_K.moved hW.alike hX.1, hD⟩, hS.F ht⟩) hS.2.2 dX7_isHouse_26 hlocks
    · have hw := hw.2 c_2
      refine lv_iload_n hx hb dX7_isHouse_15 rfl (lv_at hl 1 rfl) ?_
      refine lv_bipush (v := (8 : Int32)) hx hb dX7_isHouse_16 (by decide) ?_
      refine lv_icmp_ge (tgt := 25) hx hb dX7_isHouse_18 (by decide) (fun c_3 => ?_) (fun c_3 => ?_)
      · have hw := hw.1 c_3
        refine lv_iconst (v := (0 : Int32)) hx hb dX7_isHouse_25 (by decide) ?_
        exact W.zret (v := (0 : Int32)) hx hb hr vZ0 (fun t ht hW => ⟨⟨(0 : Int32), (), rfl, ⟨Or.inl rfl, hw⟩, by rw [ht]; exact hP, va_K.moved hW.alike hX.1, hD⟩, hS.F ht⟩) hS.2.2 dX7_isHouse_26 hlocks
      · have hw := hw.2 c_3
        refine lv_iconst (v := (1 : Int32)) hx hb dX7_isHouse_21 (by decide) ?_
        refine lv_goto (tgt := 26) hx hb dX7_isHouse_22 (by decide) ?_
        exact W.zret (v := (1 : Int32)) hx hb hr vZ1 (fun t ht hW => ⟨⟨(1 : Int32), (), rfl, ⟨Or.inr rfl, hw⟩, by rw [ht]; exact hP, va_K.moved hW.alike hX.1, hD⟩, hS.F ht⟩) hS.2.2 dX7_isHouse_26 hlocks
